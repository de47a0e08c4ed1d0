/-! the calls that only look -/
section MOP2
variable {F : Nat}
theorem op_size (hF : 2000 ≤ F) {K M B S : List Int} {bd : Int} {zk zm zb zs zr zu : zN} {zt : zT} {zmc : Int32} {yrow ymk yst ybu : Nat → Int32} {yrm ypc ybn : Int32} (yth : Int32) (h : LK K M B S bd) (hX : XS K M B S bd zk zm zb zs zr zu zt zmc) (hY : YS K M B S yrow ymk yrm yst ypc ybu ybn) : ∃ v, X2_size F zk zb zmc = some v ∧ X3_size F yth yrow ymk yrm ybu ybn = some (v, 0) := by
  obtain ⟨x1, x2, x3, x4, x5⟩ := hX
  obtain ⟨y1, y2, y3, y4, y5, y6, y7⟩ := hY
  subst y5 y6 y7 x5
  refine ⟨J (allN K M B), ?_, ?_⟩
  · unfold X2_size
    rw [keysThere_J h x1 x3]
    rfl
  · unfold X3_size
    rw [keys_JR hF h y1 y2 y4]
    rfl
theorem op_contains (hF : 2000 ≤ F) {K M B S : List Int} {bd : Int} {zk zm zb zs zr zu : zN} {zt : zT} {zmc : Int32} {yrow ymk yst ybu : Nat → Int32} {yrm ypc ybn : Int32} (yth : Int32) (h : LK K M B S bd) (hX : XS K M B S bd zk zm zb zs zr zu zt zmc) (hY : YS K M B S yrow ymk yrm yst ypc ybu ybn) (p : Int32) : ∃ v, X2_contains F zk zm zb p = some v ∧ X3_contains F yth yrow ymk yrm ybu ybn p = some (v, 0) := by
  obtain ⟨x1, x2, x3, x4, x5⟩ := hX
  obtain ⟨y1, y2, y3, y4, y5, y6, y7⟩ := hY
  subst y5 y6 y7 x5
  have hx := int_rng p
  have ep := J_of p
  generalize p.toInt = x at hx ep
  subst ep
  have a1 := isThere_J (x := x) hF h x1 x2 x3 hx
  have a2 := isThere_JR (x := x) hF h y1 y2 y4 hx
  unfold X2_contains X3_contains
  by_cases c : TH K M B x
  · rw [a1.1 c, a2.1 c]
    exact ⟨1, rfl, rfl⟩
  · rw [a1.2 c, a2.2 c]
    exact ⟨0, rfl, rfl⟩
theorem op_rank (hF : 2000 ≤ F) {K M B S : List Int} {bd : Int} {zk zm zb zs zr zu : zN} {zt : zT} {zmc : Int32} {yrow ymk yst ybu : Nat → Int32} {yrm ypc ybn : Int32} (yth : Int32) (h : LK K M B S bd) (hX : XS K M B S bd zk zm zb zs zr zu zt zmc) (hY : YS K M B S yrow ymk yrm yst ypc ybu ybn) (p : Int32) : ∃ v, X2_rank F zk zm zb p = some v ∧ X3_rank F yth yrow ymk yrm ybu ybn p = some (v, 0) := by
  obtain ⟨x1, x2, x3, x4, x5⟩ := hX
  obtain ⟨y1, y2, y3, y4, y5, y6, y7⟩ := hY
  subst y5 y6 y7 x5
  have hx := int_rng p
  have ep := J_of p
  generalize p.toInt = x at hx ep
  subst ep
  refine ⟨J (thN K M B x), ?_, ?_⟩
  · unfold X2_rank
    rw [thereBelow_J hF h x1 x2 x3 hx]
    rfl
  · unfold X3_rank
    rw [J_wide hx, below_JR hF h y1 y2 y4 (by omega)]
    rfl
theorem allN_le {K M B S : List Int} {bd : Int} (h : LK K M B S bd) : allN K M B ≤ 256 := by
  unfold allN
  have := cU_len K M K.length
  have := h.2.2.2.2.2.2.2.1
  omega
theorem keyThere_J (hF : 2000 ≤ F) {K M B S T : List Int} {bd : Int} {zk zm zb : zN} (zf : zN) (h : LK K M B S bd) (hk : RN 256 zk K) (hm : RN 256 zm M) (hb : RN 16 zb B) (hT : Srt T) (hTm : ∀ x, x ∈ T ↔ GM K M 0 K.length x ∨ BM B 0 B.length x) {q : Nat} (hq : q < T.length) : ∃ zf', X2_keyThere F zk zm zb zf (J q) = some (J (T.getD q 0), zf') := by
  obtain ⟨zf', T2, e1, e2, e3, e4⟩ := gatherAll_J hF zf h hk hm hb
  have : T2 = T := Srt_ext e3 hT (fun x => by rw [e4, hTm])
  subst this
  refine ⟨zf', ?_⟩
  unfold X2_keyThere
  rw [e1]
  simp only [Option.bind_some]
  rw [at_in e2 hq]
  rfl
theorem op_select (hF : 2000 ≤ F) {K M B S : List Int} {bd : Int} {zk zm zb zs zr zu : zN} {zt : zT} {zmc : Int32} {yrow ymk yst ybu : Nat → Int32} {yrm ypc ybn : Int32} (zf : zN) (yth : Int32) (h : LK K M B S bd) (hX : XS K M B S bd zk zm zb zs zr zu zt zmc) (hY : YS K M B S yrow ymk yrm yst ypc ybu ybn) (p : Int32) : (∃ v zf', X2_select F zk zm zb zf zmc p = some (Sum.inr (v, zf')) ∧ X3_select F yth yrow ymk yrm ybu ybn p = some (v, 0)) ∨ (∃ v, X2_select F zk zm zb zf zmc p = some (Sum.inl 3) ∧ X3_select F yth yrow ymk yrm ybu ybn p = some (v, 1)) := by
  obtain ⟨x1, x2, x3, x4, x5⟩ := hX
  obtain ⟨y1, y2, y3, y4, y5, y6, y7⟩ := hY
  subst y5 y6 y7 x5
  have hx := int_rng p
  have ep := J_of p
  generalize p.toInt = x at hx ep
  subst ep
  obtain ⟨zf0, T, t1, t2, t3, t4⟩ := gatherAll_J hF zf h x1 x2 x3
  have hp := th_perm h t3 t4
  have ha := allN_le h
  unfold X2_select X3_select
  rw [keysThere_J h x1 x3, keys_JR hF h y1 y2 y4, ← hp.1]
  rw [← hp.1] at ha
  by_cases c1 : x < 0
  · rw [if_pos (by rw [J_0, J_lt (by omega) (by omega)]; exact c1), if_pos (by rw [J_0, J_lt (by omega) (by omega)]; exact c1)]
    simp only [Option.bind_some]
    rw [if_neg (by decide)]
    exact Or.inr ⟨0, by first | rfl | trivial, by first | rfl | trivial⟩
  · rw [if_neg (by rw [J_0, J_lt (by omega) (by omega)]; exact c1), if_neg (by rw [J_0, J_lt (by omega) (by omega)]; exact c1)]
    simp only [Option.bind_some]
    by_cases c2 : (T.length : Int) ≤ x
    · rw [if_neg (by rw [J_lt (by omega) (by omega)]; omega), if_pos (by rw [J_le (by omega) (by omega)]; exact c2)]
      simp only [Option.bind_some]
      rw [if_neg (by decide)]
      exact Or.inr ⟨0, by first | rfl | trivial, by first | rfl | trivial⟩
    · rw [if_pos (by rw [J_lt (by omega) (by omega)]; omega), if_neg (by rw [J_le (by omega) (by omega)]; exact c2)]
      simp only [Option.bind_some]
      obtain ⟨q, hq⟩ : ∃ q : Nat, x = (q : Int) := ⟨x.toNat, by omega⟩
      subst hq
      obtain ⟨zf', e1⟩ := keyThere_J hF zf h x1 x2 x3 t3 t4 (q := q) (by omega)
      rw [e1, if_pos (by decide), behindSo_J hF h y1 y2 y4 t3 t4 (by omega)]
      exact Or.inl ⟨_, zf', rfl, rfl⟩
theorem op_ceiling (hF : 2000 ≤ F) {K M B S : List Int} {bd : Int} {zk zm zb zs zr zu : zN} {zt : zT} {zmc : Int32} {yrow ymk yst ybu : Nat → Int32} {yrm ypc ybn : Int32} (zf : zN) (yth : Int32) (h : LK K M B S bd) (hX : XS K M B S bd zk zm zb zs zr zu zt zmc) (hY : YS K M B S yrow ymk yrm yst ypc ybu ybn) (p : Int32) : (∃ v zf', X2_ceiling F zk zm zb zf zmc p = some (Sum.inr (v, zf')) ∧ X3_ceiling F yth yrow ymk yrm ybu ybn p = some (v, 0)) ∨ (∃ v, X2_ceiling F zk zm zb zf zmc p = some (Sum.inl 4) ∧ X3_ceiling F yth yrow ymk yrm ybu ybn p = some (v, 1)) := by
  obtain ⟨x1, x2, x3, x4, x5⟩ := hX
  obtain ⟨y1, y2, y3, y4, y5, y6, y7⟩ := hY
  subst y5 y6 y7 x5
  have hx := int_rng p
  have ep := J_of p
  generalize p.toInt = x at hx ep
  subst ep
  obtain ⟨zf0, T, t1, t2, t3, t4⟩ := gatherAll_J hF zf h x1 x2 x3
  have hp := th_perm h t3 t4
  have ha := allN_le h
  have hcl := cl_le T x
  unfold X2_ceiling X3_ceiling
  rw [thereBelow_J hF h x1 x2 x3 hx, keysThere_J h x1 x3, J_wide hx, below_JR hF h y1 y2 y4 (by omega), keys_JR hF h y1 y2 y4, ← hp.1, ← hp.2 x]
  rw [← hp.1] at ha
  simp only [Option.bind_some, bnd]
  by_cases c2 : T.length ≤ cl T x
  · have e : (if J (T.length : Int) ≤ J (cl T x : Int) then (1 : Int32) else 0) = 1 := if_pos (by rw [J_leN (by omega) (by omega)]; exact c2)
    rw [if_neg (by rw [J_ltN (by omega) (by omega)]; omega), e, if_neg (by decide)]
    exact Or.inr ⟨0, by first | rfl | trivial, by first | rfl | trivial⟩
  · have e : (if J (T.length : Int) ≤ J (cl T x : Int) then (1 : Int32) else 0) = 0 := if_neg (by rw [J_leN (by omega) (by omega)]; exact c2)
    rw [if_pos (by rw [J_ltN (by omega) (by omega)]; omega), e, if_pos (by decide)]
    obtain ⟨zf', e1⟩ := keyThere_J hF zf h x1 x2 x3 t3 t4 (q := cl T x) (by omega)
    rw [e1, behindSo_J hF h y1 y2 y4 t3 t4 (by omega)]
    exact Or.inl ⟨_, zf', rfl, rfl⟩
theorem cl_next {T : List Int} {x : Int} (hT : Srt T) : (x ∈ T → cl T (x + 1) = cl T x + 1) ∧ (¬ x ∈ T → cl T (x + 1) = cl T x) := by
  have hc := cl_le T x
  constructor
  · intro hx
    have h1 := (mem_cl hT).mp hx
    refine (cl_uniq hT (by omega) (fun j hj => ?_) (fun j hj1 hj2 => ?_)).symm
    · by_cases e : j = cl T x
      · rw [e, h1.2]
        omega
      · have := (cl_spec hT x j (by omega)).mp (by omega)
        omega
    · have := hT (cl T x) j (by omega) hj2
      omega
  · intro hx
    refine (cl_uniq hT hc (fun j hj => ?_) (fun j hj1 hj2 => ?_)).symm
    · have := (cl_spec hT x j (by omega)).mp hj
      omega
    · have h1 := cl_spec hT x j hj2
      have h2 : T.getD j 0 ≠ x := fun e => hx (by rw [← e]; exact getD_mem hj2)
      omega
theorem op_count (hF : 2000 ≤ F) {K M B S : List Int} {bd : Int} {zk zm zb zs zr zu : zN} {zt : zT} {zmc : Int32} {yrow ymk yst ybu : Nat → Int32} {yrm ypc ybn : Int32} (zf : zN) (yth : Int32) (h : LK K M B S bd) (hX : XS K M B S bd zk zm zb zs zr zu zt zmc) (hY : YS K M B S yrow ymk yrm yst ypc ybu ybn) (p r : Int32) : ∃ v, X2_count F zk zm zb p r = some v ∧ X3_count F yth yrow ymk yrm ybu ybn p r = some (v, 0) := by
  obtain ⟨x1, x2, x3, x4, x5⟩ := hX
  obtain ⟨y1, y2, y3, y4, y5, y6, y7⟩ := hY
  subst y5 y6 y7 x5
  have hx := int_rng p
  have ep := J_of p
  generalize p.toInt = x at hx ep
  subst ep
  have hz := int_rng r
  have er := J_of r
  generalize r.toInt = y at hz er
  subst er
  obtain ⟨zf0, T, t1, t2, t3, t4⟩ := gatherAll_J hF zf h x1 x2 x3
  have hp := th_perm h t3 t4
  have a1 := isThere_J (x := y) hF h x1 x2 x3 hz
  have hTH : TH K M B y ↔ y ∈ T := by
    unfold TH
    rw [t4, BM_all]
    exact or_comm
  unfold X2_count X3_count
  by_cases c : x ≤ y
  · rw [if_pos (by rw [J_le hx hz]; exact c), if_pos (by rw [J_le hx hz]; exact c), thereBelow_J hF h x1 x2 x3 hz, thereBelow_J hF h x1 x2 x3 hx, J_wide hx, J_wide hz, L_1, L_add, below_JR hF h y1 y2 y4 (by omega), below_JR hF h y1 y2 y4 (by omega)]
    simp only [Option.bind_some]
    rw [← hp.2, ← hp.2, ← hp.2]
    by_cases c2 : TH K M B y
    · rw [a1.1 c2, (cl_next t3).1 (hTH.mp c2)]
      simp only [Option.bind_some]
      rw [if_neg (by decide), J_1, J_sub, J_add, J_sub]
      refine ⟨_, rfl, ?_⟩
      congr 3
      omega
    · rw [a1.2 c2, (cl_next t3).2 (fun q => c2 (hTH.mpr q))]
      simp only [Option.bind_some, if_true]
      exact ⟨_, rfl, by rw [Int32.add_zero]⟩
  · rw [if_neg (by rw [J_le hx hz]; exact c), if_neg (by rw [J_le hx hz]; exact c)]
    exact ⟨0, rfl, rfl⟩
theorem op_place (hF : 2000 ≤ F) {K M B S : List Int} {bd : Int} {zk zm zb zs zr zu : zN} {zt : zT} {zmc : Int32} {yrow ymk yst ybu : Nat → Int32} {yrm ypc ybn : Int32} (yth : Int32) (h : LK K M B S bd) (hX : XS K M B S bd zk zm zb zs zr zu zt zmc) (hY : YS K M B S yrow ymk yrm yst ypc ybu ybn) (p : Int32) : ∃ v, X2_place F zk p = some v ∧ X3_place F yth yrow yrm p = some (v, 0) := by
  obtain ⟨x1, x2, x3, x4, x5⟩ := hX
  obtain ⟨y1, y2, y3, y4, y5, y6, y7⟩ := hY
  subst y5 y6 y7 x5
  have hx := int_rng p
  have ep := J_of p
  generalize p.toInt = x at hx ep
  subst ep
  refine ⟨J (cl K x), ?_, ?_⟩
  · unfold X2_place
    rw [below_J hF x1 h.1 hx]
    rfl
  · unfold X3_place
    rw [placeOf_J hF y1 h.1 h.2.1 hx]
    rfl
theorem asks_J {S : List Int} {x : Int} (yth : Int32) (hS : S.length ≤ 257) (hx : -2147483648 ≤ x ∧ x < 2147483648) : (0 ≤ x ∧ x < S.length → X3_asks F yth (J S.length) (J x) = some (1, 0)) ∧ (¬ (0 ≤ x ∧ x < S.length) → X3_asks F yth (J S.length) (J x) = some (0, 1)) := by
  have a : J x < 0 ↔ x < 0 := by rw [J_0, J_lt (by omega) (by omega)]
  have b : J S.length ≤ J x ↔ (S.length : Int) ≤ x := J_le (by omega) (by omega)
  have key : (if J x < 0 then (1 : Int32) else (if J S.length ≤ J x then 1 else 0)) = (if 0 ≤ x ∧ x < S.length then 0 else 1) := by
    by_cases c1 : x < 0
    · rw [if_pos (a.mpr c1), if_neg (by omega)]
    · rw [if_neg (fun q => c1 (a.mp q))]
      by_cases c2 : (S.length : Int) ≤ x
      · rw [if_pos (b.mpr c2), if_neg (by omega)]
      · rw [if_neg (fun q => c2 (b.mp q)), if_pos (by omega)]
  unfold X3_asks
  simp only [bnd]
  rw [key]
  refine ⟨fun c => ?_, fun c => ?_⟩
  · rw [if_pos c, if_pos rfl]
  · rw [if_neg c, if_neg (by decide)]
theorem needPiece_J {S : List Int} {zs : zN} {x : Int} (hs : RN 256 zs S) (hx : -2147483648 ≤ x ∧ x < 2147483648) : (0 ≤ x ∧ x < S.length → X2_needPiece F zs (J x) = some (Sum.inr ())) ∧ (¬ (0 ≤ x ∧ x < S.length) → X2_needPiece F zs (J x) = some (Sum.inl 3)) := by
  unfold X2_needPiece
  rw [has_J hs hx]
  simp only [Option.bind_some]
  refine ⟨fun c => ?_, fun c => ?_⟩
  · rw [if_pos c, if_neg (by decide)]
  · rw [if_neg c, if_pos (by decide)]
theorem op_start (hF : 2000 ≤ F) {K M B S : List Int} {bd : Int} {zk zm zb zs zr zu : zN} {zt : zT} {zmc : Int32} {yrow ymk yst ybu : Nat → Int32} {yrm ypc ybn : Int32} (yth : Int32) (h : LK K M B S bd) (hX : XS K M B S bd zk zm zb zs zr zu zt zmc) (hY : YS K M B S yrow ymk yrm yst ypc ybu ybn) (p : Int32) : (∃ v, X2_start F zs p = some (Sum.inr v) ∧ X3_start F yth yst ypc p = some (v, 0)) ∨ (∃ v, X2_start F zs p = some (Sum.inl 3) ∧ X3_start F yth yst ypc p = some (v, 1)) := by
  obtain ⟨x1, x2, x3, x4, x5⟩ := hX
  obtain ⟨y1, y2, y3, y4, y5, y6, y7⟩ := hY
  subst y5 y6 y7 x5
  have hx := int_rng p
  have ep := J_of p
  generalize p.toInt = x at hx ep
  subst ep
  have hsl := y3.1
  unfold X2_start X3_start
  by_cases c : 0 ≤ x ∧ x < S.length
  · obtain ⟨i, hi⟩ : ∃ i : Nat, x = (i : Int) := ⟨x.toNat, by omega⟩
    subst hi
    rw [(needPiece_J x4.1 hx).1 c, (asks_J yth hsl hx).1 c]
    simp only [Option.bind_some]
    rw [at_in x4.1 (by omega), if_neg (by decide), if_pos (J_inN (by omega) (by omega)), J_ix (by omega), y3.2 i (by omega)]
    exact Or.inl ⟨_, rfl, rfl⟩
  · rw [(needPiece_J x4.1 hx).2 c, (asks_J yth hsl hx).2 c]
    exact Or.inr ⟨0, rfl, rfl⟩
theorem op_firstKey (hF : 2000 ≤ F) {K M B S : List Int} {bd : Int} {zk zm zb zs zr zu : zN} {zt : zT} {zmc : Int32} {yrow ymk yst ybu : Nat → Int32} {yrm ypc ybn : Int32} (yth : Int32) (h : LK K M B S bd) (hX : XS K M B S bd zk zm zb zs zr zu zt zmc) (hY : YS K M B S yrow ymk yrm yst ypc ybu ybn) (p : Int32) : (∃ v, X2_firstKey F zk zs p = some (Sum.inr v) ∧ X3_firstKey F yth yrow yst ypc p = some (v, 0)) ∨ (∃ v, X2_firstKey F zk zs p = some (Sum.inl 3) ∧ X3_firstKey F yth yrow yst ypc p = some (v, 1)) := by
  obtain ⟨x1, x2, x3, x4, x5⟩ := hX
  obtain ⟨y1, y2, y3, y4, y5, y6, y7⟩ := hY
  subst y5 y6 y7 x5
  have hx := int_rng p
  have ep := J_of p
  generalize p.toInt = x at hx ep
  subst ep
  have hsl := y3.1
  have hl := y1.1
  have hS := h.2.2.2.2.2.2.2.2.1
  unfold X2_firstKey X3_firstKey
  by_cases c : 0 ≤ x ∧ x < S.length
  · obtain ⟨i, hi⟩ : ∃ i : Nat, x = (i : Int) := ⟨x.toNat, by omega⟩
    subst hi
    have hSi := hS.2.1 i (by omega)
    obtain ⟨s, hs⟩ : ∃ s : Nat, S.getD i 0 = (s : Int) := ⟨(S.getD i 0).toNat, by omega⟩
    rw [(needPiece_J x4.1 hx).1 c, (asks_J yth hsl hx).1 c]
    simp only [Option.bind_some]
    rw [firstOf_J x1 x4.1 hS (by omega), if_neg (by decide), if_pos (J_inN (by omega) (by omega)), J_ix (by omega), y3.2 i (by omega), hs, if_pos (J_inN (by omega) (by omega)), J_ix (by omega), y1.2 s (by omega)]
    exact Or.inl ⟨_, rfl, rfl⟩
  · rw [(needPiece_J x4.1 hx).2 c, (asks_J yth hsl hx).2 c]
    exact Or.inr ⟨0, rfl, rfl⟩
theorem op_rise (hF : 2000 ≤ F) {K M B S : List Int} {bd : Int} {zk zm zb zs zr zu : zN} {zt : zT} {zmc : Int32} {yrow ymk yst ybu : Nat → Int32} {yrm ypc ybn : Int32} (yth : Int32) (up un : Int64) (h : LK K M B S bd) (hX : XS K M B S bd zk zm zb zs zr zu zt zmc) (hY : YS K M B S yrow ymk yrm yst ypc ybu ybn) (p : Int32) : (∃ v up' un', X2_rise F zs zr p = some (Sum.inr v) ∧ X3_rise F yth (J bd) yrow yrm yst ypc up un p = some (v, 0, up', un')) ∨ (∃ v up' un', X2_rise F zs zr p = some (Sum.inl 3) ∧ X3_rise F yth (J bd) yrow yrm yst ypc up un p = some (v, 1, up', un')) := by
  obtain ⟨x1, x2, x3, x4, x5⟩ := hX
  obtain ⟨y1, y2, y3, y4, y5, y6, y7⟩ := hY
  subst y5 y6 y7 x5
  have hx := int_rng p
  have ep := J_of p
  generalize p.toInt = x at hx ep
  subst ep
  have hsl := y3.1
  unfold X2_rise X3_rise
  by_cases c : 0 ≤ x ∧ x < S.length
  · obtain ⟨i, hi⟩ : ∃ i : Nat, x = (i : Int) := ⟨x.toNat, by omega⟩
    subst hi
    obtain ⟨p1, p2, p3, p4, R, U, p5, p6, p7, p8, p9⟩ := x4
    have e1 : R.getD i 0 = (qS K S bd i).1 := (p9 i (by omega)).1
    obtain ⟨up', un', e2⟩ := riseOf_J hF up un h y1 y3 (i := i) (by omega)
    rw [(needPiece_J p1 hx).1 c, (asks_J yth hsl hx).1 c]
    simp only [Option.bind_some]
    rw [at_in p5 (by omega), e1, if_neg (by decide), e2]
    exact Or.inl ⟨_, up', un', rfl, rfl⟩
  · rw [(needPiece_J x4.1 hx).2 c, (asks_J yth hsl hx).2 c]
    exact Or.inr ⟨0, up, un, rfl, rfl⟩
theorem op_run (hF : 2000 ≤ F) {K M B S : List Int} {bd : Int} {zk zm zb zs zr zu : zN} {zt : zT} {zmc : Int32} {yrow ymk yst ybu : Nat → Int32} {yrm ypc ybn : Int32} (yth : Int32) (up un : Int64) (h : LK K M B S bd) (hX : XS K M B S bd zk zm zb zs zr zu zt zmc) (hY : YS K M B S yrow ymk yrm yst ypc ybu ybn) (p : Int32) : (∃ v up' un', X2_run F zs zu p = some (Sum.inr v) ∧ X3_run F yth (J bd) yrow yrm yst ypc up un p = some (v, 0, up', un')) ∨ (∃ v up' un', X2_run F zs zu p = some (Sum.inl 3) ∧ X3_run F yth (J bd) yrow yrm yst ypc up un p = some (v, 1, up', un')) := by
  obtain ⟨x1, x2, x3, x4, x5⟩ := hX
  obtain ⟨y1, y2, y3, y4, y5, y6, y7⟩ := hY
  subst y5 y6 y7 x5
  have hx := int_rng p
  have ep := J_of p
  generalize p.toInt = x at hx ep
  subst ep
  have hsl := y3.1
  unfold X2_run X3_run
  by_cases c : 0 ≤ x ∧ x < S.length
  · obtain ⟨i, hi⟩ : ∃ i : Nat, x = (i : Int) := ⟨x.toNat, by omega⟩
    subst hi
    obtain ⟨p1, p2, p3, p4, R, U, p5, p6, p7, p8, p9⟩ := x4
    have e1 : U.getD i 0 = (qS K S bd i).2 := (p9 i (by omega)).2
    obtain ⟨up', un', e2⟩ := runOf_J hF up un h y1 y3 (i := i) (by omega)
    rw [(needPiece_J p1 hx).1 c, (asks_J yth hsl hx).1 c]
    simp only [Option.bind_some]
    rw [at_in p6 (by omega), e1, if_neg (by decide), e2]
    exact Or.inl ⟨_, up', un', rfl, rfl⟩
  · rw [(needPiece_J x4.1 hx).2 c, (asks_J yth hsl hx).2 c]
    exact Or.inr ⟨0, up, un, rfl, rfl⟩
theorem marked_L {K M : List Int} {mk : Nat → Int32} (hm : RA 256 mk M) (hM : M.length = K.length) (hM2 : ∀ j, j < M.length → M.getD j 0 = 0 ∨ M.getD j 0 = 1) : ∀ (d n p : Nat), d < n → p + d = K.length → X3_marked_L9 mk (J K.length) n (J p) (J ((p : Int) - (cU K M p).length)) = some (J ((K.length : Int) - (cU K M K.length).length))
  | d, 0, p, hn, _ => absurd hn (Nat.not_lt_zero d)
  | 0, n + 1, p, _, hd => by
    have e1 : p = K.length := by omega
    rw [e1, X3_marked_L9, if_pos (by exact Int32.le_refl _)]
  | d + 1, n + 1, p, hn, hd => by
    have hl := hm.1
    have hmp := hM2 p (by omega)
    have ih := marked_L hm hM hM2 d n (p + 1) (by omega) (by omega)
    have h2 := cU_take1 K M p hmp
    have hz : ∀ x : Int32, x + 0 = x := Int32.add_zero
    rw [X3_marked_L9, if_neg (by rw [J_leN (by omega) (by omega)]; omega), if_pos (J_inN (by omega) (by omega)), J_ix (by omega), hm.2 p (by omega)]
    by_cases c : M.getD p 0 = 0
    · rw [c, if_pos J_0.symm]
      simp only [bnd]
      rw [hz, J_succ, show (p : Int) - (cU K M p).length = ((p + 1 : Nat) : Int) - (cU K M (p + 1)).length by omega]
      exact ih
    · rw [if_neg (by rw [J_0, J_eq (by omega) (by omega)]; exact c)]
      simp only [bnd]
      rw [J_succ, J_1, J_add, show (p : Int) - (cU K M p).length + 1 = ((p + 1 : Nat) : Int) - (cU K M (p + 1)).length by omega]
      exact ih
theorem op_marked (hF : 2000 ≤ F) {K M B S : List Int} {bd : Int} {zk zm zb zs zr zu : zN} {zt : zT} {zmc : Int32} {yrow ymk yst ybu : Nat → Int32} {yrm ypc ybn : Int32} (yth : Int32) (h : LK K M B S bd) (hX : XS K M B S bd zk zm zb zs zr zu zt zmc) (hY : YS K M B S yrow ymk yrm yst ypc ybu ybn) : ∃ v, X2_marked F zmc = some v ∧ X3_marked F yth ymk yrm = some (v, 0) := by
  obtain ⟨x1, x2, x3, x4, x5⟩ := hX
  obtain ⟨y1, y2, y3, y4, y5, y6, y7⟩ := hY
  subst y5 y6 y7 x5
  have hl := y1.1
  have q := marked_L y2 h.2.2.1 h.2.2.2.1 K.length F 0 (by omega) (by omega)
  rw [show cU K M 0 = [] from rfl] at q
  rw [show (((0 : Nat) : Int) - (([] : List Int).length : Int)) = ((0 : Nat) : Int) from rfl, J_00] at q
  refine ⟨_, rfl, ?_⟩
  unfold X3_marked
  rw [q]
  rfl
theorem op_plain {K M B S : List Int} {bd : Int} {zk zm zb zs zr zu : zN} {zt : zT} {zmc : Int32} {yrow ymk yst ybu : Nat → Int32} {yrm ypc ybn : Int32} (yth : Int32) (hX : XS K M B S bd zk zm zb zs zr zu zt zmc) (hY : YS K M B S yrow ymk yrm yst ypc ybu ybn) : (∃ v, X2_pieces F zs = some v ∧ X3_pieces F yth ypc = some (v, 0)) ∧ (∃ v, X2_buffered F zb = some v ∧ X3_buffered F yth ybn = some (v, 0)) ∧ ∃ v, X2_rowSize F zk = some v ∧ X3_rowSize F yth yrm = some (v, 0) := by
  obtain ⟨x1, x2, x3, x4, x5⟩ := hX
  obtain ⟨y1, y2, y3, y4, y5, y6, y7⟩ := hY
  subst y5 y6 y7 x5
  refine ⟨⟨J S.length, ?_, rfl⟩, ⟨J B.length, ?_, rfl⟩, ⟨J K.length, ?_, rfl⟩⟩
  · unfold X2_pieces
    rw [length_J x4.1]
    rfl
  · unfold X2_buffered
    rw [length_J x3]
    rfl
  · unfold X2_rowSize
    rw [length_J x1]
    rfl
end MOP2
