/-! append and appendMany: the class and the reference answer alike -/
section MAPP
variable {F : Nat}
def ST (K M B S : List Int) (bd ro : Int) : Prop := LK K M B S bd ∧ 1 ≤ ro ∧ ro ≤ 16 ∧ (B.length : Int) < ro
theorem cU_cong {K K' M M' : List Int} : ∀ n, (∀ j, j < n → K.getD j 0 = K'.getD j 0 ∧ M.getD j 0 = M'.getD j 0) → cU K M n = cU K' M' n
  | 0, _ => rfl
  | n + 1, h => by
    rw [cU, cU, cU_cong n (fun j hj => h j (by omega)), (h n (by omega)).1, (h n (by omega)).2]
/-- one key more behind all others -/
theorem append1 (hF : 2000 ≤ F) {K M B S : List Int} {bd ro x : Int} {zk zm zb zs zr zu : zN} {zt : zT} {zmc : Int32} {yrow ymk yst ybu : Nat → Int32} {yrm ypc ybn : Int32} (up un : Int64) (h : ST K M B S bd ro) (hX : XS K M B S bd zk zm zb zs zr zu zt zmc) (hY : YS K M B S yrow ymk yrm yst ypc ybu ybn) (hx : -1000000 ≤ x ∧ x ≤ 1000000) (h1 : ∀ y, y ∈ K → y < x) (h2 : ∀ y, y ∈ B → y < x) (hl : K.length + B.length < 256) : ∃ S' zk' zm' zs' zr' zu' zt' yrow' ymk' yrm' yst' ypc' up' un', X2_addLast F zk zm zs zr zu zt (J bd) (J x) = some (zk', zm', zs', zr', zu', zt') ∧ X3_ends F (J bd) yrow ymk yrm yst ypc up un (J x) = some (yrow', ymk', yrm', yst', ypc', up', un') ∧ ST (K ++ [x]) (M ++ [0]) B S' bd ro ∧ XS (K ++ [x]) (M ++ [0]) B S' bd zk' zm' zb zs' zr' zu' zt' zmc ∧ YS (K ++ [x]) (M ++ [0]) B S' yrow' ymk' yrm' yst' ypc' ybu ybn := by
  obtain ⟨x1, x2, x3, x4, x5⟩ := hX
  obtain ⟨y1, y2, y3, y4, y5, y6, y7⟩ := hY
  subst y5 y6 y7 x5
  obtain ⟨⟨a1, a2, a3, a4, a5, a6, a7, a8, a9, a10, a11⟩, b1, b2, b3⟩ := h
  have hs : Srt (K ++ [x]) := Srt_snoc a1 (fun i hi => h1 _ (getD_mem hi))
  have hr : KR (K ++ [x]) := KR_mem.mpr (fun y hy => by
    rcases List.mem_append.mp hy with q | q
    · exact KR_mem.mp a2 y q
    · simp at q
      omega)
  obtain ⟨zk', zm', zs', zr', zu', zt', e1, e2, e3, e4⟩ := addLast_J hF x1 x2 a3 hs hr a11 (by omega) x4
  obtain ⟨yrow', ymk', yst', up', un', f1, f2, f3, f4⟩ := ends_J hF up un y1 y2 a3 y3 a9 hs hr a11 (by omega)
  have hlen : (K ++ [x]).length = K.length + 1 := by simp
  have hml : (M ++ [0]).length = M.length + 1 := by simp
  have hcu : cU (K ++ [x]) (M ++ [0]) (K.length + 1) = cU K M K.length ++ [x] := by
    have c1 : cU (K ++ [x]) (M ++ [0]) K.length = cU K M K.length := cU_cong _ (fun j hj => by
      rw [getD_app_l hj, getD_app_l (by omega)]
      exact ⟨rfl, rfl⟩)
    rw [cU, c1, getD_snoc, getD_snoc, ← a3, if_neg (Nat.lt_irrefl _), if_pos rfl, if_pos rfl, a3, if_neg (Nat.lt_irrefl _), if_pos rfl]
  refine ⟨cutS bd (K ++ [x]) S 0 K.length, zk', zm', zs', zr', zu', zt', yrow', ymk', _, yst', _, up', un', e1, f1, ⟨⟨hs, hr, by omega, fun j hj => ?_, a5, a6, fun i j hi hj => ?_, by omega, by rw [hlen]; exact e4.2.1, by rw [hlen]; exact e4.2.2.1, a11⟩, b1, b2, b3⟩, ⟨e2, e3, x3, by rw [hlen]; exact e4, ?_⟩, f2, f3, f4, y4, by rw [hlen], rfl, rfl⟩
  · rw [getD_snoc]
    by_cases c : j < M.length
    · rw [if_pos c]
      exact a4 j c
    · rw [if_neg c, if_pos (by omega)]
      exact Or.inl rfl
  · rw [getD_snoc]
    by_cases c : i < K.length
    · rw [if_pos c]
      exact a7 i j c hj
    · rw [if_neg c, if_pos (by omega)]
      have := h2 _ (getD_mem hj (d := 0))
      omega
  · rw [hlen, hcu, List.length_append]
    simp only [List.length_cons, List.length_nil]
    congr 1
    omega
theorem cl_full {l : List Int} {x : Int} (hs : Srt l) : cl l x = l.length ↔ ∀ y, y ∈ l → y < x := by
  constructor
  · intro h y hy
    obtain ⟨i, hi, e⟩ := mem_getD.mp hy
    rw [← e]
    exact (cl_spec hs x i hi).mp (by omega)
  · exact cl_all
theorem needToFollow_J (hF : 2000 ≤ F) {K M B S : List Int} {bd : Int} {zk zb : zN} {x m : Int} (h : LK K M B S bd) (hk : RN 256 zk K) (hb : RN 16 zb B) (hx : -2147483648 ≤ x ∧ x < 2147483648) (hm : 0 ≤ m ∧ m ≤ 1000) : (((∀ y, y ∈ K → y < x) ∧ (∀ y, y ∈ B → y < x) ∧ K.length + B.length + m ≤ 256) → X2_needToFollow F zk zb (J x) (J m) = some (Sum.inr ())) ∧ (¬ ((∀ y, y ∈ K → y < x) ∧ (∀ y, y ∈ B → y < x) ∧ K.length + B.length + m ≤ 256) → X2_needToFollow F zk zb (J x) (J m) = some (Sum.inl 2)) := by
  obtain ⟨a1, a2, a3, a4, a5, a6, a7, a8, a9, a10, a11⟩ := h
  have c1 := cl_le K x
  have c2 := cl_le B x
  rw [← cl_full a1, ← cl_full a5]
  unfold X2_needToFollow X2_allKeys
  rw [below_J hF hk a1 hx, length_J hk, below_J hF hb a5 hx, length_J hb]
  simp only [Option.bind_some]
  rw [J_add, J_add, J_256]
  have e1 : (J 256 < J ((K.length : Int) + B.length + m)) ↔ 256 < (K.length : Int) + B.length + m := J_lt (by omega) (by omega)
  have e2 : (J (cl K x : Int) = J (K.length : Int)) ↔ cl K x = K.length := J_eqN (by omega) (by omega)
  have e3 : (J (cl B x : Int) = J (B.length : Int)) ↔ cl B x = B.length := J_eqN (by omega) (by omega)
  by_cases d1 : cl K x = K.length
  · rw [if_pos (e2.mpr d1)]
    by_cases d2 : cl B x = B.length
    · rw [if_pos (e3.mpr d2)]
      simp only [Option.bind_some]
      by_cases d3 : 256 < (K.length : Int) + B.length + m
      · rw [if_pos (e1.mpr d3)]
        exact ⟨fun q => absurd q.2.2 (by omega), fun _ => rfl⟩
      · rw [if_neg (fun q => d3 (e1.mp q)), if_neg (by decide)]
        exact ⟨fun _ => rfl, fun q => absurd ⟨d1, d2, by omega⟩ q⟩
    · rw [if_neg (fun q => d2 (e3.mp q))]
      simp only [Option.bind_some, if_true]
      refine ⟨fun q => absurd q.2.1 d2, fun _ => ?_⟩
      split <;> rfl
  · rw [if_neg (fun q => d1 (e2.mp q))]
    simp only [Option.bind_some, if_true]
    refine ⟨fun q => absurd q.1 d1, fun _ => ?_⟩
    split <;> rfl
theorem last_lt {l : List Int} {x : Int} (hs : Srt l) (h0 : 0 < l.length) : l.getD (l.length - 1) 0 < x ↔ ∀ y, y ∈ l → y < x := by
  constructor
  · intro h y hy
    obtain ⟨i, hi, e⟩ := mem_getD.mp hy
    rw [← e]
    rcases Nat.lt_or_ge i (l.length - 1) with q | q
    · have := hs i (l.length - 1) q (by omega)
      omega
    · rw [show i = l.length - 1 by omega]
      exact h
  · intro h
    exact h _ (getD_mem (by omega))
theorem isAbove_J {K M B S : List Int} {bd x : Int} {row bu : Nat → Int32} (h : LK K M B S bd) (hK : RA 256 row K) (hbu : RA 16 bu B) (hx : -2147483648 ≤ x ∧ x < 2147483648) : (((∀ y, y ∈ K → y < x) ∧ (∀ y, y ∈ B → y < x)) → X3_isAbove F row (J K.length) bu (J B.length) (J x) = some 1) ∧ (¬ ((∀ y, y ∈ K → y < x) ∧ (∀ y, y ∈ B → y < x)) → X3_isAbove F row (J K.length) bu (J B.length) (J x) = some 0) := by
  obtain ⟨a1, a2, a3, a4, a5, a6, a7, a8, a9, a10, a11⟩ := h
  have hl := hK.1
  have hbl := hbu.1
  have first : ((∀ y, y ∈ K → y < x) → (if J (K.length : Int) = 0 then some (1 : Int32) else (if ¬ ((J (K.length : Int) - 1) < 0 ∨ 256 ≤ (Int32.toNatClampNeg (J (K.length : Int) - 1))) then (if J x ≤ (row (Int32.toNatClampNeg (J (K.length : Int) - 1))) then some 0 else some 1) else none)) = some 1) ∧ (¬ (∀ y, y ∈ K → y < x) → (if J (K.length : Int) = 0 then some (1 : Int32) else (if ¬ ((J (K.length : Int) - 1) < 0 ∨ 256 ≤ (Int32.toNatClampNeg (J (K.length : Int) - 1))) then (if J x ≤ (row (Int32.toNatClampNeg (J (K.length : Int) - 1))) then some 0 else some 1) else none)) = some 0) := by
    by_cases c : K.length = 0
    · rw [if_pos (by rw [c]; exact J_00)]
      have : K = [] := List.length_eq_zero_iff.mp c
      subst this
      exact ⟨fun _ => rfl, fun q => absurd (fun y hy => by simp at hy) q⟩
    · have hr := a2 (K.length - 1) (by omega)
      rw [if_neg (by rw [J_0, J_eq (by omega) (by omega)]; omega), J_pred (by omega), if_pos (J_inN (by omega) (by omega)), J_ix (by omega), hK.2 _ (by omega), ← last_lt a1 (by omega)]
      refine ⟨fun q => ?_, fun q => ?_⟩
      · rw [if_neg (by rw [J_le (by omega) (by omega)]; omega)]
      · rw [if_pos (by rw [J_le (by omega) (by omega)]; omega)]
  unfold X3_isAbove
  by_cases d1 : ∀ y, y ∈ K → y < x
  · rw [first.1 d1]
    simp only [Option.bind_some]
    rw [if_neg (by decide)]
    by_cases c : B.length = 0
    · rw [if_pos (by rw [c]; exact J_00)]
      have : B = [] := List.length_eq_zero_iff.mp c
      subst this
      exact ⟨fun _ => rfl, fun q => absurd ⟨d1, fun y hy => by simp at hy⟩ q⟩
    · have hr := a6 (B.length - 1) (by omega)
      rw [if_neg (by rw [J_0, J_eq (by omega) (by omega)]; omega), J_pred (by omega), if_pos (J_inN (by omega) (by omega)), J_ix (by omega), hbu.2 _ (by omega), ← last_lt a5 (by omega)]
      refine ⟨fun q => ?_, fun q => ?_⟩
      · rw [if_neg (by rw [J_le (by omega) (by omega)]; omega)]
      · rw [if_pos (by rw [J_le (by omega) (by omega)]; have : ¬ B.getD (B.length - 1) 0 < x := fun w => q ⟨d1, w⟩
                       omega)]
  · rw [first.2 d1]
    simp only [Option.bind_some, if_true]
    exact ⟨fun q => absurd q.1 d1, fun _ => trivial⟩
end MAPP
