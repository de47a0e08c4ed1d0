/-! looking up: the class and the reference answer alike -/
section MOP1
variable {F : Nat}
def XS (K M B S : List Int) (bd : Int) (zk zm zb zs zr zu : zN) (zt : zT) (zmc : Int32) : Prop := RN 256 zk K ∧ RN 256 zm M ∧ RN 16 zb B ∧ PI bd K S K.length zs zr zu zt ∧ zmc = J ((K.length : Int) - (cU K M K.length).length)
def YS (K M B S : List Int) (yrow ymk : Nat → Int32) (yrm : Int32) (yst : Nat → Int32) (ypc : Int32) (ybu : Nat → Int32) (ybn : Int32) : Prop := RA 256 yrow K ∧ RA 256 ymk M ∧ RA 257 yst S ∧ RA 16 ybu B ∧ yrm = J K.length ∧ ypc = J S.length ∧ ybn = J B.length
theorem int_rng (p : Int32) : -2147483648 ≤ p.toInt ∧ p.toInt < 2147483648 := by
  have h1 := Int32.le_toInt p
  have h2 := Int32.toInt_lt p
  omega
theorem isKey_J {x : Int} (hx : -2147483648 ≤ x ∧ x < 2147483648) : ((-1000000 ≤ x ∧ x ≤ 1000000) → X3_isKey F (J x) = some 1) ∧ (¬ (-1000000 ≤ x ∧ x ≤ 1000000) → X3_isKey F (J x) = some 0) := by
  unfold X3_isKey
  simp (disch := omega) only [J_1000000, J_neg, J_lt]
  refine ⟨fun h => ?_, fun h => ?_⟩
  · rw [if_neg (by omega), if_neg (by omega)]
  · by_cases c : x < -1000000
    · rw [if_pos c]
    · rw [if_neg c, if_pos (by omega)]
theorem needKey_J {x : Int} (hx : -9000000000 ≤ x ∧ x < 9000000000) : ((-1000000 ≤ x ∧ x ≤ 1000000) → X2_needKey F (L x) = some (Sum.inr ())) ∧ (¬ (-1000000 ≤ x ∧ x ≤ 1000000) → X2_needKey F (L x) = some (Sum.inl 1)) := by
  unfold X2_needKey
  simp (disch := omega) only [L_1000000, L_neg, L_lt, L_le]
  refine ⟨fun h => ?_, fun h => ?_⟩
  · rw [if_neg (by omega), if_pos h.2]
  · by_cases c : x < -1000000
    · rw [if_pos c]
    · rw [if_neg c, if_neg (by omega)]
theorem zy13 : (if (1 : Int32) = 0 then (1 : Int32) else 0) = 0 := if_neg (by decide)
theorem J_0m : J (((0 : Nat) : Int) - 1) = -1 := by decide +kernel
theorem op_guess (hF : 2000 ≤ F) {K M B S : List Int} {bd : Int} {zk zm zb zs zr zu : zN} {zt : zT} {zmc : Int32} {yrow ymk yst ybu : Nat → Int32} {yrm ypc ybn : Int32} (yth : Int32) (up un : Int64) (h : LK K M B S bd) (hX : XS K M B S bd zk zm zb zs zr zu zt zmc) (hY : YS K M B S yrow ymk yrm yst ypc ybu ybn) (p : Int32) : (∃ v up' un', X2_guess F zk zs zr zu p = some (Sum.inr v) ∧ X3_guess F yth (J bd) yrow yrm yst ypc up un p = some (v, 0, up', un')) ∨ (∃ up' un' v, X2_guess F zk zs zr zu p = some (Sum.inl 1) ∧ X3_guess F yth (J bd) yrow yrm yst ypc up un p = some (v, 1, up', un')) := by
  obtain ⟨x1, x2, x3, x4, x5⟩ := hX
  obtain ⟨y1, y2, y3, y4, y5, y6, y7⟩ := hY
  have hx := int_rng p
  have ep := J_of p
  generalize p.toInt = x at hx ep
  subst ep
  subst y5 y6 y7
  have hl := y1.1
  have hS := h.2.2.2.2.2.2.2.2.1
  have hsl := SOK_len hS
  have hpl := pcN_le K S x
  have hpr := pieceOf_JR hF y1 y3 h.1 h.2.1 hS hx
  unfold X2_guess X3_guess
  rw [J_wide hx]
  by_cases c : -1000000 ≤ x ∧ x ≤ 1000000
  · rw [(needKey_J (by omega)).1 c, (isKey_J hx).1 c]
    simp only [Option.bind_some, bnd]
    rw [hpr, pieceOf_JX hF x1 x4.1 h.1 hS c]
    simp only [Option.bind_some]
    rw [zy13, if_neg (show ¬ (0 : Int32) < 0 by decide)]
    by_cases c2 : pcN K S x = 0
    · refine Or.inl ⟨-1, up, un, ?_, ?_⟩
      · obtain ⟨p1, p2, p3, p4, R, U, p5, p6, p7⟩ := x4
        rw [c2]
        unfold X2_guessBy
        rw [at_out p6 (by omega) (Or.inl (by omega))]
        simp only [Option.bind_some, bnd]
        rw [J_wide (by omega), L_1, if_neg (by rw [L_le (by omega) (by omega)]; omega)]
        rfl
      · rw [c2, if_pos J_0m]
    · obtain ⟨g1, g2⟩ := pcN_in h (x := x) (by omega)
      have e : ((pcN K S x : Int) - 1) = ((pcN K S x - 1 : Nat) : Int) := by omega
      obtain ⟨up', un', e2⟩ := guessOf_J hF up un h y1 y3 g1 c g2
      refine Or.inl ⟨L (gK K S bd (pcN K S x - 1) x), up', un', ?_, ?_⟩
      · rw [e, guessBy_J hF h x1 x4 g1 c g2]
        rfl
      · rw [e, if_neg (by rw [J_m1, J_eq (by omega) (by omega)]; omega), e2]
        rfl
  · rw [(needKey_J (by omega)).2 c, (isKey_J hx).2 c]
    simp only [Option.bind_some, bnd]
    rw [hpr]
    simp only [Option.bind_some, if_true]
    exact Or.inr ⟨up, un, -1, by simp, by rw [if_pos (by decide)]⟩
theorem op_looks (hF : 2000 ≤ F) {K M B S : List Int} {bd : Int} {zk zm zb zs zr zu : zN} {zt : zT} {zmc : Int32} {yrow ymk yst ybu : Nat → Int32} {yrm ypc ybn : Int32} (yth : Int32) (up un : Int64) (h : LK K M B S bd) (hX : XS K M B S bd zk zm zb zs zr zu zt zmc) (hY : YS K M B S yrow ymk yrm yst ypc ybu ybn) (p : Int32) : (∃ v up' un', X2_looks F zk zs zr zu (J bd) p = some (Sum.inr v) ∧ X3_looks F yth (J bd) yrow yrm yst ypc up un p = some (v, 0, up', un')) ∨ (∃ up' un' v, X2_looks F zk zs zr zu (J bd) p = some (Sum.inl 1) ∧ X3_looks F yth (J bd) yrow yrm yst ypc up un p = some (v, 1, up', un')) := by
  obtain ⟨x1, x2, x3, x4, x5⟩ := hX
  obtain ⟨y1, y2, y3, y4, y5, y6, y7⟩ := hY
  have hx := int_rng p
  have ep := J_of p
  generalize p.toInt = x at hx ep
  subst ep
  subst y5 y6 y7
  have hl := y1.1
  have hS := h.2.2.2.2.2.2.2.2.1
  have hbd := h.2.2.2.2.2.2.2.2.2.2
  have hsl := SOK_len hS
  have hpl := pcN_le K S x
  have hpr := pieceOf_JR hF y1 y3 h.1 h.2.1 hS hx
  unfold X2_looks X3_looks
  rw [J_wide hx]
  by_cases c : -1000000 ≤ x ∧ x ≤ 1000000
  · rw [(needKey_J (by omega)).1 c, (isKey_J hx).1 c]
    simp only [Option.bind_some, bnd]
    rw [hpr, pieceOf_JX hF x1 x4.1 h.1 hS c]
    simp only [Option.bind_some]
    rw [zy13, if_neg (show ¬ (0 : Int32) < 0 by decide)]
    by_cases c2 : pcN K S x = 0
    · refine Or.inl ⟨0, up, un, ?_, ?_⟩
      · rw [c2, if_pos J_0m]
      · rw [c2, if_pos J_0m]
    · obtain ⟨g1, g2⟩ := pcN_in h (x := x) (by omega)
      have e : ((pcN K S x : Int) - 1) = ((pcN K S x - 1 : Nat) : Int) := by omega
      obtain ⟨up', un', e2⟩ := guessOf_J hF up un h y1 y3 g1 c g2
      obtain ⟨i, hi⟩ : ∃ i, i = pcN K S x - 1 := ⟨_, rfl⟩
      rw [e, ← hi]
      rw [← hi] at e2 g1 g2
      obtain ⟨r1, r2, r3, r4⟩ := gK_rng h g1 c.2 g2
      have hse := SOK_lt hS g1
      have hSi := hS.2.1 i g1
      obtain ⟨g, hg⟩ : ∃ g, g = gK K S bd i x := ⟨_, rfl⟩
      obtain ⟨s, hs⟩ : ∃ s : Nat, s = (S.getD i 0).toNat := ⟨_, rfl⟩
      obtain ⟨e', he⟩ : ∃ e' : Nat, e' = endS S K.length i := ⟨_, rfl⟩
      rw [← hg] at r3 r4 e2
      rw [← hs, ← he] at hse
      have hss : S.getD i 0 = (s : Int) := by omega
      -- where the search begins and ends
      obtain ⟨lo, hlo⟩ : ∃ lo : Nat, (lo : Int) = (if (e' : Int) ≤ (if g - bd ≤ s then (s : Int) else g - bd) then (e' : Int) else (if g - bd ≤ s then (s : Int) else g - bd)) := by
        refine ⟨(if (e' : Int) ≤ (if g - bd ≤ s then (s : Int) else g - bd) then (e' : Int) else (if g - bd ≤ s then (s : Int) else g - bd)).toNat, ?_⟩
        split <;> split <;> omega
      obtain ⟨hi2, hhi⟩ : ∃ hi2 : Nat, (hi2 : Int) = (if (e' : Int) ≤ g + bd + 1 then (e' : Int) else g + bd + 1) := by
        refine ⟨(if (e' : Int) ≤ g + bd + 1 then (e' : Int) else g + bd + 1).toNat, ?_⟩
        split <;> omega
      have hlohi : lo ≤ hi2 ∧ hi2 ≤ e' := by
        constructor
        · have : (lo : Int) ≤ hi2 := by
            rw [hlo, hhi]
            split <;> split <;> (try split) <;> omega
          omega
        · have : (hi2 : Int) ≤ e' := by
            rw [hhi]
            split <;> omega
          omega
      obtain ⟨c', d1, d2⟩ := lookN (F := F) hF x1 y1 h.2.1 c 10 F F 0 lo hi2 (by omega) (by omega) (by omega) (by simp; omega) hlohi.1 (by omega)
      rw [J_00] at d1 d2
      refine Or.inl ⟨c', up', un', ?_, ?_⟩
      · rw [if_neg (by rw [J_m1, J_eq (by omega) (by omega)]; omega)]
        unfold X2_looksBy
        rw [guessBy_J hF h x1 x4 g1 c g2, ← hg]
        simp only [Option.bind_some]
        rw [at_in x4.1 g1, hss]
        simp only [Option.bind_some]
        rw [endOf_J x1 x4.1 hS g1, ← he]
        simp only [Option.bind_some, bnd]
        rw [J_wide (by omega), J_wide (by omega), J_wide (by omega), L_sub, L_add, L_1, L_add]
        have e3 : (if L (g - bd) < L s then L s else L (g - bd)) = L (if g - bd ≤ s then (s : Int) else g - bd) := by
          simp (disch := omega) only [L_lt]
          by_cases q : g - bd < s
          · rw [if_pos q, if_pos (by omega)]
          · rw [if_neg q]
            by_cases q2 : g - bd ≤ s
            · rw [if_pos q2]
              congr 1
              omega
            · rw [if_neg q2]
        rw [e3]
        have hr3 : -100 ≤ (if g - bd ≤ s then (s : Int) else g - bd) ∧ (if g - bd ≤ s then (s : Int) else g - bd) ≤ 3000000000 := by split <;> omega
        have e4 : (if L (if g - bd ≤ s then (s : Int) else g - bd) < L e' then L (if g - bd ≤ s then (s : Int) else g - bd) else L e') = L lo := by
          rw [hlo]
          generalize (if g - bd ≤ s then (s : Int) else g - bd) = w at hr3
          simp (disch := omega) only [L_lt]
          by_cases q : w < e'
          · rw [if_pos q, if_neg (by omega)]
          · rw [if_neg q, if_pos (by omega)]
        have e5 : (if L (g + bd + 1) < L e' then L (g + bd + 1) else L e') = L hi2 := by
          rw [hhi]
          simp (disch := omega) only [L_lt]
          by_cases q : g + bd + 1 < e'
          · rw [if_pos q, if_neg (by omega)]
          · rw [if_neg q, if_pos (by omega)]
        rw [e4, e5, L_nar (by omega), L_nar (by omega), d1]
        rfl
      · rw [if_neg (by rw [J_m1, J_eq (by omega) (by omega)]; omega), e2]
        simp only [Option.bind_some]
        rw [behind_J y3 hS hl g1, ← he]
        simp only [Option.bind_some]
        rw [if_pos (J_inN (by omega) (by omega)), if_pos (J_inN (by omega) (by omega)), J_ix (by omega), y3.2 i g1, hss]
        rw [J_wide (by omega), J_wide (by omega), J_wide (by omega), L_sub, L_add, L_1, L_add]
        have e3 : (if L (g - bd) ≤ L s then some (L s) else some (L (g - bd))) = some (L (if g - bd ≤ s then (s : Int) else g - bd)) := by
          simp (disch := omega) only [L_le]
          by_cases q : g - bd ≤ s
          · rw [if_pos q, if_pos q]
          · rw [if_neg q, if_neg q]
        rw [e3]
        simp only [Option.bind_some]
        have hr3 : -100 ≤ (if g - bd ≤ s then (s : Int) else g - bd) ∧ (if g - bd ≤ s then (s : Int) else g - bd) ≤ 3000000000 := by split <;> omega
        have e4 : (if L e' ≤ L (if g - bd ≤ s then (s : Int) else g - bd) then L e' else L (if g - bd ≤ s then (s : Int) else g - bd)) = L lo := by
          rw [hlo]
          generalize (if g - bd ≤ s then (s : Int) else g - bd) = w at hr3
          simp (disch := omega) only [L_le]
          by_cases q : (e' : Int) ≤ w
          · rw [if_pos q, if_pos q]
          · rw [if_neg q, if_neg q]
        have e5 : (if L e' ≤ L (g + bd + 1) then L e' else L (g + bd + 1)) = L hi2 := by
          rw [hhi]
          simp (disch := omega) only [L_le]
          by_cases q : (e' : Int) ≤ g + bd + 1
          · rw [if_pos q, if_pos q]
          · rw [if_neg q, if_neg q]
        rw [e4, e5, d2]
        rfl
  · rw [(needKey_J (by omega)).2 c, (isKey_J hx).2 c]
    simp only [Option.bind_some, bnd]
    rw [hpr]
    simp only [Option.bind_some, if_true]
    exact Or.inr ⟨up, un, 0, by simp, by rw [if_pos (by decide)]⟩
end MOP1
