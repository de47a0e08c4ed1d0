/-! the call appendMany -/
section MAMY
variable {F : Nat}
theorem L91_no {x s m bd y : Int32} (hy : ¬ y = 0) (n : Nat) (i : Int32) (yrow ymk : Nat → Int32) (yrm : Int32) (yst : Nat → Int32) (ypc : Int32) (up un : Int64) : X3_appendMany_L91 x s m bd F y (n + 1) i yrow ymk yrm yst ypc up un = some (yrow, ymk, yrm, yst, ypc, up, un) := by
  rw [X3_appendMany_L91]
  by_cases c : m ≤ i
  · rw [if_pos c]
  · rw [if_neg c, if_neg hy]
theorem op_appendMany (hF : 2000 ≤ F) {K M B S : List Int} {bd ro : Int} {zk zm zb zs zr zu : zN} {zt : zT} {zmc : Int32} {yrow ymk yst ybu : Nat → Int32} {yrm ypc ybn : Int32} (yth : Int32) (up un : Int64) (h : ST K M B S bd ro) (hX : XS K M B S bd zk zm zb zs zr zu zt zmc) (hY : YS K M B S yrow ymk yrm yst ypc ybu ybn) (p1 p2 p3 : Int32) : (∃ e y, ((e = 1 ∧ y = 1) ∨ (e = 2 ∧ y = 2)) ∧ X2_appendMany F zk zm zb zs zr zu zt (J bd) p1 p2 p3 = some (Sum.inl e) ∧ X3_appendMany F yth (J bd) yrow ymk yrm yst ypc ybu ybn up un p1 p2 p3 = some (ypc, y, yrow, ymk, yrm, yst, ypc, up, un)) ∨ (∃ v K' M' S' zk' zm' zs' zr' zu' zt' yrow' ymk' yrm' yst' ypc' up' un', X2_appendMany F zk zm zb zs zr zu zt (J bd) p1 p2 p3 = some (Sum.inr (v, zk', zm', zs', zr', zu', zt')) ∧ X3_appendMany F yth (J bd) yrow ymk yrm yst ypc ybu ybn up un p1 p2 p3 = some (v, 0, yrow', ymk', yrm', yst', ypc', up', un') ∧ ST K' M' B S' bd ro ∧ XS K' M' B S' bd zk' zm' zb zs' zr' zu' zt' zmc ∧ YS K' M' B S' yrow' ymk' yrm' yst' ypc' ybu ybn) := by
  have hx := int_rng p1
  have ep := J_of p1
  generalize p1.toInt = x at hx ep
  subst ep
  have hs := int_rng p2
  have ep := J_of p2
  generalize p2.toInt = s at hs ep
  subst ep
  have hm := int_rng p3
  have ep := J_of p3
  generalize p3.toInt = m at hm ep
  subst ep
  obtain ⟨n, hn⟩ : ∃ n, F = n + 1 := ⟨F - 1, by omega⟩
  have hYY := hY
  obtain ⟨y1, y2, y3, y4, y5, y6, y7⟩ := hY
  have hl := y1.1
  have hbl := y4.1
  have hLK := h.1
  have h256 := hLK.2.2.2.2.2.2.2.1
  have no : ∀ y : Int32, ¬ y = 0 → X3_appendMany_L91 (J x) (J s) (J m) (J bd) F y F 0 yrow ymk yrm yst ypc up un = some (yrow, ymk, yrm, yst, ypc, up, un) := by
    intro y hy
    have := L91_no (F := F) (x := J x) (s := J s) (m := J m) (bd := J bd) hy n 0 yrow ymk yrm yst ypc up un
    rw [← hn] at this
    exact this
  have c1 : J s < 1 ↔ s < 1 := by rw [J_1, J_lt (by omega) (by omega)]
  have c2 : 10000 < J s ↔ 10000 < s := by rw [J_10000, J_lt (by omega) (by omega)]
  have c3 : J m < 1 ↔ m < 1 := by rw [J_1, J_lt (by omega) (by omega)]
  have c4 : J m ≤ 100 ↔ m ≤ 100 := by rw [J_100, J_le (by omega) (by omega)]
  have c5 : 100 < J m ↔ 100 < m := by rw [J_100, J_lt (by omega) (by omega)]
  -- refused for what is given
  have bad : X2_appendMany F zk zm zb zs zr zu zt (J bd) (J x) (J s) (J m) = some (Sum.inl 1) → X3_appendMany F yth (J bd) yrow ymk yrm yst ypc ybu ybn up un (J x) (J s) (J m) = some (ypc, 1, yrow, ymk, yrm, yst, ypc, up, un) → (∃ e y, ((e = 1 ∧ y = 1) ∨ (e = 2 ∧ y = 2)) ∧ X2_appendMany F zk zm zb zs zr zu zt (J bd) (J x) (J s) (J m) = some (Sum.inl e) ∧ X3_appendMany F yth (J bd) yrow ymk yrm yst ypc ybu ybn up un (J x) (J s) (J m) = some (ypc, y, yrow, ymk, yrm, yst, ypc, up, un)) := fun a b => ⟨1, 1, Or.inl ⟨rfl, rfl⟩, a, b⟩
  have bad2 : X2_appendMany F zk zm zb zs zr zu zt (J bd) (J x) (J s) (J m) = some (Sum.inl 2) → X3_appendMany F yth (J bd) yrow ymk yrm yst ypc ybu ybn up un (J x) (J s) (J m) = some (ypc, 2, yrow, ymk, yrm, yst, ypc, up, un) → (∃ e y, ((e = 1 ∧ y = 1) ∨ (e = 2 ∧ y = 2)) ∧ X2_appendMany F zk zm zb zs zr zu zt (J bd) (J x) (J s) (J m) = some (Sum.inl e) ∧ X3_appendMany F yth (J bd) yrow ymk yrm yst ypc ybu ybn up un (J x) (J s) (J m) = some (ypc, y, yrow, ymk, yrm, yst, ypc, up, un)) := fun a b => ⟨2, 2, Or.inr ⟨rfl, rfl⟩, a, b⟩
  by_cases R : 1 ≤ s ∧ s ≤ 10000 ∧ 1 ≤ m ∧ m ≤ 100
  · have hms : s * (m - 1) ≤ 10000 * 99 := Int.mul_le_mul R.2.1 (by omega) (by omega) (by omega)
    have hms0 : 0 ≤ s * (m - 1) := Int.mul_nonneg (by omega) (by omega)
    have cls : X2_appendMany F zk zm zb zs zr zu zt (J bd) (J x) (J s) (J m) = Option.bind (X2_needKey F (L x)) fun z_ => match z_ with
      | Sum.inl e_ => some (Sum.inl e_)
      | Sum.inr _ =>
      Option.bind (X2_needKey F (L (x + s * (m - 1)))) fun z_ => match z_ with
      | Sum.inl e_ => some (Sum.inl e_)
      | Sum.inr _ =>
      Option.bind (X2_needToFollow F zk zb (J x) (J m)) fun z_ => match z_ with
      | Sum.inl e_ => some (Sum.inl e_)
      | Sum.inr _ =>
      Option.bind (X2_appendMany_L64 (J x) (J s) (J m) (J bd) F F 0 zk zm zs zr zu zt) fun w =>
      Option.bind (X0_length F w.2.2.1) fun r90 =>
      some (Sum.inr (r90, w.1, w.2.1, w.2.2.1, w.2.2.2.1, w.2.2.2.2.1, w.2.2.2.2.2)) := by
      unfold X2_appendMany
      rw [if_neg (fun q => by have := c1.mp q; omega), if_neg (fun q => by have := c2.mp q; omega), if_neg (fun q => by have := c3.mp q; omega), if_pos (c4.mpr R.2.2.2)]
      simp only [bnd]
      rw [J_wide hx, J_wide hs, J_1, J_sub, J_wide (by omega), L_mul, L_add]
      rfl
    by_cases K1 : -1000000 ≤ x ∧ x ≤ 1000000
    · have y35 : (if (1 : Int32) = 0 then (0 : Int32) else (if J s < 1 then 0 else (if 10000 < J s then 0 else (if J m < 1 then 0 else (if 100 < J m then 0 else 1))))) = 1 := by
        rw [if_neg (by decide), if_neg (fun q => by have := c1.mp q; omega), if_neg (fun q => by have := c2.mp q; omega), if_neg (fun q => by have := c3.mp q; omega), if_neg (fun q => by have := c5.mp q; omega)]
      by_cases K2 : -1000000 ≤ x + s * (m - 1) ∧ x + s * (m - 1) ≤ 1000000
      · have nf := needToFollow_J (x := x) (m := m) hF hLK hX.1 hX.2.2.1 hx (by omega)
        have ia := isAbove_J (F := F) (x := x) hLK y1 y4 hx
        have ref : X3_appendMany F yth (J bd) yrow ymk yrm yst ypc ybu ybn up un (J x) (J s) (J m) = Option.bind (α := Int32) (if 256 < (yrm + ybn + J m) then some 2 else Option.bind (X3_isAbove F yrow yrm ybu ybn (J x)) fun r74 => if r74 = 0 then some 2 else some 0) fun y85 => Option.bind (X3_appendMany_L91 (J x) (J s) (J m) (J bd) F y85 F 0 yrow ymk yrm yst ypc up un) fun w => some (w.2.2.2.2.1, y85, w.1, w.2.1, w.2.2.1, w.2.2.2.1, w.2.2.2.2.1, w.2.2.2.2.2.1, w.2.2.2.2.2.2) := by
          unfold X3_appendMany X3_many
          rw [(isKey_J hx).1 K1]
          simp only [Option.bind_some, bnd]
          rw [y35, if_neg (by decide), show J m - 1 = J (m - 1) by rw [J_1, J_sub], J_mul, J_add, (isKey_J (by omega)).1 K2]
          simp only [Option.bind_some]
          rw [if_neg (by decide)]
        rw [cls, (needKey_J (by omega)).1 K1] at *
        rw [ref]
        simp only [Option.bind_some] at *
        rw [(needKey_J (by omega)).1 K2] at *
        simp only [Option.bind_some] at *
        have e1 : 256 < yrm + ybn + J m ↔ 256 < (K.length : Int) + B.length + m := by
          rw [y5, y7, J_add, J_add, J_256, J_lt (by omega) (by omega)]
        by_cases d : 256 < (K.length : Int) + B.length + m
        · rw [nf.2 (fun q => by have := q.2.2; omega), if_pos (e1.mpr d)]
          simp only [Option.bind_some]
          rw [no 2 (by decide)]
          exact Or.inl ⟨2, 2, Or.inr ⟨rfl, rfl⟩, rfl, rfl⟩
        · rw [if_neg (fun q => d (e1.mp q)), y5, y7]
          by_cases d2 : (∀ y, y ∈ K → y < x) ∧ (∀ y, y ∈ B → y < x)
          · obtain ⟨mn, hmn⟩ : ∃ mn : Nat, m = (mn : Int) := ⟨m.toNat, by omega⟩
            subst hmn
            obtain ⟨K', M', S', zk', zm', zs', zr', zu', zt', yrow', ymk', yrm', yst', ypc', up', un', f1, f2, f3, f4, f5⟩ := many_LL hF (x := x) (s := s) (m := mn) K1.1 ⟨R.1, R.2.1⟩ (by omega) (fun i hi => by
              have : s * (i : Int) ≤ s * ((mn : Int) - 1) := Int.mul_le_mul_of_nonneg_left (by omega) (by omega)
              omega) d2.2 mn F F 0 K M S zk zm zs zr zu zt yrow ymk yst yrm ypc up un (by omega) (by omega) (by omega) h hX hYY (fun y hy => by have := d2.1 y hy; simp; omega) (by omega)
            rw [J_00] at f1 f2
            rw [nf.1 ⟨d2.1, d2.2, by omega⟩, ia.1 d2]
            simp only [Option.bind_some]
            rw [f1, if_neg (by decide)]
            simp only [Option.bind_some]
            rw [length_J f4.2.2.2.1.1, ← y5, f2]
            simp only [Option.bind_some]
            refine Or.inr ⟨J S'.length, K', M', S', zk', zm', zs', zr', zu', zt', yrow', ymk', yrm', yst', ypc', up', un', rfl, ?_, f3, f4, by rw [← y7]; exact f5⟩
            rw [f5.2.2.2.2.2.1]
          · rw [nf.2 (fun q => d2 ⟨q.1, q.2.1⟩), ia.2 d2]
            simp only [Option.bind_some, if_true]
            rw [← y5, no 2 (by decide)]
            exact Or.inl ⟨2, 2, Or.inr ⟨rfl, rfl⟩, by first | rfl | trivial, rfl⟩
      · refine Or.inl (bad ?_ ?_)
        · rw [cls, (needKey_J (by omega)).1 K1]
          simp only [Option.bind_some]
          rw [(needKey_J (by omega)).2 K2]
          rfl
        · unfold X3_appendMany
          rw [(isKey_J hx).1 K1]
          simp only [Option.bind_some, bnd]
          rw [y35, if_neg (by decide), show J m - 1 = J (m - 1) by rw [J_1, J_sub], J_mul, J_add, (isKey_J (by omega)).2 K2]
          simp only [Option.bind_some, if_true]
          rw [no 1 (by decide)]
          rfl
    · refine Or.inl (bad ?_ ?_)
      · rw [cls, (needKey_J (by omega)).2 K1]
        rfl
      · unfold X3_appendMany
        rw [(isKey_J hx).2 K1]
        simp only [Option.bind_some, bnd, if_true]
        rw [no 1 (by decide)]
        rfl
  · refine Or.inl (bad ?_ ?_)
    · unfold X2_appendMany
      by_cases r1 : s < 1
      · rw [if_pos (c1.mpr r1)]
      · rw [if_neg (fun q => r1 (c1.mp q))]
        by_cases r2 : 10000 < s
        · rw [if_pos (c2.mpr r2)]
        · rw [if_neg (fun q => r2 (c2.mp q))]
          by_cases r3 : m < 1
          · rw [if_pos (c3.mpr r3)]
          · rw [if_neg (fun q => r3 (c3.mp q)), if_neg (fun q => by have := c4.mp q; omega)]
    · have y35 : ∀ r1 : Int32, (if r1 = 0 then (0 : Int32) else (if J s < 1 then 0 else (if 10000 < J s then 0 else (if J m < 1 then 0 else (if 100 < J m then 0 else 1))))) = 0 := by
        intro r1
        split
        · rfl
        · split
          · rfl
          · split
            · rfl
            · split
              · rfl
              · split
                · rfl
                · rename_i q1 q2 q3 q4 q5
                  rw [c1] at q2
                  rw [c2] at q3
                  rw [c3] at q4
                  rw [c5] at q5
                  omega
      unfold X3_appendMany
      by_cases K1 : -1000000 ≤ x ∧ x ≤ 1000000
      · rw [(isKey_J hx).1 K1]
        simp only [Option.bind_some, bnd]
        rw [y35]
        simp only [Option.bind_some, if_true]
        rw [no 1 (by decide)]
        rfl
      · rw [(isKey_J hx).2 K1]
        simp only [Option.bind_some, bnd, if_true]
        rw [no 1 (by decide)]
        rfl
end MAMY
