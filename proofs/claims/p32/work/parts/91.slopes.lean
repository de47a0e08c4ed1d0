/-! slopes that are alike: how many unlike ones, and the commonest -/
section MSLP
variable {F : Nat}
/-- how many of d places from j on have the value v -/
def cn (f : Nat → Int × Int) (v : Int × Int) : Nat → Nat → Nat
  | 0, _ => 0
  | d + 1, j => (if f j = v then 1 else 0) + cn f v d (j + 1)
theorem cn_snoc (f : Nat → Int × Int) (v : Int × Int) : ∀ d j, cn f v (d + 1) j = cn f v d j + (if f (j + d) = v then 1 else 0)
  | 0, j => by
    rw [cn, cn, cn, Nat.add_zero, Nat.add_zero, Nat.zero_add]
  | d + 1, j => by
    rw [cn, cn_snoc f v d (j + 1), cn, show j + 1 + d = j + (d + 1) by omega]
    omega
theorem cn_le (f : Nat → Int × Int) (v : Int × Int) : ∀ d j, cn f v d j ≤ d
  | 0, _ => Nat.le_refl _
  | d + 1, j => by
    have := cn_le f v d (j + 1)
    rw [cn]
    split <;> omega
theorem cn_split (f : Nat → Int × Int) (v : Int × Int) (e : Nat) : ∀ d j, cn f v (d + e) j = cn f v d j + cn f v e (j + d)
  | 0, j => by
    rw [Nat.zero_add, cn, Nat.zero_add, Nat.add_zero]
  | d + 1, j => by
    rw [show d + 1 + e = (d + e) + 1 by omega, cn, cn_split f v e d (j + 1), cn, show j + 1 + d = j + (d + 1) by omega]
    omega
theorem cn_zero (f : Nat → Int × Int) (v : Int × Int) : ∀ d j, cn f v d j = 0 ↔ ∀ t, j ≤ t → t < j + d → f t ≠ v
  | 0, j => ⟨fun _ t _ _ => by omega, fun _ => rfl⟩
  | d + 1, j => by
    have ih := cn_zero f v d (j + 1)
    rw [cn]
    constructor
    · intro h t h1 h2
      by_cases c : f j = v
      · rw [if_pos c] at h
        omega
      · rw [if_neg c] at h
        by_cases e : t = j
        · rw [e]; exact c
        · exact ih.mp (by omega) t (by omega) (by omega)
    · intro h
      rw [if_neg (h j (Nat.le_refl _) (by omega)), ih.mpr (fun t h1 h2 => h t (by omega) (by omega))]
def fc (f : Nat → Int × Int) : Nat → Nat
  | 0 => 0
  | m + 1 => fc f m + (if cn f (f m) m 0 = 0 then 1 else 0)
def lc (f : Nat → Int × Int) : Nat → Nat → Nat
  | 0, _ => 0
  | d + 1, i => (if cn f (f i) (d + 1) i = 1 then 1 else 0) + lc f d (i + 1)
theorem lc_snoc (f : Nat → Int × Int) : ∀ d i, lc f (d + 1) i = lc f d i + (if cn f (f (i + d)) d i = 0 then 1 else 0)
  | 0, i => by
    rw [lc, lc, lc, cn, cn, cn]
    simp
  | d + 1, i => by
    have ih := lc_snoc f d (i + 1)
    rw [lc, ih, lc, show i + 1 + d = i + (d + 1) by omega]
    have h1 := cn_snoc f (f i) (d + 1) i
    have h2 : cn f (f (i + (d + 1))) (d + 1) i = (if f i = f (i + (d + 1)) then 1 else 0) + cn f (f (i + (d + 1))) d (i + 1) := by rw [cn]
    have h3 : cn f (f i) (d + 1) i = 1 + cn f (f i) d (i + 1) := by rw [cn, if_pos rfl]
    rw [h1, h2, h3]
    by_cases c : f i = f (i + (d + 1))
    · rw [if_pos c.symm, if_pos c, ← c]
      by_cases c2 : cn f (f i) d (i + 1) = 0
      · rw [c2]
        simp
        omega
      · rw [if_neg (by omega), if_neg c2, if_neg (by omega), if_neg (by omega)]
        omega
    · have c' : ¬ f (i + (d + 1)) = f i := fun q => c q.symm
      simp only [c, c', if_false, Nat.add_zero, Nat.zero_add]
      rw [Nat.add_assoc]
theorem fc_lc (f : Nat → Int × Int) : ∀ m, fc f m = lc f m 0
  | 0 => rfl
  | m + 1 => by
    rw [lc_snoc, fc, fc_lc f m, Nat.zero_add]
theorem fc_le (f : Nat → Int × Int) : ∀ m, fc f m ≤ m
  | 0 => Nat.le_refl _
  | m + 1 => by
    have := fc_le f m
    rw [fc]
    split <;> omega
theorem lc_le (f : Nat → Int × Int) : ∀ d i, lc f d i ≤ d
  | 0, _ => Nat.le_refl _
  | d + 1, i => by
    have := lc_le f d (i + 1)
    rw [lc]
    split <;> omega
/-- the slope of a piece, in lowest terms -/
def qS (K S : List Int) (bd : Int) (i : Nat) : Int × Int := redq (slp bd K S i)
theorem qS_rng {K M B S : List Int} {bd : Int} {i : Nat} (h : LK K M B S bd) (hi : i < S.length) : 0 ≤ (qS K S bd i).1 ∧ (qS K S bd i).1 ≤ 1000 ∧ 0 ≤ (qS K S bd i).2 ∧ (qS K S bd i).2 ≤ 2000000 := by
  have hl := h.2.2.2.2.2.2.2.1
  exact redq_rng (slp_ok (by omega) h.1 h.2.1 h.2.2.2.2.2.2.2.2.2.2 h.2.2.2.2.2.2.2.2.1 hi)
theorem alike_J {K M B S : List Int} {bd : Int} {i j : Nat} {zs zr zu : zN} {zt : zT} (h : LK K M B S bd) (hp : PI bd K S K.length zs zr zu zt) (hi : i < S.length) (hj : j < S.length) : X2_alike F zr zu (J i) (J j) = some (if qS K S bd j = qS K S bd i then 1 else 0) := by
  obtain ⟨p1, p2, p3, p4, R, U, p5, p6, p7, p8, p9⟩ := hp
  have ei : R.getD i 0 = (qS K S bd i).1 ∧ U.getD i 0 = (qS K S bd i).2 := p9 i hi
  have ej : R.getD j 0 = (qS K S bd j).1 ∧ U.getD j 0 = (qS K S bd j).2 := p9 j hj
  have r1 := qS_rng h hi
  have r2 := qS_rng h hj
  unfold X2_alike
  rw [at_in p5 (by omega), at_in p5 (by omega)]
  simp only [Option.bind_some]
  rw [at_in p6 (by omega), at_in p6 (by omega)]
  simp only [Option.bind_some]
  rw [ei.1, ei.2, ej.1, ej.2]
  generalize qS K S bd i = a at r1
  generalize qS K S bd j = b at r2
  obtain ⟨a1, a2⟩ := a
  obtain ⟨b1, b2⟩ := b
  dsimp only at r1 r2 ⊢
  simp (disch := omega) only [J_eq, Prod.mk.injEq]
  by_cases c1 : a1 = b1
  · rw [if_pos c1]
    by_cases c2 : a2 = b2
    · rw [if_pos c2, if_pos ⟨c1.symm, c2.symm⟩]
    · rw [if_neg c2, if_neg (fun q => c2 q.2.symm)]
  · rw [if_neg c1, if_neg (fun q => c1 q.1.symm)]
theorem alikeFrom_L {K M B S : List Int} {bd : Int} {i : Nat} {zs zr zu : zN} {zt : zT} (h : LK K M B S bd) (hp : PI bd K S K.length zs zr zu zt) (hi : i < S.length) : ∀ (d n j c : Nat), d < n → j + d = S.length → X2_alikeFrom_L4 (J i) zs zr zu F n (J j) (J c) = some (J ((c + cn (qS K S bd) (qS K S bd i) d j : Nat) : Int))
  | d, 0, j, c, hn, _ => absurd hn (Nat.not_lt_zero d)
  | 0, n + 1, j, c, _, hd => by
    have e1 : j = S.length := by omega
    rw [e1, X2_alikeFrom_L4, length_J hp.1]
    simp only [Option.bind_some]
    rw [if_pos (by exact Int32.le_refl _), cn]
    rfl
  | d + 1, n + 1, j, c, hn, hd => by
    have hsl := hp.1.len
    rw [X2_alikeFrom_L4, length_J hp.1]
    simp only [Option.bind_some]
    rw [if_neg (by rw [J_leN (by omega) (by omega)]; omega), alike_J h hp hi (by omega)]
    simp only [Option.bind_some, bnd]
    rw [J_succ, J_succ, cn]
    by_cases c1 : qS K S bd j = qS K S bd i
    · rw [if_pos c1, if_neg (by decide), if_pos c1, alikeFrom_L h hp hi d n (j + 1) (c + 1) (by omega) (by omega)]
      congr 3
      omega
    · rw [if_neg c1, if_pos rfl, if_neg c1, alikeFrom_L h hp hi d n (j + 1) c (by omega) (by omega)]
      congr 3
      omega
theorem alikeFrom_J (hF : 2000 ≤ F) {K M B S : List Int} {bd : Int} {i : Nat} {zs zr zu : zN} {zt : zT} (h : LK K M B S bd) (hp : PI bd K S K.length zs zr zu zt) (hi : i < S.length) : X2_alikeFrom F zs zr zu (J i) = some (J (cn (qS K S bd) (qS K S bd i) (S.length - i) i)) := by
  have hsl := hp.1.len
  have := alikeFrom_L (F := F) h hp hi (S.length - i) F i 0 (by omega) (by omega)
  rw [J_00, Nat.zero_add] at this
  unfold X2_alikeFrom
  rw [this]
  rfl
theorem firstAlike_L {K M B S : List Int} {bd : Int} {i : Nat} {zs zr zu : zN} {zt : zT} (h : LK K M B S bd) (hp : PI bd K S K.length zs zr zu zt) (hi : i < S.length) : ∀ (d n j : Nat), d < n → j + d = i → (cn (qS K S bd) (qS K S bd i) d j = 0 → X2_firstAlike_L2 (J i) zr zu F n (J j) = some (Sum.inr ())) ∧ (¬ cn (qS K S bd) (qS K S bd i) d j = 0 → ∃ t, j ≤ t ∧ t < i ∧ X2_firstAlike_L2 (J i) zr zu F n (J j) = some (Sum.inl (J (t : Nat))))
  | d, 0, j, hn, _ => absurd hn (Nat.not_lt_zero d)
  | 0, n + 1, j, _, hd => by
    have e1 : j = i := by omega
    rw [e1, X2_firstAlike_L2, if_pos (by exact Int32.le_refl _), cn]
    exact ⟨fun _ => rfl, fun q => absurd rfl q⟩
  | d + 1, n + 1, j, hn, hd => by
    have hsl := hp.1.len
    have ih := firstAlike_L h hp hi d n (j + 1) (by omega) (by omega)
    rw [X2_firstAlike_L2, if_neg (by rw [J_leN (by omega) (by omega)]; omega), alike_J h hp hi (by omega)]
    simp only [Option.bind_some, bnd]
    rw [J_succ, cn]
    by_cases c1 : qS K S bd j = qS K S bd i
    · simp only [c1, if_true, show ¬ ((1 : Int32) = 0) by decide, if_false]
      exact ⟨fun q => absurd q (by omega), fun _ => ⟨j, Nat.le_refl _, by omega, rfl⟩⟩
    · simp only [c1, if_true, if_false, Nat.zero_add]
      refine ⟨ih.1, fun q => ?_⟩
      obtain ⟨t, t1, t2, t3⟩ := ih.2 q
      exact ⟨t, by omega, t2, t3⟩
theorem slopesX_L (hF : 2000 ≤ F) {K M B S : List Int} {bd : Int} {zs zr zu : zN} {zt : zT} (h : LK K M B S bd) (hp : PI bd K S K.length zs zr zu zt) : ∀ (d n i : Nat), d < n → i + d = S.length → X2_slopes_L4 zs zr zu F n (J i) (J (fc (qS K S bd) i)) = some (J (fc (qS K S bd) S.length))
  | d, 0, i, hn, _ => absurd hn (Nat.not_lt_zero d)
  | 0, n + 1, i, _, hd => by
    have e1 : i = S.length := by omega
    rw [e1, X2_slopes_L4, length_J hp.1]
    simp only [Option.bind_some]
    rw [if_pos (by exact Int32.le_refl _)]
  | d + 1, n + 1, i, hn, hd => by
    have hsl := hp.1.len
    have ih := slopesX_L hF h hp d n (i + 1) (by omega) (by omega)
    have fa := firstAlike_L (F := F) h hp (i := i) (by omega) i F 0 (by omega) (by omega)
    rw [J_00] at fa
    rw [fc] at ih
    rw [X2_slopes_L4, length_J hp.1]
    simp only [Option.bind_some]
    rw [if_neg (by rw [J_leN (by omega) (by omega)]; omega)]
    unfold X2_firstAlike
    by_cases c : cn (qS K S bd) (qS K S bd i) i 0 = 0
    · rw [fa.1 c]
      simp only [Option.bind_some, bnd, if_true]
      rw [J_succ, J_succ]
      rw [if_pos c] at ih
      exact ih
    · obtain ⟨t, t1, t2, t3⟩ := fa.2 c
      rw [t3]
      simp only [Option.bind_some, bnd]
      rw [if_neg (by rw [J_eqN (by omega) (by omega)]; omega), J_succ]
      rw [if_neg c, Nat.add_zero] at ih
      exact ih
end MSLP
