/-! the law looks at all pieces -/
section LPI
variable {F : Nat}
variable {zk zm zb zs zr zu : zN} {zt : zT} {zf zg : zN} {zbd zro zmc zmg zsp zjn : Int32}
theorem lref_a {p q : Int32} {e : Nat} (h : X2_append F zk zm zb zs zr zu zt zbd p = some (Sum.inl e)) (he : e = 1 ∨ e = 2) : L_refused F zk zm zb zs zr zu zt zf zg zbd zro zmc zmg zsp zjn 0 p q = some (J (e : Nat), zk, zm, zb, zs, zr, zu, zt, zf, zg, zbd, zro, zmc, zmg, zsp, zjn) := by
  unfold L_refused
  rw [if_pos rfl, h]
  rcases he with rfl | rfl
  · rfl
  · rfl
theorem lref_i {p q : Int32} (h : X2_insert F zk zm zb zs zr zu zt zf zg zbd zro zmc zmg zsp zjn p = some (Sum.inl 2)) : L_refused F zk zm zb zs zr zu zt zf zg zbd zro zmc zmg zsp zjn 1 p q = some (2, zk, zm, zb, zs, zr, zu, zt, zf, zg, zbd, zro, zmc, zmg, zsp, zjn) := by
  unfold L_refused
  rw [if_neg (by decide), if_pos rfl, h]
  rfl
theorem lref_r {p q : Int32} (h : X2_remove F zk zm zb zmc p = some (Sum.inl 4)) : L_refused F zk zm zb zs zr zu zt zf zg zbd zro zmc zmg zsp zjn 2 p q = some (3, zk, zm, zb, zs, zr, zu, zt, zf, zg, zbd, zro, zmc, zmg, zsp, zjn) := by
  unfold L_refused
  rw [if_neg (by decide), if_neg (by decide), if_pos rfl, h]
  rfl
theorem lref_s {p q : Int32} (h : X2_select F zk zm zb zf zmc p = some (Sum.inl 3)) : L_refused F zk zm zb zs zr zu zt zf zg zbd zro zmc zmg zsp zjn 3 p q = some (4, zk, zm, zb, zs, zr, zu, zt, zf, zg, zbd, zro, zmc, zmg, zsp, zjn) := by
  unfold L_refused
  rw [if_neg (by decide), if_neg (by decide), if_neg (by decide), if_pos rfl, h]
  rfl
theorem lref_c {p q : Int32} (h : X2_ceiling F zk zm zb zf zmc p = some (Sum.inl 4)) : L_refused F zk zm zb zs zr zu zt zf zg zbd zro zmc zmg zsp zjn 4 p q = some (3, zk, zm, zb, zs, zr, zu, zt, zf, zg, zbd, zro, zmc, zmg, zsp, zjn) := by
  unfold L_refused
  rw [if_neg (by decide), if_neg (by decide), if_neg (by decide), if_neg (by decide), if_pos rfl, h]
  rfl
theorem lref_t {p q : Int32} (h : X2_start F zs p = some (Sum.inl 3)) : L_refused F zk zm zb zs zr zu zt zf zg zbd zro zmc zmg zsp zjn 5 p q = some (4, zk, zm, zb, zs, zr, zu, zt, zf, zg, zbd, zro, zmc, zmg, zsp, zjn) := by
  unfold L_refused
  rw [if_neg (by decide), if_neg (by decide), if_neg (by decide), if_neg (by decide), if_neg (by decide), if_pos rfl, h]
  rfl
theorem lref_b {p q : Int32} (h : X2_rebuild F zk zm zb zs zr zu zt zf zbd zro zmc p q = some (Sum.inl 1)) : L_refused F zk zm zb zs zr zu zt zf zg zbd zro zmc zmg zsp zjn 6 p q = some (1, zk, zm, zb, zs, zr, zu, zt, zf, zg, zbd, zro, zmc, zmg, zsp, zjn) := by
  unfold L_refused
  rw [if_neg (by decide), if_neg (by decide), if_neg (by decide), if_neg (by decide), if_neg (by decide), if_neg (by decide), h]
  rfl
/-- no key is farther from its guess than the bound -/
theorem gK_near {K M B S : List Int} {bd : Int} {i k : Nat} (h : LK K M B S bd) (hi : i < S.length) (h1 : (S.getD i 0).toNat ≤ k) (h2 : k < endS S K.length i) : -bd ≤ gK K S bd i (K.getD k 0) - k ∧ gK K S bd i (K.getD k 0) - k ≤ bd := by
  obtain ⟨g1, g2, g3, g4, g5, g6, g7, g8, g9, g10, g11⟩ := id h
  have hse := SOK_lt g9 hi
  have hsi := g9.2.1 i hi
  have hq := slp_ok (by omega) g1 g2 g11 g9 hi
  have hf := g10 i hi
  unfold slpN at hf
  unfold gK
  rw [redq_div hq]
  unfold slp at hq ⊢
  obtain ⟨s, hs⟩ : ∃ s : Nat, s = (S.getD i 0).toNat := ⟨_, rfl⟩
  have hs2 : S.getD i 0 = (s : Int) := by omega
  rw [← hs] at h1 hse hq hf ⊢
  rw [hs2]
  rcases Nat.eq_zero_or_pos (k - s) with c | c
  · rw [show k = s by omega, show K.getD s 0 - K.getD s 0 = 0 by omega, Int.mul_zero, Int.zero_ediv]
    omega
  · obtain ⟨a1, a2, a3, a4, a5, a6, a7, a8, a9⟩ := rng_char (f := gd K) (o := s) g11.1 (endS S K.length i - 1 - s) (wf_gd g1 (by omega))
    clear a8 a9
    have x1 := a6 (k - s) c (by omega)
    have x2 := a7 (k - s) c (by omega)
    have x3 := a5 (by omega)
    have hw : wf (gd K) s (k - s) = K.getD k 0 - K.getD s 0 := by
      unfold wf gd
      rw [show s + (k - s) = k by omega]
    rw [hw] at x1 x2
    have hw1 := wf_gd (o := s) (k := endS S K.length i - 1 - s) g1 (by omega) (k - s) c (by omega)
    rw [hw] at hw1
    generalize rng bd (gd K) s (endS S K.length i - 1 - s) = q at *
    obtain ⟨qa, qb, qc, qd⟩ := q
    dsimp only at a1 a2 a3 a4 x1 x2 x3 hf ⊢
    generalize K.getD k 0 - K.getD s 0 = w at *
    have e : ((k - s : Nat) : Int) = (k : Int) - s := by omega
    rw [e] at x1 x2
    have u1 : qa * w ≤ ((k : Int) - s + bd) * qb := by
      have z1 : qa * qd * w ≤ qc * qb * w := Int.mul_le_mul_of_nonneg_right hf (by omega)
      have z2 : qc * w * qb ≤ ((k : Int) - s + bd) * qd * qb := Int.mul_le_mul_of_nonneg_right x2 (by omega)
      have z3 : qa * qd * w = qa * w * qd := Int.mul_right_comm _ _ _
      have z4 : qc * qb * w = qc * w * qb := Int.mul_right_comm _ _ _
      have z5 : ((k : Int) - s + bd) * qd * qb = ((k : Int) - s + bd) * qb * qd := Int.mul_right_comm _ _ _
      exact Int.le_of_mul_le_mul_right (a := qd) (by omega) (by omega)
    have v1 : (k : Int) - s - bd ≤ qa * w / qb := Int.le_ediv_of_mul_le (by omega) x1
    have v2 : qa * w / qb ≤ (k : Int) - s + bd := Int.ediv_le_of_le_mul (by omega) u1
    omega
theorem lp198 (hF : 2000 ≤ F) {K M B S : List Int} {bd : Int} {i : Nat} {vr vq : Nat → Int32} (h : LK K M B S bd) (hk : RN 256 zk K) (hp : PI bd K S K.length zs zr zu zt) (hK : RA 64 vr K) (hq2 : vq 2 = J bd) (hi : i < S.length) : ∀ (d m k : Nat), d < m → k + d = endS S K.length i → (S.getD i 0).toNat ≤ k → L_pieces_L198 vr vq zk zm zb zs zr zu zt zf zg zbd zro zmc zmg zsp zjn F (J (S.getD i 0)) (J (endS S K.length i)) m (J k) (L (wE K S bd k)) = some (Sum.inr (L (wE K S bd (endS S K.length i))))
  | d, 0, k, hn, _, _ => absurd hn (Nat.not_lt_zero d)
  | 0, m + 1, k, _, hd, _ => by
    have hl := hK.1
    have hse := SOK_lt h.2.2.2.2.2.2.2.2.1 hi
    rw [L_pieces_L198, if_pos (by rw [J_leN (by omega) (by omega)]; omega), show k = endS S K.length i by omega]
  | d + 1, m + 1, k, hn, hd, hs => by
    have hl := hK.1
    have hbd := h.2.2.2.2.2.2.2.2.2.2
    have hse := SOK_lt h.2.2.2.2.2.2.2.2.1 hi
    have hsi := h.2.2.2.2.2.2.2.2.1.2.1 i hi
    have hrk := h.2.1 k (by omega)
    have hpc := piece_at h hi hs (show k < endS S K.length i by omega)
    have hfk : K.getD (S.getD i 0).toNat 0 ≤ K.getD k 0 := by
      rcases Nat.lt_or_ge (S.getD i 0).toNat k with q | q
      · have := h.1 _ k q (by omega)
        omega
      · rw [show k = (S.getD i 0).toNat by omega]
        omega
    have e1 := lguess_J (F := F) hF h hK hi hrk hfk
    have e2 := cx_guess (F := F) hF h hk hp hrk
    rw [hpc, if_neg (by omega), Nat.add_sub_cancel] at e2
    obtain ⟨n1, n2⟩ := gK_near h hi hs (show k < endS S K.length i by omega)
    have hw := wE_rng h k (by omega)
    have ih := lp198 hF h hk hp hK hq2 hi d m (k + 1) (by omega) (by omega) (by omega)
    have hwk : wE K S bd (k + 1) = if eF K S bd k ≤ wE K S bd k then wE K S bd k else eF K S bd k := rfl
    have heF : eF K S bd k = if 0 ≤ gK K S bd i (K.getD k 0) - k then gK K S bd i (K.getD k 0) - k else -(gK K S bd i (K.getD k 0) - k) := by
      unfold eF
      rw [hpc, Nat.add_sub_cancel]
    rw [hwk, heF] at ih
    rw [L_pieces_L198, if_neg (by rw [J_leN (by omega) (by omega)]; omega), if_pos (J_inN (by omega) (by omega)), J_ix (by omega), hK.2 k (by omega)]
    simp only [i7_2, if_true, n7_2, hq2, e1, Option.bind_some, bnd]
    rw [if_pos (J_inM (by omega) (by omega)), e2]
    generalize gK K S bd i (K.getD k 0) = g at *
    generalize wE K S bd k = w at *
    simp only [nz, Option.bind_some]
    rw [J_wide (a := (k : Int)) (by omega), J_neg, J_wide (by omega), J_wide (by omega), L_sub, L_add, show g - (k : Int) + k = g by omega, if_pos rfl, L_neg, J_succ]
    rw [if_neg (by rw [L_lt (by omega) (by omega)]; omega), if_pos (by rw [L_le (by omega) (by omega)]; omega)]
    by_cases c1 : g - k ≤ w
    · rw [if_pos (by rw [L_le (by omega) (by omega)]; exact c1)]
      by_cases c2 : -(g - k) ≤ w
      · rw [if_pos (by rw [L_le (by omega) (by omega)]; exact c2)]
        rw [if_pos (by split <;> omega)] at ih
        exact ih
      · rw [if_neg (by rw [L_le (by omega) (by omega)]; exact c2)]
        rw [if_neg (show ¬ 0 ≤ g - (k : Int) by omega), if_neg (show ¬ -(g - (k : Int)) ≤ w by omega)] at ih
        exact ih
    · rw [if_neg (by rw [L_le (by omega) (by omega)]; exact c1)]
      rw [if_pos (show 0 ≤ g - (k : Int) by omega), if_neg (show ¬ (g - (k : Int)) ≤ w by omega)] at ih
      exact ih
theorem lp21 (hF : 2000 ≤ F) {K M B S : List Int} {bd : Int} {vr vh vq : Nat → Int32} (h : LK K M B S bd) (hk : RN 256 zk K) (hp : PI bd K S K.length zs zr zu zt) (hK : RA 64 vr K) (hH : HD vh S K.length) (hq0 : vq 0 = J K.length) (hq2 : vq 2 = J bd) : ∀ (d m i : Nat) (vx vy : Nat → Int32), d < m → i + d = S.length → (∀ j, j < i → vx j = J (qS K S bd j).1 ∧ vy j = J (qS K S bd j).2) → ∃ vx' vy', L_pieces_L21 vr vh vq zk zm zb zs zr zu zt zf zg zbd zro zmc zmg zsp zjn F m (J (posK S K.length i)) (L (wE K S bd (posK S K.length i))) (J i) vx vy = some (Sum.inr (L (wE K S bd K.length), J S.length, vx', vy')) ∧ ∀ j, j < S.length → vx' j = J (qS K S bd j).1 ∧ vy' j = J (qS K S bd j).2
  | d, 0, i, vx, vy, hn, _, _ => absurd hn (Nat.not_lt_zero d)
  | 0, m + 1, i, vx, vy, _, hd, hv => by
    have hl := hK.1
    have e : i = S.length := by omega
    subst e
    have e1 : posK S K.length S.length = K.length := by unfold posK; rw [if_neg (Nat.lt_irrefl _)]
    refine ⟨vx, vy, ?_, hv⟩
    rw [e1, L_pieces_L21]
    simp only [i7_0, if_true, n7_0, hq0]
    rw [if_pos (by exact Int32.le_refl _)]
  | d + 1, m + 1, i, vx, vy, hn, hd, hv => by
    have hl := hK.1
    have hi : i < S.length := by omega
    obtain ⟨g1, g2, g3, g4, g5, g6, g7, g8, g9, g10, g11⟩ := id h
    have hse := SOK_lt g9 hi
    have hsi := g9.2.1 i hi
    have hsl := SOK_len g9
    have hq := slp_ok (by omega) g1 g2 g11 g9 hi
    have hr := redq_rng hq
    have hgp := gq_pos hq
    have hgl := gq_le hq
    have hf := g10 i hi
    unfold slpN at hf
    obtain ⟨s, hs⟩ : ∃ s : Nat, s = (S.getD i 0).toNat := ⟨_, rfl⟩
    have hs2 : S.getD i 0 = (s : Int) := by omega
    have e1 : posK S K.length i = s := by unfold posK; rw [if_pos hi, hs]
    have e2 : posK S K.length (i + 1) = endS S K.length i := rfl
    have hbh := lbehind_H (F := F) hF (by omega) hH g9 hi
    obtain ⟨b, t1, t2, t3, t4⟩ := lsteep_J (F := F) (o := s) (e := endS S K.length i) hF hK g1 g2 g11 (by omega) hse.2
    have hfit := lfits_J (F := F) (o := s) (e := endS S K.length i) hF hK g1 g2 g11 (by omega) hse.2
    rw [← hs] at hf
    rw [if_pos hf] at hfit
    have st1 := cx_start (F := F) hp.1 hi
    have st2 := cx_firstKey (F := F) hk hp.1 g9 hi
    have st3 := cx_rise (F := F) hp hi
    have st4 := cx_run (F := F) hp hi
    have l198 := lp198 (zm := zm) (zb := zb) (zf := zf) (zg := zg) (zbd := zbd) (zro := zro) (zmc := zmc) (zmg := zmg) (zsp := zsp) (zjn := zjn) hF h hk hp hK hq2 hi (endS S K.length i - s) F s (by omega) (by omega) (by omega)
    have hqe : slp bd K S i = rng bd (gd K) s (endS S K.length i - 1 - s) := by unfold slp; rw [← hs]
    have hcom := lcommon_J (F := F) hF hq
    rw [hs2] at hbh st1 st2 l198
    rw [show ((s : Int)).toNat = s by omega] at st2
    -- rise and run
    have y73 : (if J (b : Int) = J (s : Int) then some (0 : Int32) else some ((J (b : Int) - J (s : Int)) - vq 2)) = some (J (slp bd K S i).1) := by
      rw [hqe, hq2]
      rcases t4 with ⟨u1, u2, u3⟩ | ⟨u1, u2, u3, u4⟩
      · rw [if_pos (by rw [u1]), u2, J_0]
      · rw [if_neg (by rw [J_eqN (by omega) (by omega)]; omega), J_sub, J_sub, u2]
    have y95 : (if J (b : Int) = J (s : Int) then some (1 : Int32) else (if ¬ (J (b : Int) < 0 ∨ 64 ≤ (Int32.toNatClampNeg (J (b : Int)))) then (if ¬ (J (s : Int) < 0 ∨ 64 ≤ (Int32.toNatClampNeg (J (s : Int)))) then some (vr (Int32.toNatClampNeg (J (b : Int))) - vr (Int32.toNatClampNeg (J (s : Int)))) else none) else none)) = some (J (slp bd K S i).2.1) := by
      rw [hqe]
      rcases t4 with ⟨u1, u2, u3⟩ | ⟨u1, u2, u3, u4⟩
      · rw [if_pos (by rw [u1]), u3, J_1]
      · rw [if_neg (by rw [J_eqN (by omega) (by omega)]; omega), if_pos (J_inN (by omega) (by omega)), if_pos (J_inN (by omega) (by omega)), J_ix (by omega), J_ix (by omega), hK.2 b (by omega), hK.2 s (by omega), J_sub, u4]
        rfl
    have d1 : J (slp bd K S i).1 / J (gq (slp bd K S i)) = J (qS K S bd i).1 := by
      rw [J_div (by have := hq.1; have := hq.2.1; omega) (by omega)]
      rfl
    have d2 : J (slp bd K S i).2.1 / J (gq (slp bd K S i)) = J (qS K S bd i).2 := by
      rw [J_div (by have := hq.2.2.1; have := hq.2.2.2.1; omega) (by omega)]
      rfl
    have hgz : ¬ J ((gq (slp bd K S i) : Nat) : Int) = 0 := by rw [J_0, J_eq (by omega) (by omega)]; omega
    obtain ⟨vx', vy', r1, r2⟩ := lp21 hF h hk hp hK hH hq0 hq2 d m (i + 1) (upd vx i (J (qS K S bd i).1)) (upd vy i (J (qS K S bd i).2)) (by omega) (by omega) (fun j hj => by
      unfold upd
      by_cases c : j = i
      · rw [if_pos c, if_pos c, c]
        exact ⟨rfl, rfl⟩
      · rw [if_neg c, if_neg c]
        exact hv j (by omega))
    refine ⟨vx', vy', ?_, r2⟩
    rw [e2] at r1
    rw [← r1, e1, L_pieces_L21]
    simp only [i7_0, i7_2, if_true, n7_0, n7_2]
    rw [hq0, if_neg (by rw [J_leN (by omega) (by omega)]; omega), hbh]
    simp only [Option.bind_some]
    rw [← hq2] at t1 hfit
    rw [t1]
    simp only [Option.bind_some]
    rw [y73, y95]
    simp only [Option.bind_some]
    rw [hcom]
    simp only [Option.bind_some]
    rw [if_pos hgz]
    simp only [if_pos (J_inN (show i < 64 by omega) (show 64 ≤ 1000 by omega)), J_ix (show i < 2147483648 by omega), if_pos (J_inM (show i < 64 by omega) (show 64 ≤ 1000 by omega))]
    rw [if_pos hgz, hfit]
    simp only [Option.bind_some]
    rw [if_neg (by decide), st1]
    simp only [nz, Option.bind_some, if_true]
    rw [st2]
    simp only [nz, Option.bind_some]
    rw [if_pos (J_inN (by omega) (by omega)), J_ix (by omega), hK.2 s (by omega), if_pos rfl, st3, d1, d2]
    simp only [nz, Option.bind_some]
    rw [if_pos (show J (qS K S bd i).1 = upd vx i (J (qS K S bd i).1) i from (if_pos rfl).symm), st4]
    simp only [Option.bind_some]
    rw [if_pos (show J (qS K S bd i).2 = upd vy i (J (qS K S bd i).2) i from (if_pos rfl).symm), l198]
    simp only [Option.bind_some, bnd]
    rw [J_succ]
theorem lp351 {f : Nat → Int × Int} {vx vy : Nat → Int32} {n p : Nat} (hn : n ≤ 64) (hp : p < n) (hf : ∀ j, j < n → vx j = J (f j).1 ∧ vy j = J (f j).2) (hr : ∀ j, j < n → 0 ≤ (f j).1 ∧ (f j).1 ≤ 1000 ∧ 0 ≤ (f j).2 ∧ (f j).2 ≤ 2000000) : ∀ (d m q first a : Nat), d < m → q + d = n → first ≤ p → ∃ first' : Nat, L_pieces_L351 (J n) vx vy (J p) m (J q) (J first) (J a) = some (J (first' : Nat), J ((a + cn f (f p) d q : Nat) : Int)) ∧ first' ≤ first ∧ (first' = p ↔ first = p ∧ ∀ t, q ≤ t → t < n → t < p → f t ≠ f p)
  | d, 0, q, first, a, h, _, _ => absurd h (Nat.not_lt_zero d)
  | 0, m + 1, q, first, a, _, hd, hfp => by
    refine ⟨first, ?_, Nat.le_refl _, ⟨fun h => ⟨h, fun t h1 h2 => by omega⟩, fun h => h.1⟩⟩
    rw [L_pieces_L351, if_pos (by rw [J_leN (by omega) (by omega)]; omega)]
    rfl
  | d + 1, m + 1, q, first, a, hm, hd, hfp => by
    have r1 := hr q (by omega)
    have r2 := hr p hp
    obtain ⟨f1, f2⟩ := hf q (by omega)
    obtain ⟨f3, f4⟩ := hf p hp
    have hcn : cn f (f p) (d + 1) q = (if f q = f p then 1 else 0) + cn f (f p) d (q + 1) := rfl
    have key : (if J (f q).1 = J (f p).1 then (if J (f q).2 = J (f p).2 then some (1 : Int32) else some 0) else some 0) = some (if f q = f p then 1 else 0) := by
      by_cases c : f q = f p
      · rw [c, if_pos rfl, if_pos rfl, if_pos rfl]
      · rw [if_neg c]
        by_cases c1 : (f q).1 = (f p).1
        · rw [if_pos (by rw [c1]), if_neg (fun h => c (Prod.ext c1 (by rwa [J_eq (by omega) (by omega)] at h)))]
        · rw [if_neg (by rw [J_eq (by omega) (by omega)]; exact c1)]
    have st : L_pieces_L351 (J n) vx vy (J p) (m + 1) (J q) (J first) (J a) = (if f q = f p then (if first ≤ q then L_pieces_L351 (J n) vx vy (J p) m (J (q + 1 : Nat)) (J first) (J (a + 1 : Nat)) else L_pieces_L351 (J n) vx vy (J p) m (J (q + 1 : Nat)) (J q) (J (a + 1 : Nat))) else L_pieces_L351 (J n) vx vy (J p) m (J (q + 1 : Nat)) (J first) (J a)) := by
      rw [L_pieces_L351, if_neg (by rw [J_leN (by omega) (by omega)]; omega)]
      simp only [if_pos (J_inN (show q < 64 by omega) (show 64 ≤ 1000 by omega)), J_ix (show q < 2147483648 by omega), if_pos (J_inM (show q < 64 by omega) (show 64 ≤ 1000 by omega)), if_pos (J_inN (show p < 64 by omega) (show 64 ≤ 1000 by omega)), J_ix (show p < 2147483648 by omega), if_pos (J_inM (show p < 64 by omega) (show 64 ≤ 1000 by omega)), f1, f2, f3, f4]
      rw [key]
      simp only [Option.bind_some, bnd]
      by_cases c : f q = f p
      · rw [if_pos c, if_pos c]
        simp only [t10, if_false]
        rw [J_succ, J_succ]
        by_cases c2 : first ≤ q
        · rw [if_pos c2, if_pos (by rw [J_leN (by omega) (by omega)]; exact c2)]
        · rw [if_neg c2, if_neg (by rw [J_leN (by omega) (by omega)]; exact c2)]
      · rw [if_neg c, if_neg c]
        simp only [if_true]
        rw [J_succ, Int32.add_zero]
    rw [st, hcn]
    by_cases c : f q = f p
    · rw [if_pos c, if_pos c]
      by_cases c2 : first ≤ q
      · rw [if_pos c2]
        obtain ⟨first', s1, s2, s3⟩ := lp351 hn hp hf hr d m (q + 1) first (a + 1) (by omega) (by omega) hfp
        refine ⟨first', by rw [s1, Nat.add_assoc], s2, ?_⟩
        rw [s3]
        refine ⟨fun ⟨h1, h2⟩ => ⟨h1, fun t h3 h4 h5 => h2 t (by omega) h4 h5⟩, fun ⟨h1, h2⟩ => ⟨h1, fun t h3 h4 h5 => h2 t (by omega) h4 h5⟩⟩
      · rw [if_neg c2]
        obtain ⟨first', s1, s2, s3⟩ := lp351 hn hp hf hr d m (q + 1) q (a + 1) (by omega) (by omega) (by omega)
        refine ⟨first', by rw [s1, Nat.add_assoc], by omega, ?_⟩
        exact ⟨fun h1 => by omega, fun ⟨h1, h2⟩ => absurd c (h2 q (Nat.le_refl _) (by omega) (by omega))⟩
    · rw [if_neg c, if_neg c]
      obtain ⟨first', s1, s2, s3⟩ := lp351 hn hp hf hr d m (q + 1) first a (by omega) (by omega) hfp
      refine ⟨first', by rw [s1, Nat.zero_add], s2, ?_⟩
      rw [s3]
      refine ⟨fun ⟨h1, h2⟩ => ⟨h1, fun t h3 h4 h5 => ?_⟩, fun ⟨h1, h2⟩ => ⟨h1, fun t h3 h4 h5 => h2 t (by omega) h4 h5⟩⟩
      rcases Nat.lt_or_ge q t with h6 | h6
      · exact h2 t h6 h4 h5
      · rw [show t = q by omega]
        exact c
theorem lp334 (hF : 2000 ≤ F) {K M B S : List Int} {bd : Int} {vx vy : Nat → Int32} (h : LK K M B S bd) (hp : PI bd K S K.length zs zr zu zt) (hS : S.length ≤ 64) (hv : ∀ j, j < S.length → vx j = J (qS K S bd j).1 ∧ vy j = J (qS K S bd j).2) : ∀ (d n m i most : Nat) (best : Int32), d < n → d < m → i + d = S.length → most ≤ 256 → (∀ t, t < i → cn (qS K S bd) (qS K S bd t) S.length 0 ≤ most) → ∃ v, X2_commonest_L6 zs zr zu F n (J i) (J most) best = some v ∧ L_pieces_L334 F (J S.length) vx vy m (J i) (J most) best (J (fc (qS K S bd) i)) = some (v, J (fc (qS K S bd) S.length))
  | d, 0, m, i, most, best, hn, _, _, _, _ => absurd hn (Nat.not_lt_zero d)
  | d, n, 0, i, most, best, _, hn, _, _, _ => absurd hn (Nat.not_lt_zero d)
  | 0, n + 1, m + 1, i, most, best, _, _, hd, _, _ => by
    have e1 : i = S.length := by omega
    refine ⟨best, ?_, ?_⟩
    · rw [e1, X2_commonest_L6, length_J hp.1]
      simp only [Option.bind_some]
      rw [if_pos (by exact Int32.le_refl _)]
    · rw [e1, L_pieces_L334, if_pos (by exact Int32.le_refl _)]
  | d + 1, n + 1, m + 1, i, most, best, hn, hm', hd, hm, hI => by
    have hsl := hp.1.len
    have e2 := alikeFrom_J hF h hp (i := i) (by omega)
    have hsp := cn_split (qS K S bd) (qS K S bd i) (S.length - i) i 0
    rw [show i + (S.length - i) = S.length by omega, Nat.zero_add] at hsp
    have hle := cn_le (qS K S bd) (qS K S bd i) S.length 0
    have hz := cn_zero (qS K S bd) (qS K S bd i) i 0
    have hfl := fc_le (qS K S bd) i
    have hfc : fc (qS K S bd) (i + 1) = fc (qS K S bd) i + (if cn (qS K S bd) (qS K S bd i) i 0 = 0 then 1 else 0) := rfl
    obtain ⟨first', s1, s2, s3⟩ := lp351 (f := qS K S bd) (vx := vx) (vy := vy) (n := S.length) (p := i) hS (by omega) hv (fun j hj => qS_rng h hj) S.length F 0 i 0 (by omega) (by omega) (Nat.le_refl _)
    rw [J_00, Nat.zero_add] at s1
    have hfirst : (if J (first' : Int) = J (i : Int) then (1 : Int32) else 0) = J ((if cn (qS K S bd) (qS K S bd i) i 0 = 0 then 1 else 0 : Nat) : Int) := by
      by_cases c : cn (qS K S bd) (qS K S bd i) i 0 = 0
      · rw [if_pos c, if_pos (by rw [s3.mpr ⟨rfl, fun t _ _ h3 => hz.mp c t (Nat.zero_le _) (by omega)⟩])]
        decide
      · rw [if_neg c, if_neg (by
          rw [J_eqN (by omega) (by omega)]
          intro q
          exact c (hz.mpr (fun t _ h2 => (s3.mp q).2 t (Nat.zero_le _) (by omega) (by omega))))]
        decide
    have key : (cn (qS K S bd) (qS K S bd i) (S.length - i) i ≤ most ↔ cn (qS K S bd) (qS K S bd i) S.length 0 ≤ most) ∧ (¬ cn (qS K S bd) (qS K S bd i) S.length 0 ≤ most → cn (qS K S bd) (qS K S bd i) (S.length - i) i = cn (qS K S bd) (qS K S bd i) S.length 0) := by
      by_cases c : cn (qS K S bd) (qS K S bd i) i 0 = 0
      · constructor
        · omega
        · intro _
          omega
      · have : ∃ t, t < i ∧ qS K S bd t = qS K S bd i := by
          apply Classical.byContradiction
          intro q
          exact c (hz.mpr (fun t _ h2 h3 => q ⟨t, by omega, h3⟩))
        obtain ⟨t, t1, t2⟩ := this
        have := hI t t1
        rw [t2] at this
        constructor
        · omega
        · intro q
          omega
    rw [X2_commonest_L6, length_J hp.1]
    simp only [Option.bind_some]
    rw [if_neg (by rw [J_leN (by omega) (by omega)]; omega), e2, L_pieces_L334, if_neg (by rw [J_leN (by omega) (by omega)]; omega), s1]
    simp only [Option.bind_some, bnd]
    rw [hfirst, J_succ, J_add, show ((fc (qS K S bd) i : Nat) : Int) + ((if cn (qS K S bd) (qS K S bd i) i 0 = 0 then 1 else 0 : Nat) : Int) = ((fc (qS K S bd) (i + 1) : Nat) : Int) by rw [hfc]; omega]
    by_cases c : cn (qS K S bd) (qS K S bd i) S.length 0 ≤ most
    · simp only [if_pos (show J ((cn (qS K S bd) (qS K S bd i) (S.length - i) i : Nat) : Int) ≤ J (most : Int) by rw [J_leN (by omega) (by omega)]; omega), if_pos (show J ((cn (qS K S bd) (qS K S bd i) S.length 0 : Nat) : Int) ≤ J (most : Int) by rw [J_leN (by omega) (by omega)]; omega)]
      exact lp334 hF h hp hS hv d n m (i + 1) most best (by omega) (by omega) (by omega) hm (fun t ht => by
        by_cases e : t = i
        · rw [e]; exact c
        · exact hI t (by omega))
    · simp only [if_neg (show ¬ J ((cn (qS K S bd) (qS K S bd i) (S.length - i) i : Nat) : Int) ≤ J (most : Int) by rw [J_leN (by omega) (by omega)]; omega), if_neg (show ¬ J ((cn (qS K S bd) (qS K S bd i) S.length 0 : Nat) : Int) ≤ J (most : Int) by rw [J_leN (by omega) (by omega)]; omega)]
      rw [key.2 c]
      exact lp334 hF h hp hS hv d n m (i + 1) (cn (qS K S bd) (qS K S bd i) S.length 0) (J i) (by omega) (by omega) (by omega) (by omega) (fun t ht => by
        by_cases e : t = i
        · rw [e]
          exact Nat.le_refl _
        · have := hI t (by omega)
          omega)
theorem lpieces_J (hF : 2000 ≤ F) {K M B S : List Int} {bd : Int} {vr vh vq : Nat → Int32} (h : LK K M B S bd) (hk : RN 256 zk K) (hp : PI bd K S K.length zs zr zu zt) (hK : RA 64 vr K) (hH : HD vh S K.length) (hq0 : vq 0 = J K.length) (hq2 : vq 2 = J bd) : L_pieces F vr vh vq zk zm zb zs zr zu zt zf zg zbd zro zmc zmg zsp zjn = some (1, zk, zm, zb, zs, zr, zu, zt, zf, zg, zbd, zro, zmc, zmg, zsp, zjn) := by
  have hl := hK.1
  have hS := h.2.2.2.2.2.2.2.2.1
  have hsl := SOK_len hS
  have e0 : posK S K.length 0 = 0 := by
    unfold posK
    by_cases c : 0 < S.length
    · rw [if_pos c, hS.2.2.1 c]
      rfl
    · rw [if_neg c]
      exact LK_nil h (by omega)
  obtain ⟨vx', vy', r1, r2⟩ := lp21 (zm := zm) (zb := zb) (zf := zf) (zg := zg) (zbd := zbd) (zro := zro) (zmc := zmc) (zmg := zmg) (zsp := zsp) (zjn := zjn) hF h hk hp hK hH hq0 hq2 S.length F 0 (fun _ => 0) (fun _ => 0) (by omega) (by omega) (fun j hj => absurd hj (Nat.not_lt_zero j))
  rw [e0, J_00, show wE K S bd 0 = 0 from rfl, ← L_0] at r1
  obtain ⟨v, s1, s2⟩ := lp334 (F := F) hF h hp (by omega) r2 S.length F F 0 0 (-1) (by omega) (by omega) (by omega) (by omega) (fun t ht => absurd ht (Nat.not_lt_zero t))
  rw [J_00] at s1 s2
  rw [show fc (qS K S bd) 0 = 0 from rfl, J_00] at s2
  have hw := wE_rng h K.length (Nat.le_refl _)
  have hcm : X2_commonest F zs zr zu = some v := by
    unfold X2_commonest
    rw [s1]
    rfl
  have hpc : X2_pieces F zs = some (J S.length) := by
    unfold X2_pieces
    rw [length_J hp.1]
    rfl
  unfold L_pieces
  rw [r1]
  simp only [Option.bind_some]
  rw [s2]
  simp only [Option.bind_some]
  rw [hpc]
  simp only [Option.bind_some, if_true]
  rw [cx_worst hF h hk hp]
  simp only [Option.bind_some]
  rw [J_wide (by omega), if_pos rfl, cx_slopes hF h hp]
  simp only [Option.bind_some, if_true]
  rw [hcm]
  simp only [Option.bind_some, if_true]
  rw [lref_t (cx_start_no hp.1)]
  rfl
end LPI
