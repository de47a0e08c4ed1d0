/-! the law looks at one key -/
section LKY
variable {F : Nat}
/-- what the law does last with a key: its guess, and how it is looked up -/
def lkTail (F : Nat) (vr vh vq : Nat → Int32) (zk zm zb zs zr zu : zN) (zt : zT) (zf zg : zN) (zbd zro zmc zmg zsp zjn : Int32) (p2 p35 p11 : Int32) : Option (Int32 × zN × zN × zN × zN × zN × zN × zT × zN × zN × Int32 × Int32 × Int32 × Int32 × Int32 × Int32) :=
  bnd ((if p35 < 0 then (p11 - 1) else p11) : Int32) fun y267 =>
  Option.bind (L_keys_L269 vh F y267) fun x14_2 =>
  (if 0 ≤ x14_2 then
    (if ¬ ((0 : Int32) < 0 ∨ 7 ≤ (Int32.toNatClampNeg 0)) then
    Option.bind (L_behind F 64 vh x14_2 (vq (Int32.toNatClampNeg 0))) fun r327 =>
    (if ¬ ((2 : Int32) < 0 ∨ 7 ≤ (Int32.toNatClampNeg 2)) then
    Option.bind (L_guess F 64 vr p2 x14_2 r327 (vq (Int32.toNatClampNeg 2))) fun r342 =>
    (if ¬ ((2 : Int32) < 0 ∨ 7 ≤ (Int32.toNatClampNeg 2)) then
    Option.bind (α := Int64) (
      (if (Int32.toInt64 x14_2) ≤ (r342 - (Int32.toInt64 (vq (Int32.toNatClampNeg 2)))) then
        (if ¬ ((2 : Int32) < 0 ∨ 7 ≤ (Int32.toNatClampNeg 2)) then
        (if (r342 - (Int32.toInt64 (vq (Int32.toNatClampNeg 2)))) ≤ (Int32.toInt64 r327) then
          (if ¬ ((2 : Int32) < 0 ∨ 7 ≤ (Int32.toNatClampNeg 2)) then
          some (r342 - (Int32.toInt64 (vq (Int32.toNatClampNeg 2)))) else none)
        else
          some (Int32.toInt64 r327)) else none)
      else
        some (Int32.toInt64 x14_2))) fun y397 =>
    (if ¬ ((2 : Int32) < 0 ∨ 7 ≤ (Int32.toNatClampNeg 2)) then
    Option.bind (α := Int64) (
      (if (Int32.toInt64 r327) ≤ ((r342 + (Int32.toInt64 (vq (Int32.toNatClampNeg 2)))) + 1) then
        some (Int32.toInt64 r327)
      else
        (if ¬ ((2 : Int32) < 0 ∨ 7 ≤ (Int32.toNatClampNeg 2)) then
        some ((r342 + (Int32.toInt64 (vq (Int32.toNatClampNeg 2)))) + 1) else none))) fun y432 =>
    Option.bind (L_keys_L437 p2 vr F 0 y432 y397) fun x22_2 =>
    Option.bind (nz (X2_guess F zk zs zr zu p2)) fun r488 =>
    (if r488 = r342 then
      Option.bind (nz (X2_looks F zk zs zr zu zbd p2)) fun r499 =>
      (if r499 = x22_2 then
        some (1, zk, zm, zb, zs, zr, zu, zt, zf, zg, zbd, zro, zmc, zmg, zsp, zjn)
      else
        some (0, zk, zm, zb, zs, zr, zu, zt, zf, zg, zbd, zro, zmc, zmg, zsp, zjn))
    else
      some (0, zk, zm, zb, zs, zr, zu, zt, zf, zg, zbd, zro, zmc, zmg, zsp, zjn)) else none) else none) else none) else none)
  else
    Option.bind (nz (X2_guess F zk zs zr zu p2)) fun r295 =>
    (if r295 = (-1) then
      Option.bind (nz (X2_looks F zk zs zr zu zbd p2)) fun r307 =>
      (if r307 = 0 then
        some (1, zk, zm, zb, zs, zr, zu, zt, zf, zg, zbd, zro, zmc, zmg, zsp, zjn)
      else
        some (0, zk, zm, zb, zs, zr, zu, zt, zf, zg, zbd, zro, zmc, zmg, zsp, zjn))
    else
      some (0, zk, zm, zb, zs, zr, zu, zt, zf, zg, zbd, zro, zmc, zmg, zsp, zjn)))
theorem llookN {K : List Int} {zk : zN} {vr : Nat → Int32} {x : Int} (hk : RN 256 zk K) (hK : RA 64 vr K) (hr : KR K) (hx : -1000000 ≤ x ∧ x ≤ 1000000) : ∀ (m n n' c lo hi : Nat), m < n → m < n' → c + m ≤ 60 → hi < lo + 2 ^ m → lo ≤ hi → hi ≤ K.length → ∃ c' : Int32, X2_looksBy_L67 (J x) zk F n (J c) (J hi) (J lo) = some c' ∧ L_keys_L437 (J x) vr n' (J c) (L hi) (L lo) = some c'
  | m, 0, n', c, lo, hi, hn, _, _, _, _, _ => absurd hn (Nat.not_lt_zero m)
  | m, n, 0, c, lo, hi, _, hn, _, _, _, _ => absurd hn (Nat.not_lt_zero m)
  | m, n + 1, n' + 1, c, lo, hi, hn, hn', hc, hp, h1, h2 => by
    have hl := hK.1
    rw [X2_looksBy_L67, L_keys_L437, J_64]
    by_cases c1 : lo = hi
    · refine ⟨J c, ?_, ?_⟩
      · rw [if_neg (by rw [J_le (by omega) (by omega)]; omega), if_pos (by rw [J_leN (by omega) (by omega)]; omega)]
      · rw [if_pos (by rw [L_le (by omega) (by omega)]; omega)]
    · have hm1 : 1 ≤ m := by
        rcases Nat.lt_or_ge m 1 with q | q
        · have : m = 0 := by omega
          subst this
          simp at hp
          omega
        · exact q
      obtain ⟨m', rfl⟩ : ∃ m', m = m' + 1 := ⟨m - 1, by omega⟩
      obtain ⟨mid, hmid⟩ : ∃ mid : Nat, mid = (lo + hi) / 2 := ⟨_, rfl⟩
      have hrm := hr mid (by omega)
      rw [if_neg (by rw [J_le (by omega) (by omega)]; omega), if_neg (by rw [J_leN (by omega) (by omega)]; omega), if_neg (by rw [L_le (by omega) (by omega)]; omega)]
      simp only [bnd]
      rw [J_add, J_2, J_div (by omega) (by omega), L_add, L_2, L_div (by omega) (by omega), show (((lo : Int) + hi) / 2) = (mid : Int) by omega, at_in hk (by omega), L_nar (by omega)]
      simp only [Option.bind_some]
      rw [if_pos (J_inN (by omega) (by omega)), J_ix (by omega), hK.2 mid (by omega)]
      rw [J_succ, J_succ, J_wide (a := ((mid + 1 : Nat) : Int)) (by omega), J_wide (a := (mid : Int)) (by omega)]
      by_cases c2 : x ≤ K.getD mid 0
      · rw [if_pos (by rw [J_le (by omega) (by omega)]; exact c2), if_pos (by rw [J_le (by omega) (by omega)]; exact c2)]
        exact llookN hk hK hr hx m' n n' (c + 1) lo mid (by omega) (by omega) (by omega) (by rw [Nat.pow_succ] at hp; omega) (by omega) (by omega)
      · rw [if_neg (by rw [J_le (by omega) (by omega)]; exact c2), if_neg (by rw [J_le (by omega) (by omega)]; exact c2)]
        exact llookN hk hK hr hx m' n n' (c + 1) (mid + 1) hi (by omega) (by omega) (by omega) (by rw [Nat.pow_succ] at hp; omega) (by omega) (by omega)
theorem l43_L {K : List Int} {vr vq : Nat → Int32} {x : Int} (hK : RA 64 vr K) (hs : Srt K) (hr : KR K) (hq0 : vq 0 = J K.length) (hx : -2147483648 ≤ x ∧ x < 2147483648) : ∀ (d n p : Nat), d < n → p + d = K.length → (∀ j, j < p → K.getD j 0 < x) → L_keys_L43 (J x) vr vq n (J p) = some (J (cl K x))
  | d, 0, p, h, _, _ => absurd h (Nat.not_lt_zero d)
  | 0, n + 1, p, _, hd, hj => by
    have hl := hK.1
    have e : p = cl K x := cl_uniq hs (by omega) hj (fun i h1 h2 => by omega)
    rw [L_keys_L43]
    simp only [i7_0, if_true, n7_0, hq0]
    rw [if_pos (by rw [J_leN (by omega) (by omega)]; omega), ← e]
  | d + 1, n + 1, p, hn, hd, hj => by
    have hl := hK.1
    have hrp := hr p (by omega)
    rw [L_keys_L43]
    simp only [i7_0, if_true, n7_0, hq0]
    rw [if_neg (by rw [J_leN (by omega) (by omega)]; omega), if_pos (J_inN (by omega) (by omega)), J_ix (by omega), hK.2 p (by omega)]
    by_cases c : x ≤ K.getD p 0
    · have e : p = cl K x := cl_uniq hs (by omega) hj (fun i h1 h2 => by
        rcases Nat.lt_or_ge p i with q | q
        · have := hs p i q h2
          omega
        · rw [show i = p by omega]
          exact c)
      rw [if_pos (by rw [J_le (by omega) (by omega)]; exact c), ← e]
    · rw [if_neg (by rw [J_le (by omega) (by omega)]; exact c)]
      simp only [bnd]
      rw [J_succ]
      exact l43_L hK hs hr hq0 hx d n (p + 1) (by omega) (by omega) (fun j h1 => by
        rcases Nat.lt_or_ge j p with q | q
        · exact hj j q
        · rw [show j = p by omega]
          omega)
theorem l269_L {vh : Nat → Int32} {s : Nat} (h1 : vh s = 1) : ∀ (d n b : Nat), d < n → b = s + d → b < 64 → (∀ t, s < t → t ≤ b → vh t = 0) → L_keys_L269 vh n (J b) = some (J s)
  | d, 0, b, h, _, _, _ => absurd h (Nat.not_lt_zero d)
  | 0, n + 1, b, _, hd, hb, h => by
    have : b = s := by omega
    subst this
    rw [L_keys_L269, if_neg (by rw [J_0, J_lt (by omega) (by omega)]; omega), if_pos (J_inN (by omega) (by omega)), J_ix (by omega), h1, if_neg (by decide)]
  | d + 1, n + 1, b, hn, hd, hb, h => by
    rw [L_keys_L269, if_neg (by rw [J_0, J_lt (by omega) (by omega)]; omega), if_pos (J_inN (by omega) (by omega)), J_ix (by omega), h b (by omega) (Nat.le_refl _), if_pos rfl]
    simp only [bnd]
    rw [J_dec (by omega)]
    exact l269_L h1 d n (b - 1) (by omega) (by omega) (by omega) (fun t h2 h3 => h t h2 (by omega))
theorem lkTail_J (hF : 2000 ≤ F) {K M B S : List Int} {bd x : Int} {vr vh vq : Nat → Int32} {zk zm zb zs zr zu : zN} {zt : zT} (zf zg : zN) (zro zmc zmg zsp zjn : Int32) (h : LK K M B S bd) (hk : RN 256 zk K) (hp : PI bd K S K.length zs zr zu zt) (hK : RA 64 vr K) (hH : HD vh S K.length) (hq0 : vq 0 = J K.length) (hq2 : vq 2 = J bd) (c : -1000000 ≤ x ∧ x ≤ 1000000) : lkTail F vr vh vq zk zm zb zs zr zu zt zf zg (J bd) zro zmc zmg zsp zjn (J x) (J (ixOf K x)) (J (cl K x)) = some (1, zk, zm, zb, zs, zr, zu, zt, zf, zg, J bd, zro, zmc, zmg, zsp, zjn) := by
  have hl := hK.1
  have hS := h.2.2.2.2.2.2.2.2.1
  have hbd := h.2.2.2.2.2.2.2.2.2.2
  have hsl := SOK_len hS
  have hpl := pcN_le K S x
  have hck := cl_le K x
  have hck1 := cl_le K (x + 1)
  have hn := cl_next (x := x) h.1
  -- where the search for the head begins
  have y267 : (if J (ixOf K x) < 0 then J (cl K x : Int) - 1 else J (cl K x : Int)) = J ((cl K (x + 1) : Int) - 1) := by
    by_cases q : x ∈ K
    · rw [ixOf_in h.1 q, if_neg (by rw [J_0, J_lt (by omega) (by omega)]; omega), hn.1 q]
      congr 1
      omega
    · rw [ixOf_out h.1 q, if_pos (by decide), J_1, J_sub, hn.2 q]
  have hcg := cx_guess (F := F) hF h hk hp c
  unfold lkTail
  simp only [bnd]
  rw [y267]
  by_cases c2 : pcN K S x = 0
  · have hc0 : cl K (x + 1) = 0 := by
      rcases Nat.eq_zero_or_pos (cl K (x + 1)) with q | q
      · exact q
      · exfalso
        have h0 := hS.2.2.2 (by omega)
        have h1 := hS.2.2.1 h0
        have h2 := (cl_spec hS.1 ((cl K (x + 1) : Nat) : Int) 0 h0).mpr (by omega)
        unfold pcN at c2
        omega
    obtain ⟨n, hn2⟩ : ∃ n, F = n + 1 := ⟨F - 1, by omega⟩
    have e1 : L_keys_L269 vh F (J ((cl K (x + 1) : Int) - 1)) = some (J (-1)) := by
      rw [hc0, show L_keys_L269 vh F = L_keys_L269 vh (n + 1) by rw [← hn2], L_keys_L269, if_pos (by decide)]
      rfl
    have e2 : X2_looks F zk zs zr zu (J bd) (J x) = some (Sum.inr 0) := by
      unfold X2_looks
      rw [J_wide (by omega), (needKey_J (by omega)).1 c]
      simp only [Option.bind_some]
      rw [pieceOf_JX hF hk hp.1 h.1 hS c]
      simp only [Option.bind_some]
      rw [c2, if_pos J_0m]
    rw [c2, if_pos rfl] at hcg
    rw [e1]
    simp only [Option.bind_some]
    rw [if_neg (by decide), hcg]
    simp only [nz, Option.bind_some]
    rw [if_pos (by rw [L_m1]), e2]
    simp only [Option.bind_some, if_true]
  · obtain ⟨g1, g2⟩ := pcN_in h (x := x) (by omega)
    rw [if_neg c2] at hcg
    have e : ((pcN K S x : Int) - 1) = ((pcN K S x - 1 : Nat) : Int) := by omega
    have hpo := pieceOf_JX (F := F) (x := x) hF hk hp.1 h.1 hS c
    rw [e] at hpo
    obtain ⟨i, hi⟩ : ∃ i, i = pcN K S x - 1 := ⟨_, rfl⟩
    rw [← hi] at hcg hpo g1 g2
    obtain ⟨r1, r2, r3, r4⟩ := gK_rng h g1 c.2 g2
    have hse := SOK_lt hS g1
    have hSi := hS.2.1 i g1
    have hlg := lguess_J (F := F) hF h hK g1 c g2
    have hbh := lbehind_H (F := F) hF (by omega) hH hS g1
    have hNH := NH_of hH hS g1
    have hend : cl K (x + 1) ≤ endS S K.length i := by
      unfold endS
      by_cases q : i + 1 < S.length
      · rw [if_pos q]
        have h2 := (cl_spec hS.1 ((cl K (x + 1) : Nat) : Int) (i + 1) q)
        have h3 : ¬ i + 1 < cl S ((cl K (x + 1) : Nat) : Int) := by
          have : pcN K S x = cl S ((cl K (x + 1) : Nat) : Int) := rfl
          omega
        have h4 := fun z => h3 (h2.mpr z)
        omega
      · rw [if_neg q]
        exact hck1
    have hgt : (S.getD i 0).toNat < cl K (x + 1) := by
      have h2 := (cl_spec hS.1 ((cl K (x + 1) : Nat) : Int) i g1).mp (by
        have : pcN K S x = cl S ((cl K (x + 1) : Nat) : Int) := rfl
        omega)
      omega
    obtain ⟨g, hg⟩ : ∃ g, g = gK K S bd i x := ⟨_, rfl⟩
    obtain ⟨s, hs⟩ : ∃ s : Nat, s = (S.getD i 0).toNat := ⟨_, rfl⟩
    obtain ⟨e', he⟩ : ∃ e' : Nat, e' = endS S K.length i := ⟨_, rfl⟩
    rw [← hg] at r3 r4 hlg hcg
    rw [← hs, ← he] at hse hNH
    rw [← hs] at hgt
    rw [← he] at hend hbh hlg
    have hss : S.getD i 0 = (s : Int) := by omega
    rw [hss] at hbh hlg r3
    have h269 : L_keys_L269 vh F (J ((cl K (x + 1) : Int) - 1)) = some (J s) := by
      have := l269_L (vh := vh) (s := s) (HD_in hH (by omega) (by rw [← hss]; exact getD_mem g1)) (cl K (x + 1) - 1 - s) F (cl K (x + 1) - 1) (by omega) (by omega) (by omega) (fun t h1 h2 => hNH.1 t h1 (by omega))
      rw [show (((cl K (x + 1) - 1 : Nat) : Int)) = (cl K (x + 1) : Int) - 1 by omega] at this
      exact this
    -- where the search begins and ends
    obtain ⟨lo, hlo⟩ : ∃ lo : Nat, (lo : Int) = (if (e' : Int) ≤ (if g - bd ≤ s then (s : Int) else g - bd) then (e' : Int) else (if g - bd ≤ s then (s : Int) else g - bd)) := by
      refine ⟨(if (e' : Int) ≤ (if g - bd ≤ s then (s : Int) else g - bd) then (e' : Int) else (if g - bd ≤ s then (s : Int) else g - bd)).toNat, ?_⟩
      split <;> split <;> omega
    obtain ⟨hi2, hhi⟩ : ∃ hi2 : Nat, (hi2 : Int) = (if (e' : Int) ≤ g + bd + 1 then (e' : Int) else g + bd + 1) := by
      refine ⟨(if (e' : Int) ≤ g + bd + 1 then (e' : Int) else g + bd + 1).toNat, ?_⟩
      split <;> omega
    have hlohi : lo ≤ hi2 ∧ hi2 ≤ e' := by
      constructor
      · have : (lo : Int) ≤ hi2 := by
          rw [hlo, hhi]
          split <;> split <;> (try split) <;> omega
        omega
      · have : (hi2 : Int) ≤ e' := by
          rw [hhi]
          split <;> omega
        omega
    obtain ⟨c', d1, d2⟩ := llookN (F := F) hk hK h.2.1 c 10 F F 0 lo hi2 (by omega) (by omega) (by omega) (by simp; omega) hlohi.1 (by omega)
    rw [J_00] at d1 d2
    have hlk : X2_looks F zk zs zr zu (J bd) (J x) = some (Sum.inr c') := by
      unfold X2_looks
      rw [J_wide (by omega), (needKey_J (by omega)).1 c]
      simp only [Option.bind_some]
      rw [hpo]
      simp only [Option.bind_some]
      rw [if_neg (by rw [J_m1, J_eq (by omega) (by omega)]; omega)]
      unfold X2_looksBy
      rw [guessBy_J hF h hk hp g1 c g2, ← hg]
      simp only [Option.bind_some]
      rw [at_in hp.1 g1, hss]
      simp only [Option.bind_some]
      rw [endOf_J hk hp.1 hS g1, ← he]
      simp only [Option.bind_some, bnd]
      rw [J_wide (by omega), J_wide (by omega), J_wide (by omega), L_sub, L_add, L_1, L_add]
      have e3 : (if L (g - bd) < L s then L s else L (g - bd)) = L (if g - bd ≤ s then (s : Int) else g - bd) := by
        simp (disch := omega) only [L_lt]
        by_cases q : g - bd < s
        · rw [if_pos q, if_pos (by omega)]
        · rw [if_neg q]
          by_cases q2 : g - bd ≤ s
          · rw [if_pos q2]
            congr 1
            omega
          · rw [if_neg q2]
      rw [e3]
      have hr3 : -100 ≤ (if g - bd ≤ s then (s : Int) else g - bd) ∧ (if g - bd ≤ s then (s : Int) else g - bd) ≤ 3000000000 := by split <;> omega
      have e4 : (if L (if g - bd ≤ s then (s : Int) else g - bd) < L e' then L (if g - bd ≤ s then (s : Int) else g - bd) else L e') = L lo := by
        rw [hlo]
        generalize (if g - bd ≤ s then (s : Int) else g - bd) = w at hr3
        simp (disch := omega) only [L_lt]
        by_cases q : w < e'
        · rw [if_pos q, if_neg (by omega)]
        · rw [if_neg q, if_pos (by omega)]
      have e5 : (if L (g + bd + 1) < L e' then L (g + bd + 1) else L e') = L hi2 := by
        rw [hhi]
        simp (disch := omega) only [L_lt]
        by_cases q : g + bd + 1 < e'
        · rw [if_pos q, if_neg (by omega)]
        · rw [if_neg q, if_pos (by omega)]
      rw [e4, e5, L_nar (by omega), L_nar (by omega), d1]
      rfl
    rw [h269]
    simp only [Option.bind_some]
    rw [if_pos (by rw [J_0, J_le (by omega) (by omega)]; omega)]
    simp only [i7_0, i7_2, if_true, n7_0, n7_2, hq0, hq2]
    rw [hbh]
    simp only [Option.bind_some]
    rw [hlg]
    simp only [Option.bind_some]
    rw [J_wide (by omega), J_wide (by omega), J_wide (by omega), L_sub, L_add, L_1, L_add]
    have f4 : (if L (s : Int) ≤ L (g - bd) then (if L (g - bd) ≤ L (e' : Int) then some (L (g - bd)) else some (L (e' : Int))) else some (L (s : Int))) = some (L lo) := by
      rw [hlo]
      simp (disch := omega) only [L_le]
      by_cases q : (s : Int) ≤ g - bd
      · rw [if_pos q]
        by_cases q2 : g - bd ≤ e'
        · rw [if_pos q2]
          by_cases q3 : g - bd ≤ s
          · rw [if_pos q3]
            rw [if_neg (by omega), show g - bd = (s : Int) by omega]
          · rw [if_neg q3]
            by_cases q4 : (e' : Int) ≤ g - bd
            · rw [if_pos q4, show g - bd = (e' : Int) by omega]
            · rw [if_neg q4]
        · rw [if_neg q2, if_neg (show ¬ g - bd ≤ (s : Int) by omega), if_pos (by omega)]
      · rw [if_neg q, if_pos (show g - bd ≤ (s : Int) by omega), if_neg (show ¬ (e' : Int) ≤ (s : Int) by omega)]
    have f5 : (if L (e' : Int) ≤ L (g + bd + 1) then some (L (e' : Int)) else some (L (g + bd + 1))) = some (L hi2) := by
      rw [hhi]
      simp (disch := omega) only [L_le]
      by_cases q : (e' : Int) ≤ g + bd + 1
      · rw [if_pos q, if_pos q]
      · rw [if_neg q, if_neg q]
    rw [f4]
    simp only [Option.bind_some]
    rw [f5]
    simp only [Option.bind_some]
    rw [d2]
    simp only [Option.bind_some]
    rw [hcg]
    simp only [nz, Option.bind_some, if_true]
    rw [hlk]
    simp only [Option.bind_some, if_true]
theorem cl_at {T : List Int} (hT : Srt T) {j : Nat} (hj : j < T.length) : cl T (T.getD j 0) = j :=
  (cl_uniq hT (by omega) (fun i hi => hT i j hi hj) (fun i h1 h2 => by
    rcases Nat.lt_or_ge j i with q | q
    · have := hT j i q h2
      omega
    · rw [show i = j by omega]
      omega)).symm
theorem thN_top {K M B S : List Int} {bd : Int} (h : LK K M B S bd) : thN K M B 1000001 = allN K M B := by
  unfold thN allN
  rw [cl_all (fun y hy => by
    have := KR_mem.mp h.2.1 y (GM_in ((cU_mem K M y K.length).mp hy) (Nat.le_refl _))
    omega), cl_all (fun y hy => by
    have := KR_mem.mp h.2.2.2.2.2.1 y hy
    omega)]
theorem lkeys_J (hF : 2000 ≤ F) {K M B B' S : List Int} {bd x y : Int} {vm vr vh vl vq : Nat → Int32} {zk zm zb zs zr zu : zN} {zt : zT} {zmc : Int32} (zf zg : zN) (zro zmg zsp zjn : Int32) (h : LK K M B S bd) (hX : XS K M B S bd zk zm zb zs zr zu zt zmc) (hK : RA 64 vr K) (hm : RA 64 vm M) (hH : HD vh S K.length) (hB : RA 16 vl B') (hp : B'.Perm B) (hq0 : vq 0 = J K.length) (hq1 : vq 1 = J B'.length) (hq2 : vq 2 = J bd) (c : -1000000 ≤ x ∧ x ≤ 1000000) (cy : -1000000 ≤ y ∧ y ≤ 1000000) : ∃ zf', L_keys F vm vr vh vl vq zk zm zb zs zr zu zt zf zg (J bd) zro zmc zmg zsp zjn (J x) (J y) = some (1, zk, zm, zb, zs, zr, zu, zt, zf', zg, J bd, zro, zmc, zmg, zsp, zjn) := by
  have hl := hK.1
  have hlB := hB.1
  have hck := cl_le K x
  have ha := allN_le h
  have hrB : KR B' := KR_mem.mpr (fun y hy => KR_mem.mp h.2.2.2.2.2.1 y (hp.mem_iff.mp hy))
  obtain ⟨T, t1, t2, t3, t4, t5⟩ := th_list hF h hX
  have hbl : ∀ z : Int, -3000000000 ≤ z ∧ z ≤ 3000000000 → L_below F vm vr vl vq (L z) = some (J (thN K M B z)) := fun z hz => lbelow_J hF h hK hm hB hp hq0 hq1 hz
  have hfd := lfind_K (F := F) (x := x) hF hK h.1 h.2.1 (by omega)
  obtain ⟨hf1, hf2⟩ := lfind_J (F := F) (x := x) hF hB (by omega) hrB (by omega)
  have h43 := l43_L (x := x) hK h.1 h.2.1 hq0 (by omega) K.length F 0 (by omega) (by omega) (fun j hj => absurd hj (Nat.not_lt_zero j))
  rw [J_00] at h43
  have hct := cx_contains (F := F) (x := x) hF h hX (by omega)
  -- whether the key is there
  have y97 : ∃ w : Int32, X2_contains F zk zm zb (J x) = some w ∧ (if J (ixOf K x) < 0 then Option.bind (L_find F 16 vl (J B'.length) (J x)) fun r86 => (if r86 < 0 then some (0 : Int32) else some 1) else (if ¬ (J (ixOf K x) < 0 ∨ 64 ≤ (Int32.toNatClampNeg (J (ixOf K x)))) then (if vm (Int32.toNatClampNeg (J (ixOf K x))) = 0 then some 1 else Option.bind (L_find F 16 vl (J B'.length) (J x)) fun r86 => (if r86 < 0 then some 0 else some 1)) else none)) = some w := by
    by_cases k : x ∈ K
    · have hk := (mem_cl h.1).mp k
      have hml := h.2.2.1
      have hB0 : ¬ x ∈ B := fun q => LK_disj h k q
      rw [ixOf_in h.1 k, if_neg (by rw [J_0, J_lt (by omega) (by omega)]; omega), if_pos (J_inN (by omega) (by omega)), J_ix (by omega), hm.2 _ (by omega)]
      rcases h.2.2.2.1 (cl K x) (by omega) with q | q
      · refine ⟨1, hct.1 (Or.inr ((GM_cl h.1 k).mpr q)), ?_⟩
        rw [if_pos (by rw [q]; decide)]
      · refine ⟨0, hct.2 (fun z => z.elim hB0 (fun z => by have := (GM_cl h.1 k).mp z; omega)), ?_⟩
        rw [if_neg (by rw [q]; decide), hf1 (fun z => hB0 (hp.mem_iff.mp z))]
        simp only [Option.bind_some]
        rw [if_pos (by decide)]
    · rw [ixOf_out h.1 k, if_pos (by decide)]
      by_cases b : x ∈ B'
      · obtain ⟨j, q1, q2, q3⟩ := hf2 b
        refine ⟨1, hct.1 (Or.inl (hp.mem_iff.mp b)), ?_⟩
        rw [q3]
        simp only [Option.bind_some]
        rw [if_neg (by rw [J_0, J_lt (by omega) (by omega)]; omega)]
      · refine ⟨0, hct.2 (fun z => z.elim (fun z => b (hp.mem_iff.mpr z)) (fun z => k (GM_in z (Nat.le_refl _)))), ?_⟩
        rw [hf1 b]
        simp only [Option.bind_some]
        rw [if_pos (by decide)]
  obtain ⟨w, w1, w2⟩ := y97
  have y125 : (if J x ≤ J y then Option.bind (L_below F vm vr vl vq (Int32.toInt64 (J y) + 1)) fun r119 => some (r119 - J (thN K M B x)) else some 0) = some (if x ≤ y then J ((thN K M B (y + 1) : Int) - thN K M B x) else 0) := by
    by_cases q : x ≤ y
    · rw [if_pos (by rw [J_le (by omega) (by omega)]; exact q), if_pos q, J_wide (by omega), L_1, L_add, hbl _ (by omega)]
      simp only [Option.bind_some]
      rw [J_sub]
    · rw [if_neg (by rw [J_le (by omega) (by omega)]; exact q), if_neg q]
  have hcl := cl_le T x
  unfold L_keys
  rw [L_1000001, hbl _ (by omega), thN_top h, J_wide (by omega), hbl _ (by omega)]
  simp only [Option.bind_some, i7_0, i7_1, if_true, n7_0, n7_1, hq0, hq1, bnd]
  rw [hfd, h43]
  simp only [Option.bind_some]
  rw [w2, y125]
  simp only [Option.bind_some]
  rw [cx_size h hX]
  simp only [Option.bind_some, if_true]
  rw [w1]
  simp only [Option.bind_some, if_true]
  rw [cx_rank hF h hX (by omega)]
  simp only [Option.bind_some, if_true]
  rw [cx_place hF hX.1 h.1 (by omega)]
  simp only [Option.bind_some, if_true]
  rw [cx_count hF h hX (by omega) (by omega)]
  simp only [Option.bind_some, if_true]
  rw [lref_s (cx_select_no zf h hX)]
  simp only [Option.bind_some, if_true]
  by_cases q : cl T x = T.length
  · have e1 := (cx_ceiling hF zf h hX t1 t2 (x := x) (by omega)).2 q
    rw [if_pos (by rw [← t4, ← t3, q]), lref_c e1]
    simp only [Option.bind_some, if_true]
    refine ⟨zf, ?_⟩
    have tl := lkTail_J (zm := zm) (zb := zb) hF zf zg zro zmc zmg zsp zjn h hX.1 hX.2.2.2.1 hK hH hq0 hq2 c
    unfold lkTail at tl
    simp only [i7_0, i7_1, if_true, n7_0, n7_1, hq0, hq1, bnd] at tl
    exact tl
  · have hlt : cl T x < T.length := by omega
    obtain ⟨zf1, e1⟩ := (cx_ceiling hF zf h hX t1 t2 (x := x) (by omega)).1 hlt
    obtain ⟨zf2, e2⟩ := cx_select hF zf1 h hX t1 t2 hlt
    obtain ⟨zf3, e3⟩ := cx_select hF zf2 h hX t1 t2 hlt
    obtain ⟨zf4, e4⟩ := cx_select hF zf3 h hX t1 t2 hlt
    have hTr : -1000000 ≤ T.getD (cl T x) 0 ∧ T.getD (cl T x) 0 ≤ 1000000 := by
      rcases (t2 _).mp (getD_mem hlt (d := 0)) with ⟨j, q1, q2, q3, q4⟩ | ⟨j, q1, q2, q3⟩
      · rw [← q3]
        exact h.2.1 j q2
      · rw [← q3]
        exact h.2.2.2.2.2.1 j q2
    have hge : x ≤ T.getD (cl T x) 0 := by
      have h2 := cl_spec t1 x (cl T x) hlt
      have h3 := fun z => Nat.lt_irrefl _ (h2.mpr z)
      omega
    rw [t4] at e2 e3 e4
    rw [if_neg (by rw [← t4, J_eqN (by omega) (by omega)]; omega), nz_i e1]
    simp only [Option.bind_some]
    rw [t4, nz_i e2]
    simp only [Option.bind_some, if_true]
    rw [nz_i e3]
    simp only [Option.bind_some]
    rw [t4] at hge hTr
    rw [if_neg (by rw [J_lt (by omega) (by omega)]; omega), nz_i e4]
    simp only [Option.bind_some]
    rw [cx_rank hF h hX (by omega)]
    simp only [Option.bind_some]
    have hrk : thN K M B (T.getD (thN K M B x) 0) = thN K M B x := by
      rw [← t4 x, ← t4, cl_at t1 hlt]
    rw [hrk, if_pos rfl]
    refine ⟨zf4, ?_⟩
    have tl := lkTail_J (zm := zm) (zb := zb) hF zf4 zg zro zmc zmg zsp zjn h hX.1 hX.2.2.2.1 hK hH hq0 hq2 c
    unfold lkTail at tl
    simp only [i7_0, i7_1, if_true, n7_0, n7_1, hq0, hq1, bnd] at tl
    exact tl
end LKY
