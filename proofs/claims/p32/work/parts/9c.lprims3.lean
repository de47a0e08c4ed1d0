/-! the law's cuts, its sorting, finding and counting -/
section LPT
variable {F : Nat}
theorem HD_new {v : Nat → Int32} {S : List Int} {p : Nat} (h : HD v S p) (hS : SOK S p) : HD (upd v p 1) (S ++ [(p : Int)]) (p + 1) := by
  intro i hi
  unfold upd
  by_cases c : i = p
  · subst c
    rw [if_pos rfl, if_pos (by simp)]
  · rw [if_neg c, h i (by omega)]
    by_cases q : (i : Int) ∈ S
    · rw [if_pos q, if_pos (by simp [q])]
    · rw [if_neg q, if_neg (by simp only [List.mem_append, List.mem_singleton]; rintro (q2 | q2); exact q q2; omega)]
theorem HD_old {v : Nat → Int32} {S : List Int} {p : Nat} (h : HD v S p) (hS : SOK S p) : HD (upd v p 0) S (p + 1) := by
  intro i hi
  unfold upd
  by_cases c : i = p
  · subst c
    rw [if_pos rfl, if_neg (fun q => ?_)]
    obtain ⟨j, hj, e⟩ := mem_getD.mp q
    have := hS.2.1 j hj
    omega
  · rw [if_neg c, h i (by omega)]
theorem lcuts_L (hF : 2000 ≤ F) {bd : Int} {G : List Int} {v1 : Nat → Int32} {c0 b : Nat} (hG : RA 64 v1 G) (hs : Srt G) (hr : KR G) (hb : 0 ≤ bd ∧ bd ≤ 20) : ∀ (d m p : Nat) (C : List Int) (v2 : Nat → Int32) (beg : Nat), d < m → p + d = G.length → b ≤ p → SOK C p → PF bd G C p → c0 ≤ C.length → (p = b → C.length = c0) → (b < p → c0 < C.length ∧ beg = lastS C) → HD v2 C p → ∃ v2', L_cuts_L9 (J b) (J G.length) (J bd) v1 F m (J p) (J (C.length - c0 : Nat)) (J (beg : Nat)) v2 = some (J ((cutF bd G c0 C p d).length - c0 : Nat), v2') ∧ HD v2' (cutF bd G c0 C p d) G.length ∧ ∀ t, G.length ≤ t → v2' t = v2 t
  | d, 0, p, C, v2, beg, h, _, _, _, _, _, _, _, _ => absurd h (Nat.not_lt_zero d)
  | 0, m + 1, p, C, v2, beg, _, hd, hbp, hS, hP, hc, h1, h2, hH => by
    have hl := hG.1
    have e : p = G.length := by omega
    refine ⟨v2, ?_, ?_, fun t _ => rfl⟩
    · rw [L_cuts_L9, if_pos (by rw [J_leN (by omega) (by omega)]; omega)]
      rfl
    · rw [← e]
      exact hH
  | d + 1, m + 1, p, C, v2, beg, hm, hd, hbp, hS, hP, hc, h1, h2, hH => by
    have hl := hG.1
    have hcl := SOK_len hS
    have h0 : 0 < p ∨ C.length = c0 := by
      rcases Nat.eq_zero_or_pos p with q | q
      · exact Or.inr (h1 (by omega))
      · exact Or.inl q
    have hok := cutS_ok (c0 := c0) hS hP hc h0
    have e2 : cutF bd G c0 C p (d + 1) = cutF bd G c0 (cutS bd G C c0 p) (p + 1) d := rfl
    -- whether a piece begins here
    have key : ((if J (p : Int) = J (b : Int) then some 1 else Option.bind (L_fits F 64 v1 (J (beg : Nat)) (J (p : Int) + 1) (J bd)) fun r30 => if r30 = 0 then some 1 else some 0) : Option Int32) = (if C.length = c0 ∨ ¬ fitq (rng bd (gd G) (lastS C) (p - lastS C)) then some 1 else some 0) := by
      by_cases c : p = b
      · rw [if_pos (by rw [c]), if_pos (Or.inl (h1 c))]
      · obtain ⟨q1, q2⟩ := h2 (by omega)
        have hla := lastS_lt hS (by omega)
        rw [if_neg (by rw [J_eqN (by omega) (by omega)]; exact c), J_succ, q2, lfits_J hF hG hs hr hb (by omega) (by omega), show p + 1 - 1 - lastS C = p - lastS C by omega]
        simp only [Option.bind_some]
        by_cases f : fitq (rng bd (gd G) (lastS C) (p - lastS C))
        · rw [if_pos f, if_neg (by decide), if_neg (fun q => q.elim (fun q => by omega) (fun q => q f))]
        · rw [if_neg f, if_pos rfl, if_pos (Or.inr f)]
    have st : L_cuts_L9 (J b) (J G.length) (J bd) v1 F (m + 1) (J p) (J (C.length - c0 : Nat)) (J (beg : Nat)) v2 = if C.length = c0 ∨ ¬ fitq (rng bd (gd G) (lastS C) (p - lastS C)) then L_cuts_L9 (J b) (J G.length) (J bd) v1 F m (J (p + 1 : Nat)) (J (C.length + 1 - c0 : Nat)) (J (p : Nat)) (upd v2 p 1) else L_cuts_L9 (J b) (J G.length) (J bd) v1 F m (J (p + 1 : Nat)) (J (C.length - c0 : Nat)) (J (beg : Nat)) (upd v2 p 0) := by
      rw [L_cuts_L9, if_neg (by rw [J_leN (by omega) (by omega)]; omega), key]
      have u1 : upd v2 p 1 p = 1 := if_pos rfl
      have u0 : upd v2 p 0 p = 0 := if_pos rfl
      by_cases c : C.length = c0 ∨ ¬ fitq (rng bd (gd G) (lastS C) (p - lastS C))
      · rw [if_pos c, if_pos c]
        simp only [Option.bind_some, bnd, t10, if_false]
        rw [if_pos (J_inN (by omega) (by omega)), if_pos (J_inN (by omega) (by omega)), J_ix (by omega), u1, J_succ, J_succ, show C.length - c0 + 1 = C.length + 1 - c0 by omega]
      · rw [if_neg c, if_neg c]
        simp only [Option.bind_some, bnd, if_true]
        rw [if_pos (J_inN (by omega) (by omega)), if_pos (J_inN (by omega) (by omega)), J_ix (by omega), u0, J_succ, Int32.add_zero]
    rw [st, e2]
    unfold cutS at hok ⊢
    by_cases c : C.length = c0 ∨ ¬ fitq (rng bd (gd G) (lastS C) (p - lastS C))
    · rw [if_pos c] at hok
      rw [if_pos c, if_pos c]
      obtain ⟨v2', r1, r2, r3⟩ := lcuts_L (c0 := c0) (b := b) hF hG hs hr hb d m (p + 1) (C ++ [(p : Int)]) (upd v2 p 1) p (by omega) (by omega) (by omega) hok.1 hok.2.1 (by omega) (fun q => by omega) (fun _ => ⟨hok.2.2.1, (lastS_snoc C p).symm⟩) (HD_new hH hS)
      rw [List.length_append, List.length_singleton] at r1
      refine ⟨v2', r1, r2, fun t ht => ?_⟩
      rw [r3 t ht]
      unfold upd
      rw [if_neg (by omega)]
    · rw [if_neg c] at hok
      rw [if_neg c, if_neg c]
      have hbp2 : b < p := by
        rcases Nat.lt_or_ge b p with q | q
        · exact q
        · exact absurd (Or.inl (h1 (by omega))) c
      obtain ⟨v2', r1, r2, r3⟩ := lcuts_L (c0 := c0) (b := b) hF hG hs hr hb d m (p + 1) C (upd v2 p 0) beg (by omega) (by omega) (by omega) hok.1 hok.2.1 (by omega) (fun q => by omega) (fun _ => h2 hbp2) (HD_old hH hS)
      refine ⟨v2', r1, r2, fun t ht => ?_⟩
      rw [r3 t ht]
      unfold upd
      rw [if_neg (by omega)]
theorem lcuts_J (hF : 2000 ≤ F) {bd : Int} {G C : List Int} {v1 v2 : Nat → Int32} {b : Nat} (hG : RA 64 v1 G) (hs : Srt G) (hr : KR G) (hb : 0 ≤ bd ∧ bd ≤ 20) (hbG : b ≤ G.length) (hS : SOK C b) (hP : PF bd G C b) (hH : HD v2 C b) : ∃ v2', L_cuts F v1 v2 (J b) (J G.length) (J bd) = some (J ((cutF bd G C.length C b (G.length - b)).length - C.length : Nat), v2') ∧ HD v2' (cutF bd G C.length C b (G.length - b)) G.length ∧ ∀ t, G.length ≤ t → v2' t = v2 t := by
  have hl := hG.1
  obtain ⟨v2', r1, r2, r3⟩ := lcuts_L (c0 := C.length) hF hG hs hr hb (G.length - b) F b C v2 b (by omega) (by omega) (Nat.le_refl _) hS hP (Nat.le_refl _) (fun _ => rfl) (fun q => absurd q (Nat.lt_irrefl _)) hH
  refine ⟨v2', ?_, r2, r3⟩
  unfold L_cuts
  rw [show C.length - C.length = 0 by omega] at r1
  rw [J_0]
  have r1' : L_cuts_L9 (J b) (J G.length) (J bd) v1 F F (J b) (J 0) (J b) v2 = some (J ((cutF bd G C.length C b (G.length - b)).length - C.length : Nat), v2') := r1
  rw [r1']
  rfl
theorem J_dec {i : Nat} (h : 0 < i) : J (i : Int) + (-1) = J ((i - 1 : Nat) : Int) := by
  rw [J_m1, J_add, show (i : Int) + (-1) = ((i - 1 : Nat) : Int) by omega]
theorem lsorts_L {A R : List Int} {x : Int} (hr : ∀ i, i < R.length → -1000000 ≤ R.getD i 0 ∧ R.getD i 0 ≤ 1000000) (hx : -1000000 ≤ x ∧ x ≤ 1000000) (hl : A.length + R.length < 64) (hs : Srt R) (hn : ¬ x ∈ R) : ∀ (i m : Nat) (v : Nat → Int32), i < m → i ≤ R.length → (∀ j, j < A.length + i → v j = J ((A ++ R).getD j 0)) → (∀ j, A.length + i < j → j ≤ A.length + R.length → v j = J ((A ++ R).getD (j - 1) 0)) → (∀ j, i ≤ j → j < R.length → x < R.getD j 0) → ∃ v', L_sorts_L3 (J A.length) (J x) 64 m (J (A.length + i : Nat)) v = some (J (A.length + cl R x : Nat), v') ∧ (∀ j, j < A.length + cl R x → v' j = J ((A ++ R).getD j 0)) ∧ (∀ j, A.length + cl R x < j → j ≤ A.length + R.length → v' j = J ((A ++ R).getD (j - 1) 0)) ∧ ∀ j, A.length + R.length < j → v' j = v j
  | i, 0, v, h, _, _, _, _ => absurd h (Nat.not_lt_zero i)
  | 0, m + 1, v, _, _, h1, h2, h3 => by
    have e : cl R x = 0 := cl_big (fun j hj => by have := h3 j (by omega) hj; omega)
    rw [e]
    refine ⟨v, ?_, h1, h2, fun _ _ => rfl⟩
    rw [L_sorts_L3, if_pos (by rw [J_leN (by omega) (by omega)]; omega)]
  | i + 1, m + 1, v, hm, hi, h1, h2, h3 => by
    have hri := hr i (by omega)
    have hg : (A ++ R).getD (A.length + i) 0 = R.getD i 0 := by rw [getD_app_r (by omega), show A.length + i - A.length = i by omega]
    have hv := h1 (A.length + i) (by omega)
    rw [hg] at hv
    rw [L_sorts_L3, if_neg (by rw [J_leN (by omega) (by omega)]; omega), J_pred (by omega), show A.length + (i + 1) - 1 = A.length + i by omega, if_pos (J_inN (by omega) (by omega)), J_ix (by omega), hv]
    by_cases c : R.getD i 0 ≤ x
    · have hne : R.getD i 0 ≠ x := fun q => hn (by rw [← q]; exact getD_mem (by omega))
      have e : i + 1 = cl R x := cl_uniq hs hi (fun j hj => by
        rcases Nat.lt_or_ge j i with q | q
        · have := hs j i q (by omega)
          omega
        · rw [show j = i by omega]
          omega) (fun j hj hj2 => by have := h3 j (by omega) hj2; omega)
      rw [if_pos (by rw [J_le (by omega) (by omega)]; exact c), ← e]
      exact ⟨v, rfl, h1, h2, fun _ _ => rfl⟩
    · rw [if_neg (by rw [J_le (by omega) (by omega)]; exact c), if_pos (J_inM (by omega) (by omega)), if_pos (J_inN (by omega) (by omega)), J_ix (by omega)]
      simp only [bnd]
      rw [J_dec (by omega), show A.length + (i + 1) - 1 = A.length + i by omega]
      obtain ⟨v', r1, r2, r3, r4⟩ := lsorts_L hr hx hl hs hn i m (upd v (A.length + (i + 1)) (J (R.getD i 0))) (by omega) (by omega) (fun j hj => by
        unfold upd
        rw [if_neg (by omega)]
        exact h1 j (by omega)) (fun j hj hj2 => by
        unfold upd
        by_cases q : j = A.length + (i + 1)
        · rw [if_pos q, q, show A.length + (i + 1) - 1 = A.length + i by omega, hg]
        · rw [if_neg q]
          exact h2 j (by omega) hj2) (fun j hj hj2 => by
        rcases Nat.lt_or_ge i j with q | q
        · exact h3 j q hj2
        · rw [show j = i by omega]
          omega)
      refine ⟨v', r1, r2, r3, fun j hj => ?_⟩
      rw [r4 j hj]
      unfold upd
      rw [if_neg (by omega)]
theorem lsorts_J (hF : 2000 ≤ F) {A R : List Int} {x : Int} {v : Nat → Int32} (hv : RA 64 v (A ++ R)) (hr : ∀ i, i < R.length → -1000000 ≤ R.getD i 0 ∧ R.getD i 0 ≤ 1000000) (hx : -1000000 ≤ x ∧ x ≤ 1000000) (hl : A.length + R.length < 64) (hs : Srt R) (hn : ¬ x ∈ R) : ∃ v', L_sorts F 64 v (J A.length) (J (A.length + R.length : Nat)) (J x) = some v' ∧ RA 64 v' (A ++ insAt R (cl R x) x) := by
  have hcl := cl_le R x
  have hlen : (A ++ R).length = A.length + R.length := List.length_append
  obtain ⟨v', r1, r2, r3, r4⟩ := lsorts_L hr hx hl hs hn R.length F v (by omega) (Nat.le_refl _) (fun j hj => hv.2 j (by omega)) (fun j h1 h2 => by omega) (fun j h1 h2 => by omega)
  refine ⟨upd v' (A.length + cl R x) (J x), ?_, ?_⟩
  · unfold L_sorts
    rw [r1]
    simp only [Option.bind_some]
    rw [if_pos (J_inN (by omega) (by omega)), J_ix (by omega)]
  · have hi := insAt_len R hcl x
    refine ⟨by rw [List.length_append]; omega, fun i hi2 => ?_⟩
    rw [List.length_append] at hi2
    unfold upd
    by_cases c1 : i < A.length
    · rw [if_neg (by omega), r2 i (by omega), getD_app_l c1, getD_app_l c1]
    · rw [getD_app_r (l := A) (l2 := insAt R (cl R x) x) (by omega), insAt_getD R hcl]
      by_cases c2 : i < A.length + cl R x
      · rw [if_neg (by omega), r2 i c2, getD_app_r (by omega), if_pos (by omega)]
      · by_cases c3 : i = A.length + cl R x
        · rw [if_pos c3, if_neg (by omega), if_pos (by omega)]
        · rw [if_neg c3, r3 i (by omega) (by omega), getD_app_r (by omega), if_neg (by omega), if_neg (by omega), show i - 1 - A.length = i - A.length - 1 by omega]
theorem lfind_L {N : Nat} {v : Nat → Int32} {l : List Int} {x : Int} (hv : RA N v l) (hN : N ≤ 64) (hr : KR l) (hx : -2147483648 ≤ x ∧ x < 2147483648) : ∀ (d m p : Nat) (f : Int32), d < m → p + d = l.length → ((∀ j, p ≤ j → j < l.length → l.getD j 0 ≠ x) → L_find_L5 (J l.length) (J x) v N m (J p) f = some f) ∧ ((∃ j, p ≤ j ∧ j < l.length ∧ l.getD j 0 = x) → ∃ j : Nat, j < l.length ∧ l.getD j 0 = x ∧ L_find_L5 (J l.length) (J x) v N m (J p) f = some (J j))
  | d, 0, p, f, h, _ => absurd h (Nat.not_lt_zero d)
  | 0, m + 1, p, f, _, hd => by
    have hl := hv.1
    refine ⟨fun _ => ?_, fun ⟨j, h1, h2, _⟩ => by omega⟩
    rw [L_find_L5, if_pos (by rw [J_leN (by omega) (by omega)]; omega)]
  | d + 1, m + 1, p, f, hm, hd => by
    have hl := hv.1
    have hrp := hr p (by omega)
    have st : L_find_L5 (J l.length) (J x) v N (m + 1) (J p) f = if l.getD p 0 = x then L_find_L5 (J l.length) (J x) v N m (J (p + 1 : Nat)) (J p) else L_find_L5 (J l.length) (J x) v N m (J (p + 1 : Nat)) f := by
      rw [L_find_L5, if_neg (by rw [J_leN (by omega) (by omega)]; omega), if_pos (J_inN (by omega) (by omega)), J_ix (by omega), hv.2 p (by omega)]
      simp only [bnd]
      rw [J_succ]
      by_cases c : l.getD p 0 = x
      · rw [if_pos c, if_pos (by rw [c])]
      · rw [if_neg c, if_neg (by rw [J_eq (by omega) hx]; exact c)]
    rw [st]
    by_cases c : l.getD p 0 = x
    · rw [if_pos c]
      refine ⟨fun q => absurd c (q p (Nat.le_refl _) (by omega)), fun _ => ?_⟩
      obtain ⟨i1, i2⟩ := lfind_L hv hN hr hx d m (p + 1) (J p) (by omega) (by omega)
      by_cases q : ∃ j, p + 1 ≤ j ∧ j < l.length ∧ l.getD j 0 = x
      · exact i2 q
      · exact ⟨p, by omega, c, i1 (fun j h1 h2 h3 => q ⟨j, h1, h2, h3⟩)⟩
    · rw [if_neg c]
      obtain ⟨i1, i2⟩ := lfind_L hv hN hr hx d m (p + 1) f (by omega) (by omega)
      refine ⟨fun q => i1 (fun j h1 h2 => q j (by omega) h2), fun ⟨j, h1, h2, h3⟩ => i2 ⟨j, ?_, h2, h3⟩⟩
      rcases Nat.lt_or_ge p j with q | q
      · exact q
      · exact absurd (by rw [show p = j by omega]; exact h3) c
theorem lfind_J (hF : 2000 ≤ F) {N : Nat} {v : Nat → Int32} {l : List Int} {x : Int} (hv : RA N v l) (hN : N ≤ 64) (hr : KR l) (hx : -2147483648 ≤ x ∧ x < 2147483648) : (¬ x ∈ l → L_find F N v (J l.length) (J x) = some (J (-1))) ∧ (x ∈ l → ∃ j : Nat, j < l.length ∧ l.getD j 0 = x ∧ L_find F N v (J l.length) (J x) = some (J j)) := by
  have hl := hv.1
  obtain ⟨i1, i2⟩ := lfind_L hv hN hr hx l.length F 0 (-1) (by omega) (by omega)
  rw [J_00] at i1 i2
  unfold L_find
  refine ⟨fun q => ?_, fun q => ?_⟩
  · rw [i1 (fun j _ h2 h3 => q (by rw [← h3]; exact getD_mem h2))]
    simp only [Option.bind_some]
    rw [J_m1]
  · obtain ⟨j, hj, e⟩ := mem_getD.mp q
    obtain ⟨j2, q1, q2, q3⟩ := i2 ⟨j, Nat.zero_le _, hj, e⟩
    refine ⟨j2, q1, q2, ?_⟩
    rw [q3]
    rfl
/-- in a rising row the place is the number of lesser keys -/
theorem lfind_K (hF : 2000 ≤ F) {v : Nat → Int32} {K : List Int} {x : Int} (hv : RA 64 v K) (hs : Srt K) (hr : KR K) (hx : -2147483648 ≤ x ∧ x < 2147483648) : L_find F 64 v (J K.length) (J x) = some (J (ixOf K x)) := by
  obtain ⟨i1, i2⟩ := lfind_J hF hv (by omega) hr hx
  by_cases c : x ∈ K
  · obtain ⟨j, q1, q2, q3⟩ := i2 c
    rw [q3, ixOf_in hs c]
    have : j = cl K x := cl_uniq hs (by omega) (fun i hi => by have := hs i j hi q1; omega) (fun i h1 h2 => by
      rcases Nat.lt_or_ge j i with q | q
      · have := hs j i q h2
        omega
      · rw [show i = j by omega]
        omega)
    rw [this]
  · rw [i1 c, ixOf_out hs c]
theorem lbelow6_L {K M : List Int} {vr vm vq : Nat → Int32} {x : Int} (hK : RA 64 vr K) (hm : RA 64 vm M) (hq : vq 0 = J K.length) (hr : KR K) (hM : M.length = K.length) (hM2 : ∀ j, j < M.length → M.getD j 0 = 0 ∨ M.getD j 0 = 1) (hx : -3000000000 ≤ x ∧ x ≤ 3000000000) : ∀ (d n p : Nat), d < n → p + d = K.length → L_below_L6 (L x) vm vr vq n (J p) (J (cl (cU K M p) x)) = some (J (cl (cU K M K.length) x))
  | d, 0, p, h, _ => absurd h (Nat.not_lt_zero d)
  | 0, n + 1, p, _, hd => by
    have hl := hK.1
    rw [L_below_L6]
    simp only [i7_0, if_true, n7_0, hq]
    rw [if_pos (by rw [J_leN (by omega) (by omega)]; omega), show p = K.length by omega]
  | d + 1, n + 1, p, hn, hd => by
    have hl := hK.1
    have hrp := hr p (by omega)
    have hle := Nat.le_trans (cl_le (cU K M p) x) (cU_len K M p)
    have ih := lbelow6_L hK hm hq hr hM hM2 hx d n (p + 1) (by omega) (by omega)
    rw [cU_step] at ih
    rw [L_below_L6]
    simp only [i7_0, if_true, n7_0, hq]
    rw [if_neg (by rw [J_leN (by omega) (by omega)]; omega), if_pos (J_inN (by omega) (by omega)), if_pos (J_inN (by omega) (by omega)), J_ix (by omega), hm.2 p (by omega), hK.2 p (by omega)]
    simp only [bnd]
    rw [J_wide (by omega), J_succ, Int32.add_zero, J_succ]
    rcases hM2 p (by omega) with q | q
    · rw [if_pos (by rw [q]; exact J_00)]
      by_cases c : K.getD p 0 < x
      · rw [if_neg (by rw [L_le (by omega) (by omega)]; omega)]
        rw [if_pos ⟨q, c⟩] at ih
        exact ih
      · rw [if_pos (by rw [L_le (by omega) (by omega)]; omega)]
        rw [if_neg (fun h => c h.2)] at ih
        exact ih
    · rw [if_neg (by rw [q]; decide)]
      rw [if_neg (fun h => by omega)] at ih
      exact ih
theorem take_snoc {l : List Int} {p : Nat} (h : p < l.length) : l.take (p + 1) = l.take p ++ [l.getD p 0] := by
  rw [List.take_succ_eq_append_getElem h, List.getD_eq_getElem?_getD, List.getElem?_eq_getElem h]
  rfl
theorem lbelow51_L {B : List Int} {vl vq : Nat → Int32} {x : Int} (hB : RA 16 vl B) (hq : vq 1 = J B.length) (hr : KR B) (hx : -3000000000 ≤ x ∧ x ≤ 3000000000) {c : Nat} (hc : c ≤ 1000) : ∀ (d n p : Nat), d < n → p + d = B.length → L_below_L51 (L x) vl vq n (J p) (J ((c + cl (B.take p) x : Nat) : Int)) = some (J ((c + cl B x : Nat) : Int))
  | d, 0, p, h, _ => absurd h (Nat.not_lt_zero d)
  | 0, n + 1, p, _, hd => by
    have hl := hB.1
    rw [L_below_L51]
    simp only [i7_1, if_true, n7_1, hq]
    rw [if_pos (by rw [J_leN (by omega) (by omega)]; omega), List.take_of_length_le (by omega)]
  | d + 1, n + 1, p, hn, hd => by
    have hl := hB.1
    have hrp := hr p (by omega)
    have ih := lbelow51_L hB hq hr hx hc d n (p + 1) (by omega) (by omega)
    rw [take_snoc (by omega), cl_append, cl_cons, cl_nil] at ih
    rw [L_below_L51]
    simp only [i7_1, if_true, n7_1, hq]
    rw [if_neg (by rw [J_leN (by omega) (by omega)]; omega), if_pos (J_inN (by omega) (by omega)), J_ix (by omega), hB.2 p (by omega)]
    simp only [bnd]
    rw [J_wide (by omega), J_succ, Int32.add_zero, J_succ]
    by_cases q : B.getD p 0 < x
    · rw [if_neg (by rw [L_le (by omega) (by omega)]; omega)]
      rw [if_pos q] at ih
      exact ih
    · rw [if_pos (by rw [L_le (by omega) (by omega)]; omega)]
      rw [if_neg q] at ih
      exact ih
theorem lbelow_J (hF : 2000 ≤ F) {K M B B' S : List Int} {bd : Int} {vr vm vl vq : Nat → Int32} {x : Int} (h : LK K M B S bd) (hK : RA 64 vr K) (hm : RA 64 vm M) (hB : RA 16 vl B') (hp : B'.Perm B) (hq0 : vq 0 = J K.length) (hq1 : vq 1 = J B'.length) (hx : -3000000000 ≤ x ∧ x ≤ 3000000000) : L_below F vm vr vl vq (L x) = some (J (thN K M B x)) := by
  have hl := hK.1
  have hl2 := hB.1
  have hKB : KR B' := KR_mem.mpr (fun y hy => KR_mem.mp h.2.2.2.2.2.1 y (hp.mem_iff.mp hy))
  have e1 := lbelow6_L hK hm hq0 h.2.1 h.2.2.1 h.2.2.2.1 hx K.length F 0 (by omega) (by omega)
  have hle := Nat.le_trans (cl_le (cU K M K.length) x) (cU_len K M K.length)
  have e2 := lbelow51_L (c := cl (cU K M K.length) x) hB hq1 hKB hx (by omega) B'.length F 0 (by omega) (by omega)
  have e1' : L_below_L6 (L x) vm vr vq F 0 0 = some (J (cl (cU K M K.length) x)) := e1
  unfold L_below
  rw [e1']
  simp only [Option.bind_some]
  have e2' : L_below_L51 (L x) vl vq F 0 (J (cl (cU K M K.length) x)) = some (J ((cl (cU K M K.length) x + cl B' x : Nat) : Int)) := e2
  rw [e2']
  simp only [Option.bind_some]
  unfold thN
  rw [show cl B' x = cl B x from hp.countP_eq _]
theorem land_pos (y : Int32) : 0 ≤ (y &&& 2147483647).toInt ∧ (y &&& 2147483647).toInt < 2147483648 := by
  have h : (y &&& 2147483647).toBitVec.msb = false := by
    rw [Int32.toBitVec_and, BitVec.msb_and, show (2147483647 : Int32).toBitVec.msb = false by decide +kernel, Bool.and_false]
  have h2 := BitVec.toInt_nonneg_of_msb_false h
  have h3 := (int_rng (y &&& 2147483647)).2
  exact ⟨h2, h3⟩
theorem llow_J {y : Int32} {n : Int} (hn : 1 ≤ n ∧ n ≤ 1000) : ∃ r : Int, 0 ≤ r ∧ r < n ∧ L_low F y (J n) = some (J r) := by
  obtain ⟨h1, h2⟩ := land_pos y
  refine ⟨(y &&& 2147483647).toInt % n, Int.emod_nonneg _ (by omega), Int.emod_lt_of_pos _ (by omega), ?_⟩
  unfold L_low
  generalize hz : (y &&& 2147483647) = z at h1 h2
  have ez := J_of z
  generalize z.toInt = a at h1 h2 ez
  subst ez
  rw [if_pos (by rw [J_0, J_eq (by omega) (by omega)]; omega), J_div (by omega) (by omega), J_mul, J_sub, Int.emod_def, Int.mul_comm n]
end LPT
