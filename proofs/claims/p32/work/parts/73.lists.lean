section MLIST2
variable {F N : Nat} {z : zN} {l : List Int}
def insAt (l : List Int) (i : Nat) (x : Int) : List Int := l.take i ++ x :: l.drop i
theorem insAt_len (l : List Int) {i : Nat} (hi : i ≤ l.length) (x : Int) : (insAt l i x).length = l.length + 1 := by
  unfold insAt
  simp
  omega
theorem insAt_getD (l : List Int) {i : Nat} (hi : i ≤ l.length) (x : Int) (j : Nat) : (insAt l i x).getD j 0 = if j < i then l.getD j 0 else if j = i then x else l.getD (j - 1) 0 := by
  unfold insAt
  simp only [List.getD_eq_getElem?_getD]
  by_cases h1 : j < i
  · rw [if_pos h1, List.getElem?_append_left (by simp; omega), List.getElem?_take_of_lt h1]
  · rw [if_neg h1, List.getElem?_append_right (by simp; omega)]
    by_cases h2 : j = i
    · subst h2
      rw [if_pos rfl]
      simp [Nat.min_eq_left hi]
    · rw [if_neg h2]
      have h3 : j - (l.take i).length = (j - 1 - i) + 1 := by simp; omega
      rw [h3, List.getElem?_cons_succ, List.getElem?_drop]
      rw [show i + (j - 1 - i) = j - 1 by omega]
theorem J_neg (a : Int) : -J a = J (-a) := (Int32.ofInt_neg a).symm
theorem sq_L {i : Nat} : ∀ (d n : Nat) (z : zN) (l : List Int), d < n → RN N z l → i + d < l.length → ∃ z', X0_squeezeIn_L12 (J i) N F n (J (i + d : Nat)) z = some z' ∧ ∃ l', RN N z' l' ∧ l'.length = l.length ∧ ∀ j, l'.getD j 0 = if i < j ∧ j ≤ i + d then l.getD (j - 1) 0 else l.getD j 0
  | d, 0, z, l, h, _, _ => absurd h (Nat.not_lt_zero d)
  | 0, n + 1, z, l, _, hz, hd => by
    refine ⟨z, ?_, l, hz, rfl, fun j => by rw [if_neg (by omega)]⟩
    rw [X0_squeezeIn_L12]
    have := hz.len
    rw [if_pos (by rw [J_le (by omega) (by omega)]; omega)]
  | d + 1, n + 1, z, l, h, hz, hd => by
    have hl := hz.len
    have hr := hz.2.2.2.2 (i + d) (by omega)
    obtain ⟨z1, e1, hz1⟩ := put_in (F := F) hz (i := i + (d + 1)) (by omega) hr
    obtain ⟨z2, e2, l2, hz2, hl2, hg⟩ := sq_L (i := i) d n z1 _ (by omega) hz1 (by simp; omega)
    refine ⟨z2, ?_, l2, hz2, by simpa using hl2, fun j => ?_⟩
    · rw [X0_squeezeIn_L12, if_neg (by rw [J_le (by omega) (by omega)]; omega)]
      rw [J_1, J_sub, show (((i + (d + 1) : Nat) : Int) - 1) = ((i + d : Nat) : Int) by omega, at_in hz (by omega)]
      simp only [Option.bind_some, bnd]
      rw [e1]
      simp only [Option.bind_some]
      rw [J_neg, J_add, show (((i + (d + 1) : Nat) : Int) + -1) = ((i + d : Nat) : Int) by omega]
      exact e2
    · rw [hg j]
      by_cases h1 : i < j ∧ j ≤ i + d
      · rw [if_pos h1, if_pos (by omega)]
        simp [List.getD_eq_getElem?_getD, List.getElem?_set_ne (show i + (d + 1) ≠ j - 1 by omega)]
      · rw [if_neg h1]
        by_cases h2 : j = i + (d + 1)
        · subst h2
          rw [if_pos (by omega), show i + (d + 1) - 1 = i + d by omega]
          simp [List.getD_eq_getElem?_getD, hd]
        · rw [if_neg (by omega)]
          simp [List.getD_eq_getElem?_getD, List.getElem?_set_ne (Ne.symm h2)]
theorem squeeze_J (hF : 2000 ≤ F) (hz : RN N z l) (hl : l.length < N) {i : Nat} (hi : i ≤ l.length) {x : Int} (hx : -3000000 ≤ x ∧ x ≤ 3000000) : ∃ z', X0_squeezeIn F N z (J i) (J x) = some z' ∧ RN N z' (insAt l i x) := by
  have h256 := hz.2.1
  obtain ⟨z1, e1, hz1⟩ := push_J (F := F) hz hl hx
  obtain ⟨z2, e2, l2, hz2, hl2, hg⟩ := sq_L (F := F) (i := i) (l.length - i) F z1 (l ++ [x]) (by omega) hz1 (by simp; omega)
  simp at hl2
  obtain ⟨z3, e3, hz3⟩ := put_in (F := F) hz2 (i := i) (by omega) hx
  refine ⟨z3, ?_, ?_⟩
  · unfold X0_squeezeIn
    rw [e1]
    simp only [Option.bind_some, bnd]
    rw [hz1.2.2.1, J_1, J_sub]
    rw [show (((l ++ [x]).length : Int) - 1) = ((i + (l.length - i) : Nat) : Int) by simp; omega, e2]
    simp only [Option.bind_some]
    rw [e3]
    rfl
  · have : l2.set i x = insAt l i x := by
      apply getD_ext (d := 0) (by rw [insAt_len l hi]; simpa using hl2)
      intro j hj
      simp at hj
      rw [insAt_getD l hi]
      by_cases e : j = i
      · subst e
        rw [if_neg (by omega), if_pos rfl]
        simp [List.getD_eq_getElem?_getD, hj]
      · have e4 : (l2.set i x).getD j 0 = l2.getD j 0 := by simp [List.getD_eq_getElem?_getD, List.getElem?_set_ne (Ne.symm e)]
        rw [e4, hg j]
        by_cases h1 : j < i
        · rw [if_neg (by omega), if_pos h1, getD_app_l (by omega)]
        · rw [if_pos (by omega), if_neg h1, if_neg e, getD_app_l (by omega)]
    rw [← this]
    exact hz3
theorem to_L {i : Nat} : ∀ (d n : Nat) (k : Nat) (z : zN) (l : List Int), d < n → RN N z l → k + d + 1 = l.length → ∃ z', X0_takeOut_L10 N F n (J k) z = some z' ∧ ∃ l', RN N z' l' ∧ l'.length = l.length ∧ ∀ j, j + 1 < l.length → l'.getD j 0 = if k ≤ j then l.getD (j + 1) 0 else l.getD j 0
  | d, 0, k, z, l, h, _, _ => absurd h (Nat.not_lt_zero d)
  | 0, n + 1, k, z, l, _, hz, hd => by
    have := hz.len
    refine ⟨z, ?_, l, hz, rfl, fun j hj => by rw [if_neg (by omega)]⟩
    rw [X0_takeOut_L10, hz.2.2.1, J_1, J_sub, if_pos (by rw [J_le (by omega) (by omega)]; omega)]
  | d + 1, n + 1, k, z, l, h, hz, hd => by
    have hl := hz.len
    have hr := hz.2.2.2.2 (k + 1) (by omega)
    obtain ⟨z1, e1, hz1⟩ := put_in (F := F) hz (i := k) (by omega) hr
    obtain ⟨z2, e2, l2, hz2, hl2, hg⟩ := to_L (i := i) d n (k + 1) z1 _ (by omega) hz1 (by simp; omega)
    refine ⟨z2, ?_, l2, hz2, by simpa using hl2, fun j hj => ?_⟩
    · rw [X0_takeOut_L10, hz.2.2.1, J_1, J_sub, if_neg (by rw [J_le (by omega) (by omega)]; omega)]
      rw [J_add, show ((k : Int) + 1) = ((k + 1 : Nat) : Int) by omega, at_in hz (by omega)]
      simp only [Option.bind_some, bnd]
      rw [e1]
      simp only [Option.bind_some]
      exact e2
    · rw [hg j (by simpa using hj)]
      by_cases h1 : k + 1 ≤ j
      · rw [if_pos h1, if_pos (by omega)]
        simp [List.getD_eq_getElem?_getD, List.getElem?_set_ne (show k ≠ j + 1 by omega)]
      · rw [if_neg h1]
        by_cases h2 : j = k
        · subst h2
          rw [if_pos (by omega)]
          simp [List.getD_eq_getElem?_getD, show j < l.length by omega]
        · rw [if_neg (by omega)]
          simp [List.getD_eq_getElem?_getD, List.getElem?_set_ne (Ne.symm h2)]
theorem takeOut_J (hF : 2000 ≤ F) (hz : RN N z l) {i : Nat} (hi : i < l.length) : ∃ z', X0_takeOut F N z (J i) = some z' ∧ RN N z' (l.eraseIdx i) := by
  have hl := hz.len
  obtain ⟨z2, e2, l2, hz2, hl2, hg⟩ := to_L (F := F) (N := N) (i := i) (l.length - i - 1) F i z l (by omega) hz (by omega)
  refine ⟨(z2.1, z2.2 - 1), ?_, ?_⟩
  · unfold X0_takeOut
    rw [has_J hz (by omega), if_pos (by omega)]
    simp (disch := omega) only [Option.bind_some, J_0, J_eq, J_1, Int.reduceEq, if_false]
    rw [e2]
    rfl
  · obtain ⟨h1, h2, h3, h4, h5⟩ := hz2
    have hlen : (l.eraseIdx i).length = l.length - 1 := List.length_eraseIdx_of_lt hi
    have hget : ∀ j, j < l.length - 1 → (l.eraseIdx i).getD j 0 = l2.getD j 0 := by
      intro j hj
      rw [hg j (by omega)]
      simp only [List.getD_eq_getElem?_getD]
      by_cases h : i ≤ j
      · rw [if_pos h, List.getElem?_eraseIdx_of_ge h]
      · rw [if_neg h, List.getElem?_eraseIdx_of_lt (by omega)]
    refine ⟨by omega, h2, ?_, fun j hj => ?_, fun j hj => ?_⟩
    · show z2.2 - 1 = _
      rw [h3, J_1, J_sub, hlen]
      congr 1
      omega
    · rw [hget j (by omega)]
      exact h4 j (by omega)
    · rw [hget j (by omega)]
      exact h5 j (by omega)
theorem below_L {x : Int} (hx : -2147483648 ≤ x ∧ x < 2147483648) (hz : RN N z l) (hs : Srt l) : ∀ (m n h lo hi : Nat), m < n → h + m ≤ 64 → hi < lo + 2 ^ m → lo ≤ hi → hi ≤ l.length → (∀ i, i < lo → l.getD i 0 < x) → (∀ i, hi ≤ i → i < l.length → x ≤ l.getD i 0) → X0_below_L10 (J x) z N F n (J h) (J hi) (J lo) = some (J (cl l x))
  | m, 0, h, lo, hi, hn, _, _, _, _, _, _ => absurd hn (Nat.not_lt_zero m)
  | m, n + 1, h, lo, hi, hn, hm, hp, h1, h2, h3, h4 => by
    have hl := hz.len
    have hend : lo = hi → cl l x = lo := fun e => (cl_uniq hs (by omega) h3 (fun i a b => h4 i (by omega) b)).symm
    rw [X0_below_L10, J_64]
    by_cases c1 : lo = hi
    · simp (disch := omega) only [J_le]
      rw [hend c1]
      by_cases c2 : (64 : Int) ≤ h
      · rw [if_pos c2]
      · rw [if_neg c2, if_pos (by omega)]
    · have hm1 : 1 ≤ m := by
        rcases Nat.lt_or_ge m 1 with q | q
        · have : m = 0 := by omega
          subst this
          simp at hp
          omega
        · exact q
      obtain ⟨m', rfl⟩ : ∃ m', m = m' + 1 := ⟨m - 1, by omega⟩
      rw [if_neg (by rw [J_le (by omega) (by omega)]; omega), if_neg (by rw [J_le (by omega) (by omega)]; omega)]
      simp only [bnd]
      rw [J_add, J_2, J_div (by omega) (by omega)]
      obtain ⟨mid, hmid⟩ : ∃ mid : Nat, mid = (lo + hi) / 2 := ⟨_, rfl⟩
      have e1 : (((lo : Int) + hi) / 2) = (mid : Int) := by omega
      rw [e1, at_in hz (by omega)]
      simp only [Option.bind_some]
      have hr := hz.2.2.2.2 mid (by omega)
      simp (disch := omega) only [J_le]
      rw [J_1, J_add, J_add, show ((h : Int) + 1) = ((h + 1 : Nat) : Int) by omega, show ((mid : Int) + 1) = ((mid + 1 : Nat) : Int) by omega]
      by_cases c2 : x ≤ l.getD mid 0
      · rw [if_pos c2]
        exact below_L hx hz hs m' n (h + 1) lo mid (by omega) (by omega) (by rw [Nat.pow_succ] at hp; omega) (by omega) (by omega) h3 (fun i a b => by
          rcases Nat.lt_or_ge mid i with q | q
          · have := hs mid i q b
            omega
          · rw [show i = mid by omega]; exact c2)
      · rw [if_neg c2]
        exact below_L hx hz hs m' n (h + 1) (mid + 1) hi (by omega) (by omega) (by rw [Nat.pow_succ] at hp; omega) (by omega) (by omega) (fun i a => by
          rcases Nat.lt_or_ge i mid with q | q
          · have := hs i mid q (by omega)
            omega
          · rw [show i = mid by omega]; omega) h4
theorem below_J (hF : 2000 ≤ F) (hz : RN N z l) (hs : Srt l) {x : Int} (hx : -2147483648 ≤ x ∧ x < 2147483648) : X0_below F N z (J x) = some (J (cl l x)) := by
  have hl := hz.len
  unfold X0_below
  rw [hz.2.2.1, J_0]
  have := below_L (F := F) hx hz hs 9 F 0 0 l.length (by omega) (by omega) (by simp; omega) (by omega) (by omega) (fun i h => absurd h (Nat.not_lt_zero i)) (fun i a b => absurd b (by omega))
  simp only [Int.natCast_zero] at this
  rw [this]
  rfl
/-- where a rising list has a number, or -1 -/
def ixOf (l : List Int) (x : Int) : Int := if cl l x < l.length ∧ l.getD (cl l x) 0 = x then (cl l x : Int) else -1
theorem indexOf_J (hF : 2000 ≤ F) (hz : RN N z l) (hs : Srt l) {x : Int} (hx : -2147483648 ≤ x ∧ x < 2147483648) : X0_indexOf F N z (J x) = some (J (ixOf l x)) := by
  have hl := hz.len
  have hc := cl_le l x
  unfold X0_indexOf
  rw [below_J hF hz hs hx]
  simp only [Option.bind_some]
  unfold ixOf
  by_cases c1 : cl l x < l.length
  · rw [has_J hz (by omega), if_pos (by omega)]
    have h5 := hz.2.2.2.2 _ c1
    have hin := J_in (a := (cl l x : Int)) (N := N) (by omega) (by have := hz.1; omega)
    simp only [Option.bind_some]
    rw [if_neg (by rw [J_0, J_eq (by omega) (by omega)]; omega), if_pos hin, J_cl (by omega)]
    rw [show ((cl l x : Int)).toNat = cl l x by omega, hz.2.2.2.1 _ c1]
    simp (disch := omega) only [J_eq]
    by_cases c2 : l.getD (cl l x) 0 = x
    · rw [if_pos c2, if_pos ⟨c1, c2⟩]
    · rw [if_neg c2, if_neg (fun h => c2 h.2), J_m1]
  · rw [has_J hz (by omega), if_neg (by omega)]
    simp only [Option.bind_some]
    rw [if_pos J_0.symm, if_neg (fun h => c1 h.1), J_m1]
end MLIST2
