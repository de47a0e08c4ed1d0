/-! rising lists as sets; keys that are put in order -/
section MSET
variable {F : Nat}
theorem J_inM {i N : Nat} (h : i < N) (hN : N ≤ 1000) : ¬ (J (i : Int) < 0 ∨ N ≤ i) := by
  rw [J_0, J_lt (by omega) (by omega)]
  omega
theorem mem_getD {l : List Int} {x : Int} : x ∈ l ↔ ∃ i, i < l.length ∧ l.getD i 0 = x := by
  constructor
  · intro h
    obtain ⟨i, hi, e⟩ := List.getElem_of_mem h
    exact ⟨i, hi, by rw [List.getD_eq_getElem?_getD, List.getElem?_eq_getElem hi]; exact e⟩
  · rintro ⟨i, hi, e⟩
    rw [← e]
    exact getD_mem hi
theorem Srt_nil : Srt [] := fun i j _ h => by simp at h
theorem Srt_cons {a : Int} {l : List Int} : Srt (a :: l) ↔ (∀ x, x ∈ l → a < x) ∧ Srt l := by
  constructor
  · intro h
    refine ⟨fun x hx => ?_, Srt_tail h⟩
    obtain ⟨i, hi, e⟩ := mem_getD.mp hx
    rw [← e]
    exact Srt_head h hi
  · rintro ⟨h1, h2⟩ i j hij hj
    cases j with
    | zero => omega
    | succ j =>
      have hj' : j < l.length := by simpa using hj
      cases i with
      | zero => exact h1 _ (getD_mem hj')
      | succ i => exact h2 i j (by omega) hj'
theorem Srt_ext {a b : List Int} (ha : Srt a) (hb : Srt b) (h : ∀ x, x ∈ a ↔ x ∈ b) : a = b := by
  induction a generalizing b with
  | nil =>
    cases b with
    | nil => rfl
    | cons y b => exact absurd ((h y).mpr (by simp)) (by simp)
  | cons x a ih =>
    cases b with
    | nil => exact absurd ((h x).mp (by simp)) (by simp)
    | cons y b =>
      have h1 := Srt_cons.mp ha
      have h2 := Srt_cons.mp hb
      have e : x = y := by
        have a1 := (h x).mp (by simp)
        have a2 := (h y).mpr (by simp)
        simp only [List.mem_cons] at a1 a2
        rcases a1 with a1 | a1
        · exact a1
        · rcases a2 with a2 | a2
          · exact a2.symm
          · have := h1.1 y a2
            have := h2.1 x a1
            omega
      subst e
      rw [ih h1.2 h2.2 (fun z => ?_)]
      have hz := h z
      simp only [List.mem_cons] at hz
      constructor
      · intro q
        have := h1.1 z q
        rcases hz.mp (Or.inr q) with r | r
        · omega
        · exact r
      · intro q
        have := h2.1 z q
        rcases hz.mpr (Or.inr q) with r | r
        · omega
        · exact r
theorem Srt_sub_len {G L : List Int} (hG : Srt G) (h : ∀ x, x ∈ G → x ∈ L) : G.length ≤ L.length := by
  induction G generalizing L with
  | nil => simp
  | cons a G ih =>
    have h1 := Srt_cons.mp hG
    have ha := h a (by simp)
    have := ih (L := L.erase a) h1.2 (fun x hx => by
      have h2 := h1.1 x hx
      have h3 := h x (by simp [hx])
      exact (List.mem_erase_of_ne (by omega)).mpr h3)
    rw [List.length_erase_of_mem ha] at this
    have h4 := List.length_pos_of_mem ha
    simp only [List.length_cons]
    omega
theorem Srt_snoc {l : List Int} {x : Int} (h : Srt l) (hx : ∀ i, i < l.length → l.getD i 0 < x) : Srt (l ++ [x]) := by
  intro i j hij hj
  simp at hj
  rw [getD_snoc, getD_snoc, if_pos (by omega)]
  by_cases e : j < l.length
  · rw [if_pos e]
    exact h i j hij e
  · rw [if_neg e, if_pos (by omega)]
    exact hx i (by omega)
theorem insAt_mem {l : List Int} {i : Nat} {x y : Int} (hi : i ≤ l.length) : y ∈ insAt l i x ↔ y = x ∨ y ∈ l := by
  unfold insAt
  rw [List.mem_append, List.mem_cons]
  conv => rhs; rw [← List.take_append_drop i l, List.mem_append]
  constructor
  · rintro (h | h | h)
    · exact Or.inr (Or.inl h)
    · exact Or.inl h
    · exact Or.inr (Or.inr h)
  · rintro (h | h | h)
    · exact Or.inr (Or.inl h)
    · exact Or.inl h
    · exact Or.inr (Or.inr h)
theorem insAt_Srt {l : List Int} {x : Int} (h : Srt l) (hx : ¬ x ∈ l) : Srt (insAt l (cl l x) x) := by
  have hc := cl_le l x
  have hlow : ∀ i, i < cl l x → l.getD i 0 < x := fun i hi => (cl_spec h x i (by omega)).mp hi
  have hhigh : ∀ i, cl l x ≤ i → i < l.length → x < l.getD i 0 := fun i h1 h2 => by
    have h3 : ¬ l.getD i 0 < x := fun q => by have := (cl_spec h x i h2).mpr q; omega
    have h4 : l.getD i 0 ≠ x := fun q => hx (by rw [← q]; exact getD_mem h2)
    omega
  intro i j hij hj
  rw [insAt_len l hc] at hj
  rw [insAt_getD l hc, insAt_getD l hc]
  by_cases c1 : j < cl l x
  · rw [if_pos c1, if_pos (by omega)]
    exact h i j hij (by omega)
  · rw [if_neg c1]
    by_cases c2 : j = cl l x
    · rw [if_pos c2, if_pos (by omega)]
      exact hlow i (by omega)
    · rw [if_neg c2]
      by_cases c3 : i < cl l x
      · rw [if_pos c3]
        exact h i (j - 1) (by omega) (by omega)
      · rw [if_neg c3]
        by_cases c4 : i = cl l x
        · rw [if_pos c4]
          exact hhigh (j - 1) (by omega) (by omega)
        · rw [if_neg c4]
          exact h (i - 1) (j - 1) (by omega) (by omega)
end MSET
