/-! the class's lists: a list of integers behind one -/
section MLIST
def RN (N : Nat) (z : zN) (l : List Int) : Prop := l.length ≤ N ∧ N ≤ 256 ∧ z.2 = J l.length ∧ (∀ i, i < l.length → z.1 i = J (l.getD i 0)) ∧ ∀ i, i < l.length → -3000000 ≤ l.getD i 0 ∧ l.getD i 0 ≤ 3000000
def Srt (l : List Int) : Prop := ∀ i j, i < j → j < l.length → l.getD i 0 < l.getD j 0
/-- how many of a list are less than x -/
def cl (l : List Int) (x : Int) : Nat := l.countP (fun y => decide (y < x))
theorem cl_nil (x : Int) : cl [] x = 0 := rfl
theorem cl_cons (a : Int) (l : List Int) (x : Int) : cl (a :: l) x = (if a < x then 1 else 0) + cl l x := by
  unfold cl
  rw [List.countP_cons]
  by_cases h : a < x
  · simp [h]; omega
  · simp [h]
theorem cl_append (a b : List Int) (x : Int) : cl (a ++ b) x = cl a x + cl b x := by unfold cl; exact List.countP_append
theorem cl_le (l : List Int) (x : Int) : cl l x ≤ l.length := List.countP_le_length
theorem Srt_tail {a : Int} {l : List Int} (h : Srt (a :: l)) : Srt l := fun i j hij hj => by
  have := h (i + 1) (j + 1) (by omega) (by simp; omega)
  simpa using this
theorem Srt_head {a : Int} {l : List Int} (h : Srt (a :: l)) {i : Nat} (hi : i < l.length) : a < l.getD i 0 := by
  have := h 0 (i + 1) (by omega) (by simp; omega)
  simpa using this
theorem cl_big {l : List Int} {x : Int} (h : ∀ i, i < l.length → x ≤ l.getD i 0) : cl l x = 0 := by
  induction l with
  | nil => rfl
  | cons a l ih =>
    rw [cl_cons]
    have h0 := h 0 (by simp)
    simp at h0
    rw [if_neg (by omega), ih (fun i hi => by have := h (i + 1) (by simp; omega); simpa using this)]
theorem cl_spec {l : List Int} (h : Srt l) (x : Int) : ∀ i, i < l.length → (i < cl l x ↔ l.getD i 0 < x) := by
  induction l with
  | nil => intro i hi; simp at hi
  | cons a l ih =>
    intro i hi
    have hs := Srt_tail h
    rw [cl_cons]
    by_cases ha : a < x
    · rw [if_pos ha]
      cases i with
      | zero => simp [ha]; omega
      | succ i =>
        have := ih hs i (by simp at hi; omega)
        show i + 1 < 1 + cl l x ↔ l.getD i 0 < x
        rw [← this]
        omega
    · rw [if_neg ha, cl_big (fun i hi => by have := Srt_head h hi; omega)]
      cases i with
      | zero => simp; omega
      | succ i =>
        have := Srt_head h (i := i) (by simp at hi; omega)
        show i + 1 < 0 + 0 ↔ l.getD i 0 < x
        omega
theorem cl_uniq {l : List Int} (h : Srt l) {x : Int} {r : Nat} (hr : r ≤ l.length) (h1 : ∀ i, i < r → l.getD i 0 < x) (h2 : ∀ i, r ≤ i → i < l.length → x ≤ l.getD i 0) : r = cl l x := by
  have hle := cl_le l x
  rcases Nat.lt_trichotomy r (cl l x) with q | q | q
  · have := (cl_spec h x r (by omega)).mp q
    have := h2 r (Nat.le_refl _) (by omega)
    omega
  · exact q
  · have := h1 (cl l x) q
    have := (cl_spec h x (cl l x) (by omega)).mpr this
    omega
variable {F N : Nat} {z : zN} {l : List Int}
theorem RN.len (h : RN N z l) : l.length ≤ 256 := Nat.le_trans h.1 h.2.1
theorem length_J (h : RN N z l) : X0_length F z = some (J l.length) := by
  unfold X0_length
  rw [h.2.2.1]
theorem has_J (h : RN N z l) {i : Int} (hi : -2147483648 ≤ i ∧ i < 2147483648) : X0_has F N z (J i) = some (if 0 ≤ i ∧ i < l.length then J 1 else J 0) := by
  obtain ⟨h1, h2, h3, -⟩ := h
  unfold X0_has
  rw [h3, J_nI]
  simp (disch := omega) only [J_0, J_1, J_lt, J_le]
  by_cases c1 : i < 0
  · rw [if_pos c1, if_neg (by omega)]
  · rw [if_neg c1]
    by_cases c2 : (l.length : Int) ≤ i
    · rw [if_pos c2, if_neg (by omega)]
    · rw [if_neg c2, if_neg (by omega), if_pos (by omega)]
theorem at_in (h : RN N z l) {i : Nat} (hi : i < l.length) : X0_at F N z (J i) = some (J (l.getD i 0)) := by
  have hl := h.len
  unfold X0_at
  rw [has_J h (by omega), if_pos (by omega)]
  simp (disch := omega) only [Option.bind_some, J_0, J_eq, J_1, Int.reduceEq, if_false]
  rw [if_pos (by rw [← J_0]; exact J_in (by omega) (by have := h.1; omega)), J_cl (by omega)]
  rw [show ((i : Int)).toNat = i by omega, h.2.2.2.1 i hi]
theorem at_out (h : RN N z l) {i : Int} (hi : -2147483648 ≤ i ∧ i < 2147483648) (ho : i < 0 ∨ (l.length : Int) ≤ i) : X0_at F N z (J i) = some (J 0) := by
  unfold X0_at
  rw [has_J h hi, if_neg (by omega)]
  simp only [Option.bind_some, J_0, if_true]
theorem put_in (h : RN N z l) {i : Nat} (hi : i < l.length) {x : Int} (hx : -3000000 ≤ x ∧ x ≤ 3000000) : ∃ z', X0_put F N z (J i) (J x) = some z' ∧ RN N z' (l.set i x) := by
  have hl := h.len
  refine ⟨(upd z.1 i (J x), z.2), ?_, ?_⟩
  · unfold X0_put
    rw [has_J h (by omega), if_pos (by omega)]
    simp (disch := omega) only [Option.bind_some, J_0, J_eq, J_1, Int.reduceEq, if_false]
    rw [if_pos (by rw [← J_0]; exact J_in (by omega) (by have := h.1; omega)), J_cl (by omega)]
    rw [show ((i : Int)).toNat = i by omega]
  · obtain ⟨h1, h2, h3, h4, h5⟩ := h
    refine ⟨by simpa using h1, h2, by simpa using h3, fun k hk => ?_, fun k hk => ?_⟩
    · simp at hk
      show upd z.1 i (J x) k = _
      unfold upd
      by_cases e : k = i
      · subst e
        rw [if_pos rfl]
        simp [List.getD_eq_getElem?_getD, hk]
      · rw [if_neg e, h4 k hk]
        simp [List.getD_eq_getElem?_getD, List.getElem?_set_ne (Ne.symm e)]
    · simp at hk
      by_cases e : k = i
      · subst e
        simpa [List.getD_eq_getElem?_getD, hk] using hx
      · have := h5 k hk
        simpa [List.getD_eq_getElem?_getD, List.getElem?_set_ne (Ne.symm e)] using this
theorem put_out (h : RN N z l) {i : Int} (hi : -2147483648 ≤ i ∧ i < 2147483648) (ho : i < 0 ∨ (l.length : Int) ≤ i) {x : Int32} : X0_put F N z (J i) x = some z := by
  unfold X0_put
  rw [has_J h hi, if_neg (by omega)]
  simp only [Option.bind_some, J_0, if_true]
theorem RN_push (h : RN N z l) (hl : l.length < N) {x : Int} (hx : -3000000 ≤ x ∧ x ≤ 3000000) : RN N (upd z.1 l.length (J x), J (l.length + 1)) (l ++ [x]) := by
  obtain ⟨h1, h2, h3, h4, h5⟩ := h
  refine ⟨by simp; omega, h2, by simp, fun k hk => ?_, fun k hk => ?_⟩
  · simp at hk
    show upd z.1 l.length (J x) k = _
    unfold upd
    by_cases e : k = l.length
    · subst e
      rw [if_pos rfl, getD_app_r (Nat.le_refl _)]
      simp
    · rw [if_neg e, h4 k (by omega), getD_app_l (by omega)]
  · simp at hk
    by_cases e : k = l.length
    · subst e
      rw [getD_app_r (Nat.le_refl _)]
      simpa using hx
    · rw [getD_app_l (by omega)]
      exact h5 k (by omega)
theorem push_J (h : RN N z l) (hl : l.length < N) {x : Int} (hx : -3000000 ≤ x ∧ x ≤ 3000000) : ∃ z', X0_push F N z (J x) = some z' ∧ RN N z' (l ++ [x]) := by
  refine ⟨_, ?_, RN_push h hl hx⟩
  obtain ⟨h1, h2, h3, h4, h5⟩ := h
  unfold X0_push
  rw [h3, J_nI]
  simp (disch := omega) only [J_0, J_lt, J_le]
  rw [if_neg (by omega), if_neg (by omega), if_pos (by rw [← J_lt (b := 0) (by omega) (by omega), ← J_0]; exact J_in (by omega) (by omega)), J_cl (by omega), J_1, J_add]
  rw [show ((l.length : Int)).toNat = l.length by omega]
theorem clear_J {z : zN} {N : Nat} (hN : N ≤ 256) : ∃ z', X0_clear F z = some z' ∧ RN N z' [] := ⟨(z.1, 0), rfl, by simp, hN, by simp [J_0], fun i hi => by simp at hi, fun i hi => by simp at hi⟩
end MLIST
