/-! the calls append, appendMany and merge -/
section MAP2
variable {F : Nat}
theorem GM_rep0 {K : List Int} {x : Int} {n : Nat} : GM K (List.replicate K.length 0) 0 n x ↔ ∃ j, j < n ∧ K.getD j 0 = x := by
  constructor
  · rintro ⟨j, q1, q2, q3, q4⟩
    exact ⟨j, q2, q3⟩
  · rintro ⟨j, q2, q3⟩
    exact ⟨j, Nat.zero_le _, q2, q3, getD_rep _ _⟩
theorem cU_rep (K : List Int) : ∀ n, (cU K (List.replicate K.length 0) n).length = n
  | 0 => rfl
  | n + 1 => by
    rw [cU, getD_rep, if_pos rfl, List.length_append, cU_rep K n]
    rfl
/-- the state behind a merge -/
theorem LK_new {G T : List Int} {bd : Int} (hs : Srt G) (hr : KR G) (hl : G.length ≤ 256) (hS : SOK T G.length) (hP : PF bd G T G.length) (hb : 0 ≤ bd ∧ bd ≤ 20) : LK G (List.replicate G.length 0) [] T bd := by
  refine ⟨hs, hr, by simp, fun j hj => Or.inl (getD_rep _ _), Srt_nil, fun i hi => by simp at hi, fun i j _ hj => by simp at hj, by simpa using hl, hS, hP, hb⟩
end MAP2
