/-! the call insert -/
section MINS
variable {F : Nat}
theorem RA_set {N : Nat} {a : Nat → Int32} {l : List Int} (h : RA N a l) {i : Nat} (hi : i < l.length) (x : Int) : RA N (upd a i (J x)) (l.set i x) := by
  refine ⟨by simpa using h.1, fun j hj => ?_⟩
  simp at hj
  rw [getD_set]
  unfold upd
  by_cases e : j = i
  · rw [if_pos e, if_pos ⟨e, hi⟩]
  · rw [if_neg e, if_neg (fun q => e q.1), h.2 j hj]
theorem cU_set0 {K M : List Int} {i : Nat} (hi : i < M.length) (h : M.getD i 0 ≠ 0) : ∀ n, (cU K (M.set i 0) n).length = (cU K M n).length + (if i < n then 1 else 0)
  | 0 => by rw [if_neg (Nat.not_lt_zero i)]; rfl
  | n + 1 => by
    have ih := cU_set0 (K := K) hi h n
    have g := getD_set M i n 0
    rw [cU, cU]
    by_cases e : n = i
    · subst e
      rw [if_pos ⟨rfl, hi⟩] at g
      rw [if_neg (Nat.lt_irrefl _)] at ih
      rw [g, if_pos rfl, if_neg h, if_pos (by omega), List.length_append, ih]
      rfl
    · rw [if_neg (fun q => e q.1)] at g
      rw [g]
      by_cases c : M.getD n 0 = 0
      · rw [if_pos c, if_pos c, List.length_append, List.length_append, ih]
        simp only [List.length_cons, List.length_nil]
        split <;> split <;> omega
      · rw [if_neg c, if_neg c, ih]
        split <;> split <;> omega
theorem cU_set1 {K M : List Int} {i : Nat} (hi : i < M.length) (h : M.getD i 0 = 0) : ∀ n, (cU K (M.set i 1) n).length + (if i < n then 1 else 0) = (cU K M n).length
  | 0 => by rw [if_neg (Nat.not_lt_zero i)]; rfl
  | n + 1 => by
    have ih := cU_set1 (K := K) hi h n
    have g := getD_set M i n 1
    rw [cU, cU]
    by_cases e : n = i
    · subst e
      rw [if_pos ⟨rfl, hi⟩] at g
      rw [if_neg (Nat.lt_irrefl _)] at ih
      rw [g, if_neg (show ¬ (1 : Int) = 0 by omega), if_pos h, if_pos (by omega), List.length_append, ← ih]
      rfl
    · rw [if_neg (fun q => e q.1)] at g
      rw [g]
      by_cases c : M.getD n 0 = 0
      · rw [if_pos c, if_pos c, List.length_append, List.length_append, ← ih]
        simp only [List.length_cons, List.length_nil]
        split <;> split <;> omega
      · rw [if_neg c, if_neg c, ← ih]
        split <;> split <;> omega
theorem LK_mark {K M B S : List Int} {bd : Int} (h : LK K M B S bd) {i : Nat} {v : Int} (hv : v = 0 ∨ v = 1) : LK K (M.set i v) B S bd := by
  obtain ⟨a1, a2, a3, a4, a5⟩ := h
  refine ⟨a1, a2, by simpa using a3, fun j hj => ?_, a5⟩
  simp at hj
  rw [getD_set]
  split
  · exact hv
  · exact a4 j hj
theorem LK_late {K M B S : List Int} {bd x : Int} (h : LK K M B S bd) (hx : -1000000 ≤ x ∧ x ≤ 1000000) (h1 : ¬ x ∈ K) (h2 : ¬ x ∈ B) (hl : K.length + B.length < 256) : LK K M (insAt B (cl B x) x) S bd := by
  obtain ⟨a1, a2, a3, a4, a5, a6, a7, a8, a9⟩ := h
  have hc := cl_le B x
  refine ⟨a1, a2, a3, a4, insAt_Srt a5 h2, KR_mem.mpr (fun y hy => ?_), fun i j hi hj e => ?_, by rw [insAt_len B hc]; omega, a9⟩
  · rcases (insAt_mem hc).mp hy with q | q
    · omega
    · exact KR_mem.mp a6 y q
  · have h3 := getD_mem (d := (0 : Int)) hj
    rw [← e] at h3
    rcases (insAt_mem hc).mp h3 with q | q
    · exact h1 (by rw [← q]; exact getD_mem hi)
    · obtain ⟨t, t1, t2⟩ := mem_getD.mp q
      exact a7 i t hi t1 t2.symm
end MINS
