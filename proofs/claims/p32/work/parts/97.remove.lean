/-! the call remove -/
section MREM
variable {F : Nat}
theorem LK_less {K M B S : List Int} {bd : Int} {i : Nat} (h : LK K M B S bd) (hi : i < B.length) : LK K M (B.eraseIdx i) S bd := by
  obtain ⟨a1, a2, a3, a4, a5, a6, a7, a8, a9⟩ := h
  have hlen : (B.eraseIdx i).length = B.length - 1 := List.length_eraseIdx_of_lt hi
  refine ⟨a1, a2, a3, a4, fun p q hpq hq => ?_, fun p hp => ?_, fun p q hp hq => ?_, by omega, a9⟩
  · rw [hlen] at hq
    rw [getD_eraseIdx, getD_eraseIdx]
    split <;> split
    · exact a5 p q hpq (by omega)
    · exact a5 p (q + 1) (by omega) (by omega)
    · omega
    · exact a5 (p + 1) (q + 1) (by omega) (by omega)
  · rw [hlen] at hp
    rw [getD_eraseIdx]
    split
    · exact a6 p (by omega)
    · exact a6 (p + 1) (by omega)
  · rw [hlen] at hq
    rw [getD_eraseIdx]
    split
    · exact a7 p q hp (by omega)
    · exact a7 p (q + 1) hp (by omega)
end MREM
