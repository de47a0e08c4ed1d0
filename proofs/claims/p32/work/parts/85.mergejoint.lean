/-! merging: the class and the reference answer alike -/
section MJNT
variable {F : Nat}
theorem LK_nil {K M B S : List Int} {bd : Int} (h : LK K M B S bd) (h0 : S.length = 0) : K.length = 0 := by
  rcases Nat.eq_zero_or_pos K.length with q | q
  · exact q
  · have := h.2.2.2.2.2.2.2.2.1.2.2.2 q
    omega
end MJNT
