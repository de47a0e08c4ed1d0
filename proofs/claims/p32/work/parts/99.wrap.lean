/-! the call merge, and the empty index -/
section MWRP
variable {F : Nat}
/-- the empty index -/
theorem ST_empty : ST [] [] [] [] 2 4 := by
  refine ⟨⟨Srt_nil, fun i h => by simp at h, rfl, fun j h => by simp at h, Srt_nil, fun i h => by simp at h, fun i j h _ => by simp at h, by simp, ⟨Srt_nil, fun i h => by simp at h, fun h => by simp at h, fun h => by simp at h⟩, fun i h => by simp at h, by omega, by omega⟩, by omega, by omega, by simp⟩
theorem XS_empty {zk zm zb zs zr zu : zN} {zt : zT} (h1 : zk.2 = 0) (h2 : zm.2 = 0) (h3 : zb.2 = 0) (h4 : zs.2 = 0) (h5 : zr.2 = 0) (h6 : zu.2 = 0) : XS [] [] [] [] 2 zk zm zb zs zr zu zt 0 := by
  have r : ∀ {N : Nat} (z : zN), N ≤ 256 → z.2 = 0 → RN N z [] := fun {N} z hN hz => ⟨by simp, hN, by rw [hz]; exact J_0, fun i hi => by simp at hi, fun i hi => by simp at hi⟩
  refine ⟨r zk (Nat.le_refl _) h1, r zm (Nat.le_refl _) h2, r zb (by omega) h3, ?_, J_0⟩
  exact PI_nil zt (r zs (Nat.le_refl _) h4) (r zr (Nat.le_refl _) h5) (r zu (Nat.le_refl _) h6)
end MWRP
