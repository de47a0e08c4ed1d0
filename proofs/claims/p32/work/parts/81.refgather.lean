/-! pieces of keys, and the reference's gathering -/
section MRG
variable {F : Nat}
def pcN (K S : List Int) (x : Int) : Nat := cl S (cl K (x + 1) : Nat)
theorem pcN_le (K S : List Int) (x : Int) : pcN K S x ≤ S.length := cl_le _ _
theorem pcN_spec {K S : List Int} {x : Int} {i : Nat} (hs : Srt K) (hS : SOK S K.length) (hi : i < S.length) : i < pcN K S x ↔ K.getD (S.getD i 0).toNat 0 ≤ x := by
  have h1 := hS.2.1 i hi
  have h2 := cl_spec hS.1 (cl K (x + 1) : Nat) i hi
  have h3 := cl_spec hs (x + 1) (S.getD i 0).toNat (by omega)
  unfold pcN
  omega
theorem KR_mem {l : List Int} : KR l ↔ ∀ x, x ∈ l → -1000000 ≤ x ∧ x ≤ 1000000 := by
  constructor
  · intro h x hx
    obtain ⟨i, hi, e⟩ := mem_getD.mp hx
    rw [← e]
    exact h i hi
  · intro h i hi
    exact h _ (getD_mem hi)
theorem pieceOf_JX (hF : 2000 ≤ F) {K S : List Int} {zk zs : zN} {x : Int} (hk : RN 256 zk K) (hsr : RN 256 zs S) (hs : Srt K) (hS : SOK S K.length) (hx : -1000000 ≤ x ∧ x ≤ 1000000) : X2_pieceOf F zk zs (J x) = some (J ((pcN K S x : Int) - 1)) := by
  have h1 := hk.len
  have h2 := cl_le K (x + 1)
  unfold X2_pieceOf
  rw [J_1, J_add, below_J hF hk hs (by omega)]
  simp only [Option.bind_some]
  rw [below_J hF hsr hS.1 (by omega)]
  simp only [Option.bind_some]
  rw [J_sub]
  rfl
end MRG
