/-! append and appendMany: the class and the reference answer alike -/
section MAPP
variable {F : Nat}
def ST (K M B S : List Int) (bd ro : Int) : Prop := LK K M B S bd ∧ 1 ≤ ro ∧ ro ≤ 16 ∧ (B.length : Int) < ro
theorem cU_cong {K K' M M' : List Int} : ∀ n, (∀ j, j < n → K.getD j 0 = K'.getD j 0 ∧ M.getD j 0 = M'.getD j 0) → cU K M n = cU K' M' n
  | 0, _ => rfl
  | n + 1, h => by
    rw [cU, cU, cU_cong n (fun j hj => h j (by omega)), (h n (by omega)).1, (h n (by omega)).2]
theorem cl_full {l : List Int} {x : Int} (hs : Srt l) : cl l x = l.length ↔ ∀ y, y ∈ l → y < x := by
  constructor
  · intro h y hy
    obtain ⟨i, hi, e⟩ := mem_getD.mp hy
    rw [← e]
    exact (cl_spec hs x i hi).mp (by omega)
  · exact cl_all
theorem needToFollow_J (hF : 2000 ≤ F) {K M B S : List Int} {bd : Int} {zk zb : zN} {x m : Int} (h : LK K M B S bd) (hk : RN 256 zk K) (hb : RN 16 zb B) (hx : -2147483648 ≤ x ∧ x < 2147483648) (hm : 0 ≤ m ∧ m ≤ 1000) : (((∀ y, y ∈ K → y < x) ∧ (∀ y, y ∈ B → y < x) ∧ K.length + B.length + m ≤ 256) → X2_needToFollow F zk zb (J x) (J m) = some (Sum.inr ())) ∧ (¬ ((∀ y, y ∈ K → y < x) ∧ (∀ y, y ∈ B → y < x) ∧ K.length + B.length + m ≤ 256) → X2_needToFollow F zk zb (J x) (J m) = some (Sum.inl 2)) := by
  obtain ⟨a1, a2, a3, a4, a5, a6, a7, a8, a9, a10, a11⟩ := h
  have c1 := cl_le K x
  have c2 := cl_le B x
  rw [← cl_full a1, ← cl_full a5]
  unfold X2_needToFollow X2_allKeys
  rw [below_J hF hk a1 hx, length_J hk, below_J hF hb a5 hx, length_J hb]
  simp only [Option.bind_some]
  rw [J_add, J_add, J_256]
  have e1 : (J 256 < J ((K.length : Int) + B.length + m)) ↔ 256 < (K.length : Int) + B.length + m := J_lt (by omega) (by omega)
  have e2 : (J (cl K x : Int) = J (K.length : Int)) ↔ cl K x = K.length := J_eqN (by omega) (by omega)
  have e3 : (J (cl B x : Int) = J (B.length : Int)) ↔ cl B x = B.length := J_eqN (by omega) (by omega)
  by_cases d1 : cl K x = K.length
  · rw [if_pos (e2.mpr d1)]
    by_cases d2 : cl B x = B.length
    · rw [if_pos (e3.mpr d2)]
      simp only [Option.bind_some]
      by_cases d3 : 256 < (K.length : Int) + B.length + m
      · rw [if_pos (e1.mpr d3)]
        exact ⟨fun q => absurd q.2.2 (by omega), fun _ => rfl⟩
      · rw [if_neg (fun q => d3 (e1.mp q)), if_neg (by decide)]
        exact ⟨fun _ => rfl, fun q => absurd ⟨d1, d2, by omega⟩ q⟩
    · rw [if_neg (fun q => d2 (e3.mp q))]
      simp only [Option.bind_some, if_true]
      refine ⟨fun q => absurd q.2.1 d2, fun _ => ?_⟩
      split <;> rfl
  · rw [if_neg (fun q => d1 (e2.mp q))]
    simp only [Option.bind_some, if_true]
    refine ⟨fun q => absurd q.1 d1, fun _ => ?_⟩
    split <;> rfl
theorem last_lt {l : List Int} {x : Int} (hs : Srt l) (h0 : 0 < l.length) : l.getD (l.length - 1) 0 < x ↔ ∀ y, y ∈ l → y < x := by
  constructor
  · intro h y hy
    obtain ⟨i, hi, e⟩ := mem_getD.mp hy
    rw [← e]
    rcases Nat.lt_or_ge i (l.length - 1) with q | q
    · have := hs i (l.length - 1) q (by omega)
      omega
    · rw [show i = l.length - 1 by omega]
      exact h
  · intro h
    exact h _ (getD_mem (by omega))
end MAPP
