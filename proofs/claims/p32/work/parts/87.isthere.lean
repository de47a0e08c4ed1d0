/-! whether a key is there, and which key has a place -/
section MIS
variable {F : Nat}
theorem mem_cl {l : List Int} {x : Int} (hs : Srt l) : x ∈ l ↔ cl l x < l.length ∧ l.getD (cl l x) 0 = x := by
  constructor
  · intro h
    obtain ⟨i, hi, e⟩ := mem_getD.mp h
    have e2 : i = cl l x := cl_uniq hs (by omega) (fun j hj => by
      have := hs j i hj hi
      omega) (fun j hj1 hj2 => by
      rcases Nat.lt_or_ge i j with q | q
      · have := hs i j q hj2
        omega
      · rw [show j = i by omega]; omega)
    rw [← e2]
    exact ⟨hi, e⟩
  · rintro ⟨h1, h2⟩
    rw [← h2]
    exact getD_mem h1
def TH (K M B : List Int) (x : Int) : Prop := x ∈ B ∨ GM K M 0 K.length x
theorem GM_cl {K M : List Int} {x : Int} (hs : Srt K) (h : x ∈ K) : GM K M 0 K.length x ↔ M.getD (cl K x) 0 = 0 := by
  have h1 := (mem_cl hs).mp h
  constructor
  · rintro ⟨j, q1, q2, q3, q4⟩
    have : j = cl K x := by
      rcases Nat.lt_trichotomy j (cl K x) with q | q | q
      · have := hs j (cl K x) q h1.1
        omega
      · exact q
      · have := hs (cl K x) j q q2
        omega
    rw [← this]
    exact q4
  · intro q
    exact ⟨cl K x, Nat.zero_le _, h1.1, h1.2, q⟩
theorem GM_in {K M : List Int} {x : Int} {n : Nat} (h : GM K M 0 n x) (hn : n ≤ K.length) : x ∈ K := by
  obtain ⟨j, q1, q2, q3, q4⟩ := h
  rw [← q3]
  exact getD_mem (by omega)
theorem ixOf_in {l : List Int} {x : Int} (hs : Srt l) (h : x ∈ l) : ixOf l x = cl l x := by
  unfold ixOf
  rw [if_pos ((mem_cl hs).mp h)]
theorem ixOf_out {l : List Int} {x : Int} (hs : Srt l) (h : ¬ x ∈ l) : ixOf l x = -1 := by
  unfold ixOf
  rw [if_neg (fun q => h ((mem_cl hs).mpr q))]
theorem LK_disj {K M B S : List Int} {bd : Int} (h : LK K M B S bd) {x : Int} (h1 : x ∈ K) (h2 : x ∈ B) : False := by
  obtain ⟨i, hi, e1⟩ := mem_getD.mp h1
  obtain ⟨j, hj, e2⟩ := mem_getD.mp h2
  exact h.2.2.2.2.2.2.1 i j hi hj (by omega)
theorem isThere_J (hF : 2000 ≤ F) {K M B S : List Int} {bd : Int} {zk zm zb : zN} {x : Int} (h : LK K M B S bd) (hk : RN 256 zk K) (hm : RN 256 zm M) (hb : RN 16 zb B) (hx : -2147483648 ≤ x ∧ x < 2147483648) : (TH K M B x → X2_isThere F zk zm zb (J x) = some 1) ∧ (¬ TH K M B x → X2_isThere F zk zm zb (J x) = some 0) := by
  have hd := fun q1 q2 => LK_disj h (x := x) q1 q2
  obtain ⟨h1, h2, h3, h4, h5, h6, h7, h8, h9, h10, h11⟩ := h
  have hcl := cl_le K x
  have hcb := cl_le B x
  unfold X2_isThere
  rw [indexOf_J hF hk h1 hx]
  simp only [Option.bind_some]
  by_cases c : x ∈ K
  · have hc := (mem_cl h1).mp c
    rw [ixOf_in h1 c, if_neg (by rw [J_m1, J_eq (by omega) (by omega)]; omega), at_in hm (by omega)]
    simp only [Option.bind_some]
    have hmr := h4 (cl K x) (by omega)
    have e : TH K M B x ↔ M.getD (cl K x) 0 = 0 := by
      unfold TH
      rw [GM_cl h1 c]
      exact ⟨fun q => q.elim (fun q => (hd c q).elim) id, Or.inr⟩
    rw [e]
    refine ⟨fun q => ?_, fun q => ?_⟩
    · rw [if_pos (by rw [q]; exact J_0.symm)]
    · rw [if_neg (by rw [J_0, J_eq (by omega) (by omega)]; exact q)]
  · have e : TH K M B x ↔ x ∈ B := by
      unfold TH
      exact ⟨fun q => q.elim id (fun q => absurd (GM_in q (Nat.le_refl _)) c), Or.inl⟩
    rw [e, ixOf_out h1 c, if_pos J_m1.symm, indexOf_J hF hb h5 hx]
    simp only [Option.bind_some]
    refine ⟨fun q => ?_, fun q => ?_⟩
    · rw [ixOf_in h5 q, if_neg (by rw [J_m1, J_eq (by omega) (by omega)]; omega)]
    · rw [ixOf_out h5 q, if_pos J_m1.symm]
theorem BM_all {B : List Int} {x : Int} : BM B 0 B.length x ↔ x ∈ B := by
  rw [mem_getD]
  exact ⟨fun ⟨j, q1, q2, q3⟩ => ⟨j, q2, q3⟩, fun ⟨j, q2, q3⟩ => ⟨j, Nat.zero_le _, q2, q3⟩⟩
end MIS
