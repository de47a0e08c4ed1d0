/-! the calls that only look -/
section MOP2
variable {F : Nat}
theorem allN_le {K M B S : List Int} {bd : Int} (h : LK K M B S bd) : allN K M B ≤ 256 := by
  unfold allN
  have := cU_len K M K.length
  have := h.2.2.2.2.2.2.2.1
  omega
theorem keyThere_J (hF : 2000 ≤ F) {K M B S T : List Int} {bd : Int} {zk zm zb : zN} (zf : zN) (h : LK K M B S bd) (hk : RN 256 zk K) (hm : RN 256 zm M) (hb : RN 16 zb B) (hT : Srt T) (hTm : ∀ x, x ∈ T ↔ GM K M 0 K.length x ∨ BM B 0 B.length x) {q : Nat} (hq : q < T.length) : ∃ zf', X2_keyThere F zk zm zb zf (J q) = some (J (T.getD q 0), zf') := by
  obtain ⟨zf', T2, e1, e2, e3, e4⟩ := gatherAll_J hF zf h hk hm hb
  have : T2 = T := Srt_ext e3 hT (fun x => by rw [e4, hTm])
  subst this
  refine ⟨zf', ?_⟩
  unfold X2_keyThere
  rw [e1]
  simp only [Option.bind_some]
  rw [at_in e2 hq]
  rfl
theorem cl_next {T : List Int} {x : Int} (hT : Srt T) : (x ∈ T → cl T (x + 1) = cl T x + 1) ∧ (¬ x ∈ T → cl T (x + 1) = cl T x) := by
  have hc := cl_le T x
  constructor
  · intro hx
    have h1 := (mem_cl hT).mp hx
    refine (cl_uniq hT (by omega) (fun j hj => ?_) (fun j hj1 hj2 => ?_)).symm
    · by_cases e : j = cl T x
      · rw [e, h1.2]
        omega
      · have := (cl_spec hT x j (by omega)).mp (by omega)
        omega
    · have := hT (cl T x) j (by omega) hj2
      omega
  · intro hx
    refine (cl_uniq hT hc (fun j hj => ?_) (fun j hj1 hj2 => ?_)).symm
    · have := (cl_spec hT x j (by omega)).mp hj
      omega
    · have h1 := cl_spec hT x j hj2
      have h2 : T.getD j 0 ≠ x := fun e => hx (by rw [← e]; exact getD_mem hj2)
      omega
theorem needPiece_J {S : List Int} {zs : zN} {x : Int} (hs : RN 256 zs S) (hx : -2147483648 ≤ x ∧ x < 2147483648) : (0 ≤ x ∧ x < S.length → X2_needPiece F zs (J x) = some (Sum.inr ())) ∧ (¬ (0 ≤ x ∧ x < S.length) → X2_needPiece F zs (J x) = some (Sum.inl 3)) := by
  unfold X2_needPiece
  rw [has_J hs hx]
  simp only [Option.bind_some]
  refine ⟨fun c => ?_, fun c => ?_⟩
  · rw [if_pos c, if_neg (by decide)]
  · rw [if_neg c, if_pos (by decide)]
end MOP2
