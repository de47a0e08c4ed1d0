/-! merging as a whole -/
section MALL
variable {F : Nat}
theorem getD_rep (n j : Nat) : (List.replicate n (0 : Int)).getD j 0 = 0 := by
  rw [List.getD_eq_getElem?_getD, List.getElem?_replicate]
  split <;> rfl
theorem copy_L {G : List Int} {zf : zN} (hf : RN 256 zf G) : ∀ (T : List Int) (n : Nat) (A : List Int) (zk zm : zN), T.length < n → G = A ++ T → RN 256 zk A → RN 256 zm (List.replicate A.length 0) → ∃ zk' zm', X2_mergeAll_L74 F zf n (J A.length) zk zm = some (zk', zm') ∧ RN 256 zk' G ∧ RN 256 zm' (List.replicate G.length 0)
  | T, 0, A, zk, zm, h, _, _, _ => absurd h (Nat.not_lt_zero _)
  | [], n + 1, A, zk, zm, _, hG, hk, hm => by
    have hl := hf.len
    rw [List.append_nil] at hG
    subst hG
    refine ⟨zk, zm, ?_, hk, hm⟩
    rw [X2_mergeAll_L74, length_J hf]
    simp only [Option.bind_some]
    rw [if_pos (by exact Int32.le_refl _)]
  | x :: T, n + 1, A, zk, zm, h, hG, hk, hm => by
    have hl := hf.len
    have hlen : G.length = A.length + T.length + 1 := by rw [hG]; simp; omega
    have hx : G.getD A.length 0 = x := by rw [hG]; exact getD_mid A x T
    have hr := hf.2.2.2.2 A.length (by omega)
    simp only [List.length_cons] at h
    obtain ⟨zk1, e1, hk1⟩ := push_J (F := F) hk (by omega) hr
    obtain ⟨zm1, e2, hm1⟩ := push_J (F := F) hm (by simp; omega) (x := 0) (by omega)
    rw [← List.replicate_succ'] at hm1
    obtain ⟨zk', zm', s1, s2, s3⟩ := copy_L hf T n (A ++ [x]) zk1 zm1 (by omega) (by rw [hG]; simp) (by rw [← hx]; exact hk1) (by rw [List.length_append]; exact hm1)
    refine ⟨zk', zm', ?_, s2, s3⟩
    rw [X2_mergeAll_L74, length_J hf]
    simp only [Option.bind_some]
    rw [if_neg (by rw [J_leN (by omega) (by omega)]; omega), at_in hf (by omega)]
    simp only [Option.bind_some]
    rw [e1]
    simp only [Option.bind_some]
    rw [J_0, e2]
    simp only [Option.bind_some, bnd]
    rw [J_succ]
    rw [List.length_append] at s1
    exact s1
end MALL
