/-! the call rebuild -/
section MREB
variable {F : Nat}
theorem Srt_prefix {a b : List Int} (h : Srt (a ++ b)) : Srt a := fun i j hij hj => by
  have := h i j hij (by rw [List.length_append]; omega)
  rw [getD_app_l (by omega), getD_app_l hj] at this
  exact this
theorem cutS_cong {bd : Int} {G G' C : List Int} {p : Nat} (h : ∀ j, j ≤ p → gd G j = gd G' j) (hS : SOK C p) : cutS bd G C 0 p = cutS bd G' C 0 p := by
  unfold cutS
  by_cases c : C.length = 0
  · rw [if_pos (Or.inl c), if_pos (Or.inl c)]
  · have hlt := lastS_lt hS (by omega)
    rw [rng_cong (f := gd G) (g := gd G') (p - lastS C) (fun i _ h2 => h i (by omega))]
theorem reb51_L (hF : 2000 ≤ F) {b : Int} {G : List Int} {zf : zN} (hb : 0 ≤ b ∧ b ≤ 20) (hf : RN 256 zf G) (hs : Srt G) (hr : KR G) : ∀ (T : List Int) (n : Nat) (A S : List Int) (zk zm zs zr zu : zN) (zt : zT), T.length < n → G = A ++ T → RN 256 zk A → RN 256 zm (List.replicate A.length 0) → PI b A S A.length zs zr zu zt → ∃ zk' zm' zs' zr' zu' zt', X2_rebuild_L51 (J b) F zf n (J A.length) zk zm zs zr zu zt = some (zk', zm', zs', zr', zu', zt') ∧ RN 256 zk' G ∧ RN 256 zm' (List.replicate G.length 0) ∧ PI b G (cutF b G 0 S A.length T.length) G.length zs' zr' zu' zt'
  | T, 0, A, S, zk, zm, zs, zr, zu, zt, h, _, _, _, _ => absurd h (Nat.not_lt_zero _)
  | [], n + 1, A, S, zk, zm, zs, zr, zu, zt, _, hG, hk, hm, p => by
    have hl := hf.len
    rw [List.append_nil] at hG
    subst hG
    refine ⟨zk, zm, zs, zr, zu, zt, ?_, hk, hm, p⟩
    rw [X2_rebuild_L51, length_J hf]
    simp only [Option.bind_some]
    rw [if_pos (by exact Int32.le_refl _)]
  | x :: T, n + 1, A, S, zk, zm, zs, zr, zu, zt, h, hG, hk, hm, p => by
    have hl := hf.len
    have hlen : G.length = A.length + T.length + 1 := by rw [hG]; simp; omega
    have hx : G.getD A.length 0 = x := by rw [hG]; exact getD_mid A x T
    have hG2 : G = (A ++ [x]) ++ T := by rw [hG]; simp
    simp only [List.length_cons] at h
    have hs1 : Srt (A ++ [x]) := Srt_prefix (b := T) (by rw [← hG2]; exact hs)
    have hr1 : KR (A ++ [x]) := KR_mem.mpr (fun y hy => KR_mem.mp hr y (by rw [hG2]; exact List.mem_append_left _ hy))
    obtain ⟨zk1, zm1, zs1, zr1, zu1, zt1, e1, e2, e3, e4⟩ := addLast_J hF hk hm (by simp) hs1 hr1 hb (by omega) p
    rw [← List.replicate_succ'] at e3
    have hcong : cutS b (A ++ [x]) S 0 A.length = cutS b G S 0 A.length := cutS_cong (fun j hj => by
      have q := getD_app_l (l := A ++ [x]) (l2 := T) (i := j) (d := (0 : Int)) (by rw [List.length_append]; simp only [List.length_cons, List.length_nil]; omega)
      unfold gd
      rw [hG2, q]) p.2.1
    rw [hcong] at e4
    have hlA : (A ++ [x]).length = A.length + 1 := by simp
    obtain ⟨zk', zm', zs', zr', zu', zt', s1, s2, s3, s4⟩ := reb51_L hF hb hf hs hr T n (A ++ [x]) (cutS b G S 0 A.length) zk1 zm1 zs1 zr1 zu1 zt1 (by omega) hG2 e2 (by rw [hlA]; exact e3) (by rw [hlA]; exact e4)
    refine ⟨zk', zm', zs', zr', zu', zt', ?_, s2, s3, ?_⟩
    · rw [X2_rebuild_L51, length_J hf]
      simp only [Option.bind_some]
      rw [if_neg (by rw [J_leN (by omega) (by omega)]; omega), at_in hf (by omega), hx]
      simp only [Option.bind_some]
      rw [e1]
      simp only [Option.bind_some, bnd]
      rw [J_succ]
      rw [hlA] at s1
      exact s1
    · rw [hlA] at s4
      exact s4
theorem PI_nil {bd : Int} {zs zr zu : zN} (zt : zT) (h1 : RN 256 zs []) (h2 : RN 256 zr []) (h3 : RN 256 zu []) : PI bd [] [] 0 zs zr zu zt := ⟨h1, ⟨fun i j _ h => by simp at h, fun i h => by simp at h, fun h => by simp at h, fun h => absurd h (Nat.lt_irrefl 0)⟩, fun i h => by simp at h, fun h => by simp at h, [], [], h2, h3, rfl, rfl, fun i h => by simp at h⟩
end MREB
