/-! which keys are there, and how many are less -/
section MTH
variable {F : Nat}
def cU (K M : List Int) : Nat → List Int
  | 0 => []
  | n + 1 => if M.getD n 0 = 0 then cU K M n ++ [K.getD n 0] else cU K M n
theorem cU_mem (K M : List Int) (x : Int) : ∀ n, x ∈ cU K M n ↔ GM K M 0 n x
  | 0 => ⟨fun h => by simp [cU] at h, fun h => absurd h (GM_none (Nat.le_refl _))⟩
  | n + 1 => by
    rw [cU, GM_split (a := 0) (b := n) (c := n + 1) (Nat.zero_le _) (by omega), GM_step (lo := n) (by omega), ← cU_mem K M x n]
    by_cases c : M.getD n 0 = 0
    · rw [if_pos c, List.mem_append]
      simp only [List.mem_cons, List.not_mem_nil, or_false]
      constructor
      · rintro (q | q)
        · exact Or.inl q
        · exact Or.inr (Or.inl ⟨q.symm, c⟩)
      · rintro (q | q | q)
        · exact Or.inl q
        · exact Or.inr q.1.symm
        · exact absurd q (GM_none (Nat.le_refl _))
    · rw [if_neg c]
      constructor
      · exact Or.inl
      · rintro (q | q | q)
        · exact q
        · exact absurd q.2 c
        · exact absurd q (GM_none (Nat.le_refl _))
theorem cU_len (K M : List Int) : ∀ n, (cU K M n).length ≤ n
  | 0 => Nat.le_refl _
  | n + 1 => by
    have := cU_len K M n
    rw [cU]
    split
    · rw [List.length_append]
      simp only [List.length_cons, List.length_nil]
      omega
    · omega
theorem cU_Srt {K M : List Int} (hs : Srt K) : ∀ n, n ≤ K.length → Srt (cU K M n)
  | 0, _ => Srt_nil
  | n + 1, h => by
    rw [cU]
    split
    · refine Srt_snoc (cU_Srt hs n (by omega)) (fun i hi => ?_)
      obtain ⟨j, q1, q2, q3, q4⟩ := (cU_mem K M _ n).mp (getD_mem hi (d := 0))
      rw [← q3]
      exact hs j n q2 (by omega)
    · exact cU_Srt hs n (by omega)
theorem cl_all {l : List Int} {x : Int} (h : ∀ y, y ∈ l → y < x) : cl l x = l.length := by
  unfold cl
  rw [List.countP_eq_length]
  intro y hy
  simpa using h y hy
theorem cU_step (K M : List Int) (n : Nat) (x : Int) : cl (cU K M (n + 1)) x = cl (cU K M n) x + (if M.getD n 0 = 0 ∧ K.getD n 0 < x then 1 else 0) := by
  rw [cU]
  by_cases c : M.getD n 0 = 0
  · rw [if_pos c, cl_append]
    by_cases c2 : K.getD n 0 < x
    · rw [if_pos ⟨c, c2⟩, cl_cons, cl_nil, if_pos c2]
    · rw [if_neg (fun q => c2 q.2), cl_cons, cl_nil, if_neg c2]
  · rw [if_neg c, if_neg (fun q => c q.1)]
    rfl
theorem cU_below {K M : List Int} {x : Int} (hs : Srt K) : ∀ d, cl K x + d ≤ K.length → cl (cU K M (cl K x + d)) x = (cU K M (cl K x)).length
  | 0, h => cl_all (fun y hy => by
      obtain ⟨j, q1, q2, q3, q4⟩ := (cU_mem K M y _).mp hy
      rw [← q3]
      exact (cl_spec hs x j (by omega)).mp q2)
  | d + 1, h => by
    have h1 := cU_below (M := M) (x := x) hs d (by omega)
    rw [← Nat.add_assoc, cU_step, h1]
    have h2 := cl_spec hs x (cl K x + d) (by omega)
    rw [if_neg (fun q => by have := h2.mpr q.2; omega)]
    rfl
def thN (K M B : List Int) (x : Int) : Nat := cl (cU K M K.length) x + cl B x
def allN (K M B : List Int) : Nat := (cU K M K.length).length + B.length
theorem Srt_nodup {l : List Int} (h : Srt l) : l.Nodup := by
  induction l with
  | nil => exact List.nodup_nil
  | cons a l ih =>
    have h1 := Srt_cons.mp h
    rw [List.nodup_cons]
    exact ⟨fun q => by have := h1.1 a q; omega, ih h1.2⟩
/-- the keys that are there, in their order -/
theorem th_perm {K M B T : List Int} {S : List Int} {bd : Int} (h : LK K M B S bd) (hT : Srt T) (hm : ∀ x, x ∈ T ↔ GM K M 0 K.length x ∨ BM B 0 B.length x) : T.length = allN K M B ∧ ∀ x, cl T x = thN K M B x := by
  have hB : ∀ x, BM B 0 B.length x ↔ x ∈ B := fun x => by
    rw [mem_getD]
    exact ⟨fun ⟨j, q1, q2, q3⟩ => ⟨j, q2, q3⟩, fun ⟨j, q2, q3⟩ => ⟨j, Nat.zero_le _, q2, q3⟩⟩
  have hp : T.Perm (cU K M K.length ++ B) := by
    rw [List.perm_ext_iff_of_nodup (Srt_nodup hT)]
    · intro x
      rw [hm, List.mem_append, cU_mem, hB]
    · rw [List.nodup_append]
      refine ⟨Srt_nodup (cU_Srt h.1 _ (Nat.le_refl _)), Srt_nodup h.2.2.2.2.1, fun a ha b hb e => ?_⟩
      obtain ⟨j, q1, q2, q3, q4⟩ := (cU_mem K M a _).mp ha
      obtain ⟨i, r1, r2⟩ := mem_getD.mp hb
      exact h.2.2.2.2.2.2.1 j i q2 r1 (by rw [q3, r2, e])
  refine ⟨by rw [hp.length_eq, List.length_append]; rfl, fun x => ?_⟩
  unfold thN
  rw [← cl_append]
  unfold cl
  exact hp.countP_eq _
theorem cU_take1 (K M : List Int) (n : Nat) (hM : M.getD n 0 = 0 ∨ M.getD n 0 = 1) : ((cU K M (n + 1)).length : Int) = (cU K M n).length + (1 - M.getD n 0) := by
  rw [cU]
  split
  · rename_i c
    rw [c, List.length_append]
    simp only [List.length_cons, List.length_nil]
    omega
  · rename_i c
    omega
theorem thereBelow_L {K M : List Int} {zm : zN} {e : Nat} (hm : RN 256 zm M) (hM : M.length = K.length) (hM2 : ∀ j, j < M.length → M.getD j 0 = 0 ∨ M.getD j 0 = 1) (he : e ≤ K.length) {c : Nat} (hc : c ≤ 1000) : ∀ (d n p : Nat), d < n → p + d = e → X2_thereBelow_L21 zm F (J e) n (J p) (J ((c + (cU K M p).length : Nat) : Int)) = some (J ((c + (cU K M e).length : Nat) : Int))
  | d, 0, p, h, _ => absurd h (Nat.not_lt_zero d)
  | 0, n + 1, p, _, hd => by
    have hl := hm.len
    have e1 : p = e := by omega
    subst e1
    rw [X2_thereBelow_L21, if_pos (by exact Int32.le_refl _)]
  | d + 1, n + 1, p, h, hd => by
    have hl := hm.len
    have hcl := cU_len K M p
    rw [X2_thereBelow_L21, if_neg (by rw [J_leN (by omega) (by omega)]; omega), at_in hm (by omega)]
    simp only [Option.bind_some, bnd]
    rw [J_succ, J_1, J_sub, J_add]
    have := thereBelow_L hm hM hM2 he hc d n (p + 1) (by omega) (by omega)
    have h2 := cU_take1 K M p (hM2 p (by omega))
    rw [show ((c + (cU K M p).length : Nat) : Int) + (1 - M.getD p 0) = ((c + (cU K M (p + 1)).length : Nat) : Int) by omega]
    exact this
theorem thereBelow_J (hF : 2000 ≤ F) {K M B S : List Int} {bd : Int} {zk zm zb : zN} {x : Int} (h : LK K M B S bd) (hk : RN 256 zk K) (hm : RN 256 zm M) (hb : RN 16 zb B) (hx : -2147483648 ≤ x ∧ x < 2147483648) : X2_thereBelow F zk zm zb (J x) = some (J (thN K M B x)) := by
  obtain ⟨h1, h2, h3, h4, h5, h6, h7, h8, h9, h10, h11⟩ := h
  have hcl := cl_le K x
  have hcb := cl_le B x
  unfold X2_thereBelow
  rw [below_J hF hk h1 hx]
  simp only [Option.bind_some]
  rw [below_J hF hb h5 hx]
  simp only [Option.bind_some]
  have := thereBelow_L (F := F) hm h3 h4 hcl (c := cl B x) (by omega) (cl K x) F 0 (by omega) (by omega)
  rw [show cU K M 0 = [] from rfl] at this
  have this' : X2_thereBelow_L21 zm F (J (cl K x)) F 0 (J (cl B x)) = some (J ((cl B x + (cU K M (cl K x)).length : Nat) : Int)) := this
  rw [this']
  simp only [Option.bind_some]
  have h12 := cU_below (M := M) (x := x) h1 (K.length - cl K x) (by omega)
  rw [show cl K x + (K.length - cl K x) = K.length by omega] at h12
  unfold thN
  rw [h12, Nat.add_comm]
theorem keysThere_J {K M B S : List Int} {bd : Int} {zk zb : zN} (h : LK K M B S bd) (hk : RN 256 zk K) (hb : RN 16 zb B) : X2_keysThere F zk zb (J ((K.length : Int) - (cU K M K.length).length)) = some (J (allN K M B)) := by
  unfold X2_keysThere X2_allKeys
  rw [length_J hk, length_J hb]
  simp only [Option.bind_some]
  rw [J_add, J_sub]
  unfold allN
  congr 2
  omega
theorem RN_nil {N : Nat} (hN : N ≤ 256) (f : Nat → Int32) : RN N (f, 0) [] := ⟨by simp, hN, by simp [J_0], fun i hi => by simp at hi, fun i hi => by simp at hi⟩
theorem gather0_J (hF : 2000 ≤ F) {K M B S : List Int} {bd : Int} {zk zm zb : zN} (zf : zN) (h : LK K M B S bd) (hk : RN 256 zk K) (hm : RN 256 zm M) (hb : RN 16 zb B) : ∃ lost zf' T, X2_gather F zk zm zb (zf.1, 0) (J (0 : Nat)) (J K.length) (J (0 : Nat)) (J B.length) = some (lost, zf') ∧ RN 256 zf' T ∧ Srt T ∧ ∀ x, x ∈ T ↔ GM K M 0 K.length x ∨ BM B 0 B.length x := by
  obtain ⟨h1, h2, h3, h4, h5, h6, h7, h8, h9, h10, h11⟩ := h
  have z1 := RN_nil (N := 256) (Nat.le_refl _) zf.1
  have hcap : ([] : List Int).length + (K.length - 0) + (B.length - 0) ≤ 256 := by simp; omega
  obtain ⟨lost, zf', T, a1, a2, a3, a4, a5, a6⟩ := gather_J hF (p := 0) (to := K.length) (l := 0) (t := B.length) hk hm hb h1 h2 h5 h6 h3 (Nat.le_refl _) (Nat.le_refl _) h7 (Nat.zero_le _) (Nat.zero_le _) z1 Srt_nil (fun i hi => by simp at hi) (fun i hi => by simp at hi) hcap
  refine ⟨lost, zf', T, a1, a2, a3, fun x => ?_⟩
  rw [a4]
  exact ⟨fun q => q.elim (fun q => by simp at q) id, Or.inr⟩
theorem J_00 : J ((0 : Nat) : Int) = 0 := by decide +kernel
theorem gather0_Z (hF : 2000 ≤ F) {K M B S : List Int} {bd : Int} {zk zm zb : zN} (zf : zN) (h : LK K M B S bd) (hk : RN 256 zk K) (hm : RN 256 zm M) (hb : RN 16 zb B) : ∃ lost zf' T, X2_gather F zk zm zb (zf.1, 0) 0 (J K.length) 0 (J B.length) = some (lost, zf') ∧ RN 256 zf' T ∧ Srt T ∧ ∀ x, x ∈ T ↔ GM K M 0 K.length x ∨ BM B 0 B.length x := by
  have := gather0_J hF zf h hk hm hb
  rw [J_00] at this
  exact this
theorem gatherAll_J (hF : 2000 ≤ F) {K M B S : List Int} {bd : Int} {zk zm zb : zN} (zf : zN) (h : LK K M B S bd) (hk : RN 256 zk K) (hm : RN 256 zm M) (hb : RN 16 zb B) : ∃ zf' T, X2_gatherAll F zk zm zb zf = some zf' ∧ RN 256 zf' T ∧ Srt T ∧ ∀ x, x ∈ T ↔ GM K M 0 K.length x ∨ BM B 0 B.length x := by
  obtain ⟨lost, zf', T, a1, a2⟩ := gather0_Z hF zf h hk hm hb
  refine ⟨zf', T, ?_, a2⟩
  have e : X2_gatherAll F zk zm zb zf = Option.bind (X2_gather F zk zm zb (zf.1, 0) 0 (J K.length) 0 (J B.length)) fun x => some x.2 := by
    have e1 := length_J (F := F) hk
    have e2 := length_J (F := F) hb
    unfold X2_gatherAll
    rw [e1, e2]
    rfl
  rw [e, a1]
  rfl
end MTH
