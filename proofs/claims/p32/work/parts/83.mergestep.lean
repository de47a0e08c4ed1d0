/-! the loop over all pieces, in the class and in the reference -/
section MSTEP
variable {F : Nat}
theorem Srt_append {a b : List Int} (ha : Srt a) (hb : Srt b) (h : ∀ x, x ∈ a → ∀ y, y ∈ b → x < y) : Srt (a ++ b) := by
  induction a with
  | nil => exact hb
  | cons x a ih =>
    have h1 := Srt_cons.mp ha
    rw [List.cons_append]
    refine Srt_cons.mpr ⟨fun y hy => ?_, ih h1.2 (fun z hz => h z (by simp [hz]))⟩
    rcases List.mem_append.mp hy with q | q
    · exact h1.1 y q
    · exact h x (by simp) y q
def MI (K M B S : List Int) (bd : Int) (i : Nat) (G C : List Int) : Prop := Srt G ∧ KR G ∧ SOK C G.length ∧ PF bd G C G.length ∧ ∀ x, x ∈ G ↔ GM K M 0 (posK S K.length i) x ∨ BM B 0 (posB K S B i) x
/-- what is left as it is -/
def QU (K M B S : List Int) (i : Nat) : Prop := (∀ j, posK S K.length i ≤ j → j < posK S K.length (i + 1) → M.getD j 0 = 0) ∧ ¬ posB K S B i < posB K S B (i + 1)
theorem mstep (hF : 2000 ≤ F) {K M B S G C : List Int} {bd : Int} {i : Nat} {zk zm zb zs zf zg : zN} (zt : zT) (sp : Int32) (h : LK K M B S bd) (hk : RN 256 zk K) (hm : RN 256 zm M) (hb : RN 16 zb B) (hsr : RN 256 zs S) (hi : i < S.length) (hI : MI K M B S bd i G C) (hzf : RN 256 zf G) (hzg : RN 256 zg C) : ∃ G' C', MI K M B S bd (i + 1) G' C' ∧ (∃ zt' zf' zg', X2_mergePiece F zk zm zb zs zt zf zg (J bd) sp (J i) = some (zt', zf', zg', sp + J (C'.length - C.length - 1 : Nat)) ∧ RN 256 zf' G' ∧ RN 256 zg' C') ∧ C.length ≤ C'.length ∧ G.length ≤ G'.length ∧ (∀ x, x ∈ G' ↔ x ∈ G ∨ GM K M (posK S K.length i) (posK S K.length (i + 1)) x ∨ BM B (posB K S B i) (posB K S B (i + 1)) x) ∧ (∀ x, x ∈ G → ∀ j, posK S K.length i ≤ j → j < K.length → x < K.getD j 0) ∧ (∀ x, x ∈ G → ∀ j, posB K S B i ≤ j → j < B.length → x < B.getD j 0) ∧ PF bd G' C G.length ∧ (QU K M B S i → G.length < G'.length ∧ C' = C ++ [(G.length : Int)]) ∧ (¬ QU K M B S i → C' = cutF bd G' C.length C G.length (G'.length - G.length)) := by
  obtain ⟨f1, f2, f3, f4, f5, f6, f7⟩ := pos_facts h hi
  obtain ⟨h1, h2, h3, h4, h5, h6, h7, h8, h9, h10, h11⟩ := h
  obtain ⟨g1, g2, g3, g4, g5⟩ := hI
  have hse := SOK_lt h9 hi
  have hpf := h10 i hi
  unfold slpN at hpf
  rw [← f2] at hse
  rw [← f2, ← f1] at hpf
  rw [← f1] at hse
  obtain ⟨s, hs⟩ : ∃ s, s = posK S K.length i := ⟨_, rfl⟩
  obtain ⟨e, he⟩ : ∃ e, e = posK S K.length (i + 1) := ⟨_, rfl⟩
  obtain ⟨lo, hlo⟩ : ∃ lo, lo = posB K S B i := ⟨_, rfl⟩
  obtain ⟨hi', hhi⟩ : ∃ hi', hi' = posB K S B (i + 1) := ⟨_, rfl⟩
  rw [← hs] at f5 f6 g5 hse hpf f1
  rw [← he] at hse hpf f2
  rw [← hlo] at f3 f5 f6 f7 g5
  rw [← hhi] at f3 f4 f7
  -- what is known of the fresh keys
  have hlk : ∀ x, x ∈ G → ∀ j, s ≤ j → j < K.length → x < K.getD j 0 := by
    intro x hx j hj1 hj2
    rcases (g5 x).mp hx with ⟨a, q1, q2, q3, q4⟩ | ⟨a, q1, q2, q3⟩
    · rw [← q3]
      exact h1 a j (by omega) hj2
    · rw [← q3]
      exact f6 j a hj1 hj2 q2
  have hlb : ∀ x, x ∈ G → ∀ j, lo ≤ j → j < B.length → x < B.getD j 0 := by
    intro x hx j hj1 hj2
    rcases (g5 x).mp hx with ⟨a, q1, q2, q3, q4⟩ | ⟨a, q1, q2, q3⟩
    · rw [← q3]
      exact f5 a j q2 hj1 hj2
    · rw [← q3]
      exact h5 a j (by omega) hj2
  have hcap : G.length ≤ s + lo := by
    have := Srt_sub_len (L := sl K 0 s ++ sl B 0 lo) g1 (fun x hx => by
      rw [List.mem_append, sl_mem, sl_mem]
      rcases (g5 x).mp hx with ⟨a, q1, q2, q3, q4⟩ | ⟨a, q1, q2, q3⟩
      · exact Or.inl ⟨a, q1, by omega, q3⟩
      · exact Or.inr ⟨a, q1, by omega, q3⟩)
    rw [List.length_append, sl_len, sl_len] at this
    exact this
  -- the class gathers
  obtain ⟨lost, zf', G1, a1, a2, a3, a4, a5, a6⟩ := gather_J hF (p := s) (to := e) (l := lo) (t := hi') hk hm hb h1 h2 h5 h6 h3 f4 hse.2 h7 (by omega) f3 hzf g1 (fun a ha j hj1 hj2 => hlk _ (getD_mem ha) j hj1 (by omega)) (fun a ha j hj1 hj2 => hlb _ (getD_mem ha) j hj1 (by omega)) (by omega)
  have hG13 : G1 = G1 := rfl
  have c4 : KR G1 := KR_mem.mpr (fun x hx => by
    rcases (a4 x).mp hx with q | ⟨j, q1, q2, q3, q4⟩ | ⟨j, q1, q2, q3⟩
    · exact KR_mem.mp g2 x q
    · rw [← q3]
      exact h2 j (by omega)
    · rw [← q3]
      exact h6 j (by omega))
  have hmem : ∀ x, x ∈ G1 ↔ GM K M 0 e x ∨ BM B 0 hi' x := by
    intro x
    rw [a4, g5, GM_split (a := 0) (b := s) (c := e) (by omega) (by omega), BM_split (a := 0) (b := lo) (c := hi') (by omega) f3]
    constructor
    · rintro ((q | q) | q | q)
      · exact Or.inl (Or.inl q)
      · exact Or.inr (Or.inl q)
      · exact Or.inl (Or.inr q)
      · exact Or.inr (Or.inr q)
    · rintro ((q | q) | (q | q))
      · exact Or.inl (Or.inl q)
      · exact Or.inr (Or.inl q)
      · exact Or.inl (Or.inr q)
      · exact Or.inr (Or.inr q)
  obtain ⟨R, hR⟩ := prefix_of g1 a3 (fun x hx => (a4 x).mpr (Or.inl hx)) (fun y hy hny x hx => by
    rcases (a4 y).mp hy with q | ⟨a, q1, q2, q3, q4⟩ | ⟨a, q1, q2, q3⟩
    · exact absurd q hny
    · rw [← q3]
      exact hlk x hx a q1 (by omega)
    · rw [← q3]
      exact hlb x hx a q1 (by omega))
  have hpre : ∀ j, j < G.length → gd G j = gd G1 j := fun j hj => by
    unfold gd
    rw [hR, getD_app_l hj]
  have hPF : PF bd G1 C G.length := fun a ha => by
    rw [← slpN_cong hpre g3 ha]
    exact g4 a ha
  have hlen3 : G.length ≤ G1.length := by rw [hR]; simp
  have hcl := SOK_len g3
  -- the class's call, up to the gathering
  have e20 : (if J (i : Int) = 0 then some (0 : Int32) else Option.bind (X2_firstOf F zk zs (J i)) fun r14 => Option.bind (X0_below F 16 zb r14) fun r17 => some r17) = some (J (lo : Nat)) := by
    rw [hlo]
    unfold posB
    by_cases c0 : i = 0
    · rw [if_pos (by rw [c0]; exact J_0.symm), if_pos c0]
      rfl
    · have := hsr.len
      rw [if_neg (by rw [J_0, J_eq (by omega) (by omega)]; omega), if_neg c0, if_pos hi, firstOf_J hk hsr h9 hi]
      simp only [Option.bind_some]
      have := h9.2.1 i hi
      have := h2 (S.getD i 0).toNat (by omega)
      rw [below_J hF hb h5 (by omega)]
      rfl
  have e58 : ∀ {α : Type} (k : Int32 → Option α), (Option.bind (X0_has F 256 zs (J i + 1)) fun r28 => Option.bind (α := Int32) (if r28 = 0 then Option.bind (X0_length F zb) fun r55 => some r55 else Option.bind (X2_firstOf F zk zs (J i + 1)) fun r42 => Option.bind (X0_below F 16 zb r42) fun r45 => some r45) k) = k (J (hi' : Nat)) := by
    intro α k
    have hsl := hsr.len
    rw [hhi, J_succ]
    unfold posB
    rw [if_neg (show ¬ i + 1 = 0 by omega)]
    by_cases c : i + 1 < S.length
    · have := h9.2.1 _ c
      rw [has_J hsr (by omega), if_pos (by omega)]
      simp only [Option.bind_some]
      rw [if_neg (by decide), firstOf_J hk hsr h9 c]
      simp only [Option.bind_some]
      have := h2 (S.getD (i + 1) 0).toNat (by omega)
      rw [below_J hF hb h5 (by omega), if_pos c]
      rfl
    · rw [has_J hsr (by omega), if_neg (by omega)]
      simp only [Option.bind_some]
      rw [if_pos (by decide), length_J hb, if_neg c]
      rfl
  have hSi := h9.2.1 i hi
  have cls : X2_mergePiece F zk zm zb zs zt zf zg (J bd) sp (J i) = (if lost = 0 then (if hi' ≤ lo then Option.bind (X0_push F 256 zg (J G.length)) fun zg114 => some (zt, zf', zg114, sp) else Option.bind (X2_cutFresh F zt zf' zg (J bd) sp (J G.length)) fun x => some (x.1, zf', x.2.1, x.2.2)) else Option.bind (X2_cutFresh F zt zf' zg (J bd) sp (J G.length)) fun x => some (x.1, zf', x.2.1, x.2.2)) := by
    have hbl := hb.1
    unfold X2_mergePiece
    rw [e20]
    simp only [Option.bind_some]
    rw [e58, length_J hzf, at_in hsr hi, endOf_J hk hsr h9 hi, ← f2]
    simp only [Option.bind_some]
    rw [show S.getD i 0 = (s : Int) by omega, a1]
    simp only [Option.bind_some]
    simp (disch := omega) only [J_leN]
  by_cases Q : (∀ j, s ≤ j → j < e → M.getD j 0 = 0) ∧ ¬ lo < hi'
  · -- the piece stays as it is
    have hQ : QU K M B S i := by
      unfold QU
      rw [← hs, ← he, ← hlo, ← hhi]
      exact Q
    have hl0 : lost = 0 := a6.mpr Q.1
    have hG1 : G1 = G ++ sl K s (e - s) := by
      refine Srt_ext a3 (Srt_append g1 (fun a b hab hb => ?_) (fun x hx y hy => ?_)) (fun x => ?_)
      · rw [sl_len] at hb
        rw [sl_getD _ _ _ _ (by omega), sl_getD _ _ _ _ hb]
        exact h1 (s + a) (s + b) (by omega) (by omega)
      · obtain ⟨j, q1, q2, q3⟩ := (sl_mem K s (e - s) y).mp hy
        rw [← q3]
        exact hlk x hx j q1 (by omega)
      · rw [a4, List.mem_append, sl_mem]
        constructor
        · rintro (q | ⟨a, q1, q2, q3, q4⟩ | ⟨a, q1, q2, q3⟩)
          · exact Or.inl q
          · exact Or.inr ⟨a, q1, by omega, q3⟩
          · omega
        · rintro (q | ⟨a, q1, q2, q3⟩)
          · exact Or.inl q
          · exact Or.inr (Or.inl ⟨a, q1, by omega, q3, Q.1 a q1 (by omega)⟩)
    have hl3 : G1.length = G.length + (e - s) := by rw [hG1, List.length_append, sl_len]
    have hSok := SOK_mono (SOK_snoc g3) (by simp) (show G.length + 1 ≤ G1.length by omega)
    have hfit : fitq (rng bd (gd G1) G.length (e - 1 - s)) := by
      rw [rng_shift (o' := s) (g := gd K) _ (fun t ht => by
        show G1.getD (G.length + t) 0 = _
        rw [hG1, getD_app_r (by omega), show G.length + t - G.length = t by omega, sl_getD _ _ _ _ (by omega)])]
      exact hpf
    have hPF2 := PF_more (m := G1.length) (PF_snoc hPF) (by simp) (by rw [lastS_snoc, show G1.length - 1 - G.length = e - 1 - s by omega]; exact hfit)
    obtain ⟨zg', p1, p2⟩ := push_J (F := F) hzg (by have := hzf.len; omega) (x := (G.length : Int)) (by omega)
    refine ⟨G1, C ++ [(G.length : Int)], ⟨a3, c4, hSok, hPF2, by rw [← he, ← hhi]; exact hmem⟩, ⟨zt, zf', zg', ?_, a2, p2⟩, by simp, by omega, by rw [← hs, ← he, ← hlo, ← hhi]; exact a4, by rw [← hs]; exact hlk, by rw [← hlo]; exact hlb, hPF, fun _ => ⟨by omega, rfl⟩, fun q => absurd hQ q⟩
    rw [cls, if_pos hl0, if_pos (by omega), p1]
    simp only [Option.bind_some]
    rw [show (C ++ [(G.length : Int)]).length - C.length - 1 = 0 by simp]
    rw [show sp + J ((0 : Nat) : Int) = sp from Int32.add_zero sp]
  · -- the piece is cut anew
    have hQ : ¬ QU K M B S i := by
      unfold QU
      rw [← hs, ← he, ← hlo, ← hhi]
      exact Q
    obtain ⟨zt', zg', d1, d2⟩ := cutFresh_J (zt := zt) hF sp a2 a3 c4 h11 hlen3 hzg g3 hPF
    have hcf := cutF_ok (c0 := C.length) (G1.length - G.length) G.length C g3 hPF (Nat.le_refl _) (Or.inr rfl)
    rw [show G.length + (G1.length - G.length) = G1.length by omega] at hcf
    refine ⟨G1, cutF bd G1 C.length C G.length (G1.length - G.length), ⟨a3, c4, hcf.1, hcf.2.1, by rw [← he, ← hhi]; exact hmem⟩, ⟨zt', zf', zg', ?_, a2, d2⟩, hcf.2.2, hlen3, by rw [← hs, ← he, ← hlo, ← hhi]; exact a4, by rw [← hs]; exact hlk, by rw [← hlo]; exact hlb, hPF, fun q => absurd q hQ, fun _ => rfl⟩
    rw [cls, d1]
    by_cases c : lost = 0
    · rw [if_pos c, if_neg (fun q => Q ⟨a6.mp c, by omega⟩)]
      rfl
    · rw [if_neg c]
      rfl
end MSTEP
