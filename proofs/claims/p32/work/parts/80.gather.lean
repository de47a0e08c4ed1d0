/-! the class gathers keys -/
section MGAT
variable {F : Nat}
def GM (K M : List Int) (lo hi : Nat) (x : Int) : Prop := ∃ j, lo ≤ j ∧ j < hi ∧ K.getD j 0 = x ∧ M.getD j 0 = 0
def BM (B : List Int) (lo hi : Nat) (x : Int) : Prop := ∃ j, lo ≤ j ∧ j < hi ∧ B.getD j 0 = x
theorem GM_step {K M : List Int} {lo hi : Nat} {x : Int} (h : lo < hi) : GM K M lo hi x ↔ (K.getD lo 0 = x ∧ M.getD lo 0 = 0) ∨ GM K M (lo + 1) hi x := by
  constructor
  · rintro ⟨j, h1, h2, h3, h4⟩
    by_cases e : j = lo
    · subst e
      exact Or.inl ⟨h3, h4⟩
    · exact Or.inr ⟨j, by omega, h2, h3, h4⟩
  · rintro (⟨h1, h2⟩ | ⟨j, h1, h2, h3⟩)
    · exact ⟨lo, Nat.le_refl _, h, h1, h2⟩
    · exact ⟨j, by omega, h2, h3⟩
theorem BM_step {B : List Int} {lo hi : Nat} {x : Int} (h : lo < hi) : BM B lo hi x ↔ B.getD lo 0 = x ∨ BM B (lo + 1) hi x := by
  constructor
  · rintro ⟨j, h1, h2, h3⟩
    by_cases e : j = lo
    · subst e
      exact Or.inl h3
    · exact Or.inr ⟨j, by omega, h2, h3⟩
  · rintro (h1 | ⟨j, h1, h2, h3⟩)
    · exact ⟨lo, Nat.le_refl _, h, h1⟩
    · exact ⟨j, by omega, h2, h3⟩
theorem GM_none {K M : List Int} {lo hi : Nat} {x : Int} (h : hi ≤ lo) : ¬ GM K M lo hi x := fun ⟨j, h1, h2, _⟩ => by omega
theorem BM_none {B : List Int} {lo hi : Nat} {x : Int} (h : hi ≤ lo) : ¬ BM B lo hi x := fun ⟨j, h1, h2, _⟩ => by omega
theorem GM_split {K M : List Int} {a b c : Nat} {x : Int} (h1 : a ≤ b) (h2 : b ≤ c) : GM K M a c x ↔ GM K M a b x ∨ GM K M b c x := by
  constructor
  · rintro ⟨j, q1, q2, q3⟩
    rcases Nat.lt_or_ge j b with q | q
    · exact Or.inl ⟨j, q1, q, q3⟩
    · exact Or.inr ⟨j, q, q2, q3⟩
  · rintro (⟨j, q1, q2, q3⟩ | ⟨j, q1, q2, q3⟩)
    · exact ⟨j, q1, by omega, q3⟩
    · exact ⟨j, by omega, q2, q3⟩
theorem BM_split {B : List Int} {a b c : Nat} {x : Int} (h1 : a ≤ b) (h2 : b ≤ c) : BM B a c x ↔ BM B a b x ∨ BM B b c x := by
  constructor
  · rintro ⟨j, q1, q2, q3⟩
    rcases Nat.lt_or_ge j b with q | q
    · exact Or.inl ⟨j, q1, q, q3⟩
    · exact Or.inr ⟨j, q, q2, q3⟩
  · rintro (⟨j, q1, q2, q3⟩ | ⟨j, q1, q2, q3⟩)
    · exact ⟨j, q1, by omega, q3⟩
    · exact ⟨j, by omega, q2, q3⟩
/-- the buffer's keys from the place l on that are less than a key, behind the fresh keys -/
theorem gather26_L {B : List Int} {zb : zN} {t : Nat} {key : Int} (hb : RN 16 zb B) (hsB : Srt B) (hrB : KR B) (ht : t ≤ B.length) (hkey : -1000000 ≤ key ∧ key ≤ 1000000) : ∀ (d n l : Nat) (zf : zN) (G : List Int), d < n → l + d = t → RN 256 zf G → Srt G → (∀ i, i < G.length → ∀ j, l ≤ j → j < t → G.getD i 0 < B.getD j 0) → G.length + d ≤ 256 → ∃ l' zf' G', X2_gather_L26 (J t) zb F (J key) n (J l) zf = some (J (l' : Nat), zf') ∧ RN 256 zf' G' ∧ Srt G' ∧ l ≤ l' ∧ l' ≤ t ∧ (∀ x, x ∈ G' ↔ x ∈ G ∨ BM B l l' x) ∧ G'.length + (t - l') ≤ 256 ∧ G'.length = G.length + (l' - l) ∧ (∀ j, l ≤ j → j < l' → B.getD j 0 < key) ∧ (l' < t → key ≤ B.getD l' 0)
  | d, 0, l, zf, G, h, _, _, _, _, _ => absurd h (Nat.not_lt_zero d)
  | 0, n + 1, l, zf, G, _, hd, hG, hs, hlow, hcap => by
    have hlb := hb.1
    refine ⟨l, zf, G, ?_, hG, hs, Nat.le_refl _, by omega, fun x => ⟨Or.inl, fun q => q.elim id (fun q => absurd q (BM_none (Nat.le_refl _)))⟩, by omega, by omega, fun j _ _ => by omega, fun _ => by omega⟩
    rw [X2_gather_L26, if_pos (by rw [J_leN (by omega) (by omega)]; omega)]
  | d + 1, n + 1, l, zf, G, h, hd, hG, hs, hlow, hcap => by
    have hlb := hb.1
    have hr := hrB l (by omega)
    rw [X2_gather_L26, if_neg (by rw [J_leN (by omega) (by omega)]; omega), at_in hb (by omega)]
    simp only [Option.bind_some]
    by_cases c : key ≤ B.getD l 0
    · rw [if_pos (by rw [J_le (by omega) (by omega)]; exact c)]
      exact ⟨l, zf, G, rfl, hG, hs, Nat.le_refl _, by omega, fun x => ⟨Or.inl, fun q => q.elim id (fun q => absurd q (BM_none (Nat.le_refl _)))⟩, by omega, by omega, fun j _ _ => by omega, fun _ => c⟩
    · rw [if_neg (by rw [J_le (by omega) (by omega)]; exact c)]
      obtain ⟨zf1, e1, hG1⟩ := push_J (F := F) hG (by omega) (x := B.getD l 0) (by omega)
      rw [e1]
      simp only [Option.bind_some, bnd]
      rw [J_succ]
      obtain ⟨l', zf', G', r1, r2, r3, r4, r5, r6, r7, r8, r9, r10⟩ := gather26_L hb hsB hrB ht hkey d n (l + 1) zf1 (G ++ [B.getD l 0]) (by omega) (by omega) hG1 (Srt_snoc hs (fun i hi => hlow i hi l (by omega) (by omega))) (fun i hi j hj1 hj2 => by
        simp at hi
        rw [getD_snoc]
        by_cases e : i < G.length
        · rw [if_pos e]
          exact hlow i e j (by omega) hj2
        · rw [if_neg e, if_pos (by omega)]
          exact hsB l j (by omega) (by omega)) (by simp; omega)
      simp at r8
      refine ⟨l', zf', G', r1, r2, r3, by omega, r5, fun x => ?_, r7, by omega, fun j hj1 hj2 => ?_, r10⟩
      · rw [r6, List.mem_append, BM_step (lo := l) (by omega)]
        simp only [List.mem_cons, List.not_mem_nil, or_false]
        rw [or_assoc, eq_comm]
      · by_cases e : j = l
        · subst e
          omega
        · exact r9 j (by omega) hj2
theorem gather9_L {K M B : List Int} {zk zm zb : zN} {t to : Nat} (hF : 2000 ≤ F) (hk : RN 256 zk K) (hm : RN 256 zm M) (hb : RN 16 zb B) (hsK : Srt K) (hrK : KR K) (hsB : Srt B) (hrB : KR B) (hM : M.length = K.length) (ht : t ≤ B.length) (hto : to ≤ K.length) (hne : ∀ i j, i < K.length → j < B.length → K.getD i 0 ≠ B.getD j 0) : ∀ (d n p l : Nat) (lost : Int32) (zf : zN) (G : List Int), d < n → p + d = to → l ≤ t → RN 256 zf G → Srt G → (∀ i, i < G.length → ∀ j, p ≤ j → j < to → G.getD i 0 < K.getD j 0) → (∀ i, i < G.length → ∀ j, l ≤ j → j < t → G.getD i 0 < B.getD j 0) → G.length + d + (t - l) ≤ 256 → (lost = 0 ∨ lost = 1) → ∃ l' lost' zf' G', X2_gather_L9 (J to) (J t) zk zm zb F n (J p) (J l) lost zf = some (J (l' : Nat), lost', zf') ∧ RN 256 zf' G' ∧ Srt G' ∧ l ≤ l' ∧ l' ≤ t ∧ (∀ x, x ∈ G' ↔ x ∈ G ∨ GM K M p to x ∨ BM B l l' x) ∧ G'.length + (t - l') ≤ 256 ∧ (∀ i, i < G'.length → ∀ j, l' ≤ j → j < t → G'.getD i 0 < B.getD j 0) ∧ (lost' = 0 ∨ lost' = 1) ∧ (lost' = 0 ↔ lost = 0 ∧ ∀ j, p ≤ j → j < to → M.getD j 0 = 0)
  | d, 0, p, l, lost, zf, G, h, _, _, _, _, _, _, _, _ => absurd h (Nat.not_lt_zero d)
  | 0, n + 1, p, l, lost, zf, G, _, hd, hlt, hG, hs, hlk, hlb, hcap, hlost => by
    have h1 := hk.1
    refine ⟨l, lost, zf, G, ?_, hG, hs, Nat.le_refl _, hlt, fun x => ⟨Or.inl, fun q => q.elim id (fun q => q.elim (fun q => absurd q (GM_none (by omega))) (fun q => absurd q (BM_none (Nat.le_refl _))))⟩, by omega, hlb, hlost, ⟨fun q => ⟨q, fun j _ _ => by omega⟩, fun q => q.1⟩⟩
    rw [X2_gather_L9, if_pos (by rw [J_leN (by omega) (by omega)]; omega)]
  | d + 1, n + 1, p, l, lost, zf, G, h, hd, hlt, hG, hs, hlk, hlb, hcap, hlost => by
    have h1 := hk.1
    have h2 := hb.1
    have hrk := hrK p (by omega)
    obtain ⟨l1, zf1, G1, r1, r2, r3, r4, r5, r6, r7, r8, r9, r10⟩ := gather26_L (F := F) hb hsB hrB ht hrk (t - l) F l zf G (by omega) (by omega) hG hs hlb (by omega)
    rw [X2_gather_L9, if_neg (by rw [J_leN (by omega) (by omega)]; omega), at_in hk (by omega)]
    simp only [Option.bind_some]
    rw [r1]
    simp only [Option.bind_some]
    rw [at_in hm (by omega)]
    simp only [Option.bind_some]
    have hG1K : ∀ i, i < G1.length → ∀ j, p ≤ j → j < to → G1.getD i 0 < K.getD j 0 := by
      intro i hi j hj1 hj2
      rcases (r6 _).mp (getD_mem hi (d := 0)) with q | ⟨b, q1, q2, q3⟩
      · obtain ⟨i0, hi0, e0⟩ := mem_getD.mp q
        rw [← e0]
        exact hlk i0 hi0 j hj1 hj2
      · rw [← q3]
        have a1 := r9 b q1 q2
        rcases Nat.lt_or_ge p j with q | q
        · have := hsK p j q (by omega)
          omega
        · rw [show j = p by omega]; exact a1
    have hG1B : ∀ i, i < G1.length → ∀ j, l1 ≤ j → j < t → G1.getD i 0 < B.getD j 0 := by
      intro i hi j hj1 hj2
      rcases (r6 _).mp (getD_mem hi (d := 0)) with q | ⟨b, q1, q2, q3⟩
      · obtain ⟨i0, hi0, e0⟩ := mem_getD.mp q
        rw [← e0]
        exact hlb i0 hi0 j (by omega) hj2
      · rw [← q3]
        exact hsB b j (by omega) (by omega)
    have hkB : ∀ j, l1 ≤ j → j < t → K.getD p 0 < B.getD j 0 := by
      intro j hj1 hj2
      have a1 := r10 (by omega)
      have a2 := hne p l1 (by omega) (by omega)
      rcases Nat.lt_or_ge l1 j with q | q
      · have := hsB l1 j q (by omega)
        omega
      · rw [show j = l1 by omega]; omega
    by_cases c : M.getD p 0 = 0
    · rw [c]
      rw [if_pos J_0.symm]
      obtain ⟨zf2, e2, hG2⟩ := push_J (F := F) r2 (by omega) (x := K.getD p 0) (by omega)
      rw [e2]
      simp only [Option.bind_some, bnd]
      rw [J_succ]
      obtain ⟨l', lost', zf', G', s1, s2, s3, s4, s5, s6, s7, s8, s9, s10⟩ := gather9_L hF hk hm hb hsK hrK hsB hrB hM ht hto hne d n (p + 1) l1 lost zf2 (G1 ++ [K.getD p 0]) (by omega) (by omega) r5 hG2 (Srt_snoc r3 (fun i hi => hG1K i hi p (by omega) (by omega))) (fun i hi j hj1 hj2 => by
        simp at hi
        rw [getD_snoc]
        by_cases e : i < G1.length
        · rw [if_pos e]
          exact hG1K i e j (by omega) hj2
        · rw [if_neg e, if_pos (by omega)]
          exact hsK p j (by omega) (by omega)) (fun i hi j hj1 hj2 => by
        simp at hi
        rw [getD_snoc]
        by_cases e : i < G1.length
        · rw [if_pos e]
          exact hG1B i e j hj1 hj2
        · rw [if_neg e, if_pos (by omega)]
          exact hkB j hj1 hj2) (by simp; omega) hlost
      refine ⟨l', lost', zf', G', s1, s2, s3, by omega, s5, fun x => ?_, s7, s8, s9, ?_⟩
      · rw [s6, List.mem_append, r6, GM_step (lo := p) (by omega), BM_split (a := l) (b := l1) (c := l') r4 s4]
        simp only [List.mem_cons, List.not_mem_nil, or_false]
        constructor
        · rintro ((q | q) | q | q)
          · rcases q with q | q
            · exact Or.inl q
            · exact Or.inr (Or.inr (Or.inl q))
          · exact Or.inr (Or.inl (Or.inl ⟨q.symm, c⟩))
          · exact Or.inr (Or.inl (Or.inr q))
          · exact Or.inr (Or.inr (Or.inr q))
        · rintro (q | (q | q) | (q | q))
          · exact Or.inl (Or.inl (Or.inl q))
          · exact Or.inl (Or.inr q.1.symm)
          · exact Or.inr (Or.inl q)
          · exact Or.inl (Or.inl (Or.inr q))
          · exact Or.inr (Or.inr q)
      · rw [s10]
        refine ⟨fun q => ⟨q.1, fun j hj1 hj2 => ?_⟩, fun q => ⟨q.1, fun j hj1 hj2 => q.2 j (by omega) hj2⟩⟩
        by_cases e : j = p
        · rw [e]; exact c
        · exact q.2 j (by omega) hj2
    · have hmr := hm.2.2.2.2 p (by omega)
      rw [if_neg (by rw [J_0, J_eq (by omega) (by omega)]; exact c)]
      simp only [bnd]
      rw [J_succ]
      obtain ⟨l', lost', zf', G', s1, s2, s3, s4, s5, s6, s7, s8, s9, s10⟩ := gather9_L hF hk hm hb hsK hrK hsB hrB hM ht hto hne d n (p + 1) l1 1 zf1 G1 (by omega) (by omega) r5 r2 r3 (fun i hi j hj1 hj2 => hG1K i hi j (by omega) hj2) hG1B (by omega) (Or.inr rfl)
      refine ⟨l', lost', zf', G', s1, s2, s3, by omega, s5, fun x => ?_, s7, s8, s9, ?_⟩
      · rw [s6, r6, GM_step (lo := p) (by omega), BM_split (a := l) (b := l1) (c := l') r4 s4]
        constructor
        · rintro ((q | q) | q | q)
          · exact Or.inl q
          · exact Or.inr (Or.inr (Or.inl q))
          · exact Or.inr (Or.inl (Or.inr q))
          · exact Or.inr (Or.inr (Or.inr q))
        · rintro (q | (q | q) | (q | q))
          · exact Or.inl (Or.inl q)
          · exact absurd q.2 c
          · exact Or.inr (Or.inl q)
          · exact Or.inl (Or.inr q)
          · exact Or.inr (Or.inr q)
      · rw [s10]
        refine ⟨fun q => absurd q.1 (by decide), fun q => absurd (q.2 p (by omega) (by omega)) c⟩
theorem gather102_L {B : List Int} {zb : zN} {t : Nat} (hb : RN 16 zb B) (hsB : Srt B) (hrB : KR B) (ht : t ≤ B.length) : ∀ (d n l : Nat) (zf : zN) (G : List Int), d < n → l + d = t → RN 256 zf G → Srt G → (∀ i, i < G.length → ∀ j, l ≤ j → j < t → G.getD i 0 < B.getD j 0) → G.length + d ≤ 256 → ∃ zf' G', X2_gather_L102 (J t) zb F n (J l) zf = some zf' ∧ RN 256 zf' G' ∧ Srt G' ∧ ∀ x, x ∈ G' ↔ x ∈ G ∨ BM B l t x
  | d, 0, l, zf, G, h, _, _, _, _, _ => absurd h (Nat.not_lt_zero d)
  | 0, n + 1, l, zf, G, _, hd, hG, hs, hlow, hcap => by
    have hlb := hb.1
    refine ⟨zf, G, ?_, hG, hs, fun x => ⟨Or.inl, fun q => q.elim id (fun q => absurd q (BM_none (by omega)))⟩⟩
    rw [X2_gather_L102, if_pos (by rw [J_leN (by omega) (by omega)]; omega)]
  | d + 1, n + 1, l, zf, G, h, hd, hG, hs, hlow, hcap => by
    have hlb := hb.1
    have hr := hrB l (by omega)
    rw [X2_gather_L102, if_neg (by rw [J_leN (by omega) (by omega)]; omega), at_in hb (by omega)]
    simp only [Option.bind_some]
    obtain ⟨zf1, e1, hG1⟩ := push_J (F := F) hG (by omega) (x := B.getD l 0) (by omega)
    rw [e1]
    simp only [Option.bind_some, bnd]
    rw [J_succ]
    obtain ⟨zf', G', r1, r2, r3, r4⟩ := gather102_L hb hsB hrB ht d n (l + 1) zf1 (G ++ [B.getD l 0]) (by omega) (by omega) hG1 (Srt_snoc hs (fun i hi => hlow i hi l (by omega) (by omega))) (fun i hi j hj1 hj2 => by
      simp at hi
      rw [getD_snoc]
      by_cases e : i < G.length
      · rw [if_pos e]
        exact hlow i e j (by omega) hj2
      · rw [if_neg e, if_pos (by omega)]
        exact hsB l j (by omega) (by omega)) (by simp; omega)
    refine ⟨zf', G', r1, r2, r3, fun x => ?_⟩
    rw [r4, List.mem_append, BM_step (lo := l) (by omega)]
    simp only [List.mem_cons, List.not_mem_nil, or_false]
    rw [or_assoc, eq_comm]
theorem gather_J (hF : 2000 ≤ F) {K M B G : List Int} {zk zm zb zf : zN} {p l t to : Nat} (hk : RN 256 zk K) (hm : RN 256 zm M) (hb : RN 16 zb B) (hsK : Srt K) (hrK : KR K) (hsB : Srt B) (hrB : KR B) (hM : M.length = K.length) (ht : t ≤ B.length) (hto : to ≤ K.length) (hne : ∀ i j, i < K.length → j < B.length → K.getD i 0 ≠ B.getD j 0) (hp : p ≤ to) (hl : l ≤ t) (hG : RN 256 zf G) (hs : Srt G) (hlk : ∀ i, i < G.length → ∀ j, p ≤ j → j < to → G.getD i 0 < K.getD j 0) (hlb : ∀ i, i < G.length → ∀ j, l ≤ j → j < t → G.getD i 0 < B.getD j 0) (hcap : G.length + (to - p) + (t - l) ≤ 256) : ∃ lost zf' G', X2_gather F zk zm zb zf (J p) (J to) (J l) (J t) = some (lost, zf') ∧ RN 256 zf' G' ∧ Srt G' ∧ (∀ x, x ∈ G' ↔ x ∈ G ∨ GM K M p to x ∨ BM B l t x) ∧ (lost = 0 ∨ lost = 1) ∧ (lost = 0 ↔ ∀ j, p ≤ j → j < to → M.getD j 0 = 0) := by
  have h1 := hk.1
  obtain ⟨l', lost', zf1, G1, s1, s2, s3, s4, s5, s6, s7, s8, s9, s10⟩ := gather9_L hF hk hm hb hsK hrK hsB hrB hM ht hto hne (to - p) F p l 0 zf G (by omega) (by omega) hl hG hs hlk hlb hcap (Or.inl rfl)
  obtain ⟨zf', G', r1, r2, r3, r4⟩ := gather102_L (F := F) hb hsB hrB ht (t - l') F l' zf1 G1 (by have := hb.1; omega) (by omega) s2 s3 s8 s7
  refine ⟨lost', zf', G', ?_, r2, r3, fun x => ?_, s9, ?_⟩
  · unfold X2_gather
    rw [s1]
    simp only [Option.bind_some]
    rw [r1]
    simp only [Option.bind_some]
    rw [if_pos s9]
  · rw [r4, s6, BM_split (a := l) (b := l') (c := t) s4 s5, or_assoc, or_assoc]
  · rw [s10]
    exact ⟨fun q => q.2, fun q => ⟨rfl, q⟩⟩
end MGAT
