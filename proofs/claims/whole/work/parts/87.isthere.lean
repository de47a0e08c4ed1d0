/-! whether a key is there, and which key has a place -/
section MIS
variable {F : Nat}
theorem mem_cl {l : List Int} {x : Int} (hs : Srt l) : x ∈ l ↔ cl l x < l.length ∧ l.getD (cl l x) 0 = x := by
  constructor
  · intro h
    obtain ⟨i, hi, e⟩ := mem_getD.mp h
    have e2 : i = cl l x := cl_uniq hs (by omega) (fun j hj => by
      have := hs j i hj hi
      omega) (fun j hj1 hj2 => by
      rcases Nat.lt_or_ge i j with q | q
      · have := hs i j q hj2
        omega
      · rw [show j = i by omega]; omega)
    rw [← e2]
    exact ⟨hi, e⟩
  · rintro ⟨h1, h2⟩
    rw [← h2]
    exact getD_mem h1
def TH (K M B : List Int) (x : Int) : Prop := x ∈ B ∨ GM K M 0 K.length x
theorem GM_cl {K M : List Int} {x : Int} (hs : Srt K) (h : x ∈ K) : GM K M 0 K.length x ↔ M.getD (cl K x) 0 = 0 := by
  have h1 := (mem_cl hs).mp h
  constructor
  · rintro ⟨j, q1, q2, q3, q4⟩
    have : j = cl K x := by
      rcases Nat.lt_trichotomy j (cl K x) with q | q | q
      · have := hs j (cl K x) q h1.1
        omega
      · exact q
      · have := hs (cl K x) j q q2
        omega
    rw [← this]
    exact q4
  · intro q
    exact ⟨cl K x, Nat.zero_le _, h1.1, h1.2, q⟩
theorem GM_in {K M : List Int} {x : Int} {n : Nat} (h : GM K M 0 n x) (hn : n ≤ K.length) : x ∈ K := by
  obtain ⟨j, q1, q2, q3, q4⟩ := h
  rw [← q3]
  exact getD_mem (by omega)
theorem ixOf_in {l : List Int} {x : Int} (hs : Srt l) (h : x ∈ l) : ixOf l x = cl l x := by
  unfold ixOf
  rw [if_pos ((mem_cl hs).mp h)]
theorem ixOf_out {l : List Int} {x : Int} (hs : Srt l) (h : ¬ x ∈ l) : ixOf l x = -1 := by
  unfold ixOf
  rw [if_neg (fun q => h ((mem_cl hs).mpr q))]
theorem LK_disj {K M B S : List Int} {bd : Int} (h : LK K M B S bd) {x : Int} (h1 : x ∈ K) (h2 : x ∈ B) : False := by
  obtain ⟨i, hi, e1⟩ := mem_getD.mp h1
  obtain ⟨j, hj, e2⟩ := mem_getD.mp h2
  exact h.2.2.2.2.2.2.1 i j hi hj (by omega)
theorem isThere_J (hF : 2000 ≤ F) {K M B S : List Int} {bd : Int} {zk zm zb : zN} {x : Int} (h : LK K M B S bd) (hk : RN 256 zk K) (hm : RN 256 zm M) (hb : RN 16 zb B) (hx : -2147483648 ≤ x ∧ x < 2147483648) : (TH K M B x → X2_isThere F zk zm zb (J x) = some 1) ∧ (¬ TH K M B x → X2_isThere F zk zm zb (J x) = some 0) := by
  have hd := fun q1 q2 => LK_disj h (x := x) q1 q2
  obtain ⟨h1, h2, h3, h4, h5, h6, h7, h8, h9, h10, h11⟩ := h
  have hcl := cl_le K x
  have hcb := cl_le B x
  unfold X2_isThere
  rw [indexOf_J hF hk h1 hx]
  simp only [Option.bind_some]
  by_cases c : x ∈ K
  · have hc := (mem_cl h1).mp c
    rw [ixOf_in h1 c, if_neg (by rw [J_m1, J_eq (by omega) (by omega)]; omega), at_in hm (by omega)]
    simp only [Option.bind_some]
    have hmr := h4 (cl K x) (by omega)
    have e : TH K M B x ↔ M.getD (cl K x) 0 = 0 := by
      unfold TH
      rw [GM_cl h1 c]
      exact ⟨fun q => q.elim (fun q => (hd c q).elim) id, Or.inr⟩
    rw [e]
    refine ⟨fun q => ?_, fun q => ?_⟩
    · rw [if_pos (by rw [q]; exact J_0.symm)]
    · rw [if_neg (by rw [J_0, J_eq (by omega) (by omega)]; exact q)]
  · have e : TH K M B x ↔ x ∈ B := by
      unfold TH
      exact ⟨fun q => q.elim id (fun q => absurd (GM_in q (Nat.le_refl _)) c), Or.inl⟩
    rw [e, ixOf_out h1 c, if_pos J_m1.symm, indexOf_J hF hb h5 hx]
    simp only [Option.bind_some]
    refine ⟨fun q => ?_, fun q => ?_⟩
    · rw [ixOf_in h5 q, if_neg (by rw [J_m1, J_eq (by omega) (by omega)]; omega)]
    · rw [ixOf_out h5 q, if_pos J_m1.symm]
theorem placeOf_L {K : List Int} {row : Nat → Int32} {x : Int} (hK : RA 256 row K) (hs : Srt K) (hr : KR K) (hx : -2147483648 ≤ x ∧ x < 2147483648) : ∀ (d n p : Nat), d < n → p + d = K.length → (∀ j, j < p → K.getD j 0 < x) → X3_placeOf_L2 (J x) row (J K.length) n (J p) = some (J (cl K x))
  | d, 0, p, h, _, _ => absurd h (Nat.not_lt_zero d)
  | 0, n + 1, p, _, hd, h1 => by
    have e1 : p = K.length := by omega
    subst e1
    rw [X3_placeOf_L2, if_pos (by exact Int32.le_refl _)]
    have : K.length = cl K x := cl_uniq hs (Nat.le_refl _) h1 (fun j hj1 hj2 => by omega)
    rw [← this]
  | d + 1, n + 1, p, h, hd, h1 => by
    have hl := hK.1
    have hrp := hr p (by omega)
    rw [X3_placeOf_L2, if_neg (by rw [J_leN (by omega) (by omega)]; omega), if_pos (J_inN (by omega) (by omega)), J_ix (by omega), hK.2 p (by omega)]
    by_cases c : x ≤ K.getD p 0
    · rw [if_pos (by rw [J_le (by omega) (by omega)]; exact c)]
      have : p = cl K x := cl_uniq hs (by omega) h1 (fun j hj1 hj2 => by
        rcases Nat.lt_or_ge p j with q | q
        · have := hs p j q hj2
          omega
        · rw [show j = p by omega]; exact c)
      rw [← this]
    · rw [if_neg (by rw [J_le (by omega) (by omega)]; exact c)]
      simp only [bnd]
      rw [J_succ]
      exact placeOf_L hK hs hr hx d n (p + 1) (by omega) (by omega) (fun j hj => by
        by_cases e : j = p
        · rw [e]; omega
        · exact h1 j (by omega))
theorem placeOf_J (hF : 2000 ≤ F) {K : List Int} {row : Nat → Int32} {x : Int} (hK : RA 256 row K) (hs : Srt K) (hr : KR K) (hx : -2147483648 ≤ x ∧ x < 2147483648) : X3_placeOf F row (J K.length) (J x) = some (J (cl K x)) := by
  have hl := hK.1
  have := placeOf_L hK hs hr hx K.length F 0 (by omega) (by omega) (fun j hj => absurd hj (Nat.not_lt_zero j))
  rw [J_00] at this
  unfold X3_placeOf
  rw [this]
  rfl
theorem isInRow_J (hF : 2000 ≤ F) {K : List Int} {row : Nat → Int32} {x : Int} (hK : RA 256 row K) (hs : Srt K) (hr : KR K) (hx : -2147483648 ≤ x ∧ x < 2147483648) : (x ∈ K → X3_isInRow F row (J K.length) (J x) = some 1) ∧ (¬ x ∈ K → X3_isInRow F row (J K.length) (J x) = some 0) := by
  have hl := hK.1
  have hcl := cl_le K x
  unfold X3_isInRow
  rw [placeOf_J hF hK hs hr hx]
  simp only [Option.bind_some]
  rw [mem_cl hs]
  by_cases c : cl K x < K.length
  · have hrp := hr _ c
    rw [if_neg (by rw [J_leN (by omega) (by omega)]; omega), if_pos (J_inN (by omega) (by omega)), J_ix (by omega), hK.2 _ c]
    refine ⟨fun q => ?_, fun q => ?_⟩
    · rw [if_pos (by rw [q.2])]
    · rw [if_neg (by rw [J_eq (by omega) (by omega)]; exact fun q2 => q ⟨c, q2⟩)]
  · rw [if_pos (by rw [J_leN (by omega) (by omega)]; omega)]
    exact ⟨fun q => absurd q.1 c, fun _ => rfl⟩
theorem isBuf_L {B : List Int} {bu : Nat → Int32} {x : Int} (hbu : RA 16 bu B) (hrB : KR B) (hx : -2147483648 ≤ x ∧ x < 2147483648) : ∀ (d n t : Nat) (f : Int32), d < n → t + d = B.length → (f = 0 ∨ f = 1) → ∃ f', X3_isBuffered_L4 (J x) bu (J B.length) n (J t) f = some f' ∧ (f' = 0 ∨ f' = 1) ∧ (f' = 1 ↔ f = 1 ∨ BM B t B.length x)
  | d, 0, t, f, h, _, _ => absurd h (Nat.not_lt_zero d)
  | 0, n + 1, t, f, _, hd, hf => by
    have e1 : t = B.length := by omega
    subst e1
    refine ⟨f, ?_, hf, ⟨Or.inl, fun q => q.elim id (fun q => absurd q (BM_none (Nat.le_refl _)))⟩⟩
    rw [X3_isBuffered_L4, if_pos (by exact Int32.le_refl _)]
  | d + 1, n + 1, t, f, h, hd, hf => by
    have hl := hbu.1
    have hrp := hrB t (by omega)
    rw [X3_isBuffered_L4, if_neg (by rw [J_leN (by omega) (by omega)]; omega)]
    rcases hf with hf | hf
    · subst hf
      rw [if_pos rfl, if_pos (J_inN (by omega) (by omega)), J_ix (by omega), hbu.2 t (by omega)]
      simp only [bnd]
      rw [J_succ]
      by_cases c : B.getD t 0 = x
      · rw [if_pos (by rw [c])]
        obtain ⟨f', s1, s2, s3⟩ := isBuf_L hbu hrB hx d n (t + 1) 1 (by omega) (by omega) (Or.inr rfl)
        refine ⟨f', s1, s2, ?_⟩
        rw [s3, BM_step (lo := t) (by omega)]
        exact ⟨fun _ => Or.inr (Or.inl c), fun _ => Or.inl rfl⟩
      · rw [if_neg (by rw [J_eq (by omega) (by omega)]; exact c)]
        obtain ⟨f', s1, s2, s3⟩ := isBuf_L hbu hrB hx d n (t + 1) 0 (by omega) (by omega) (Or.inl rfl)
        refine ⟨f', s1, s2, ?_⟩
        rw [s3, BM_step (lo := t) (by omega)]
        exact ⟨fun q => q.elim (fun q => absurd q (by decide)) (fun q => Or.inr (Or.inr q)), fun q => q.elim (fun q => absurd q (by decide)) (fun q => q.elim (fun q => absurd q c) Or.inr)⟩
    · subst hf
      rw [if_neg (by decide)]
      simp only [bnd]
      rw [J_succ]
      obtain ⟨f', s1, s2, s3⟩ := isBuf_L hbu hrB hx d n (t + 1) 1 (by omega) (by omega) (Or.inr rfl)
      exact ⟨f', s1, s2, by rw [s3]; simp⟩
theorem BM_all {B : List Int} {x : Int} : BM B 0 B.length x ↔ x ∈ B := by
  rw [mem_getD]
  exact ⟨fun ⟨j, q1, q2, q3⟩ => ⟨j, q2, q3⟩, fun ⟨j, q2, q3⟩ => ⟨j, Nat.zero_le _, q2, q3⟩⟩
theorem isBuffered_J (hF : 2000 ≤ F) {B : List Int} {bu : Nat → Int32} {x : Int} (hbu : RA 16 bu B) (hrB : KR B) (hx : -2147483648 ≤ x ∧ x < 2147483648) : (x ∈ B → X3_isBuffered F bu (J B.length) (J x) = some 1) ∧ (¬ x ∈ B → X3_isBuffered F bu (J B.length) (J x) = some 0) := by
  have hl := hbu.1
  obtain ⟨f', s1, s2, s3⟩ := isBuf_L hbu hrB hx B.length F 0 0 (by omega) (by omega) (Or.inl rfl)
  rw [J_00] at s1
  rw [BM_all] at s3
  unfold X3_isBuffered
  rw [s1]
  simp only [Option.bind_some]
  rw [if_pos s2]
  refine ⟨fun q => ?_, fun q => ?_⟩
  · rw [s3.mpr (Or.inr q)]
  · rcases s2 with e | e
    · rw [e]
    · exact absurd (s3.mp e) (fun q2 => q2.elim (fun q2 => absurd q2 (by decide)) q)
theorem isThere_JR (hF : 2000 ≤ F) {K M B S : List Int} {bd : Int} {row mk bu : Nat → Int32} {x : Int} (h : LK K M B S bd) (hK : RA 256 row K) (hm : RA 256 mk M) (hbu : RA 16 bu B) (hx : -2147483648 ≤ x ∧ x < 2147483648) : (TH K M B x → X3_isThere F row mk (J K.length) bu (J B.length) (J x) = some 1) ∧ (¬ TH K M B x → X3_isThere F row mk (J K.length) bu (J B.length) (J x) = some 0) := by
  have hd := fun q1 q2 => LK_disj h (x := x) q1 q2
  obtain ⟨h1, h2, h3, h4, h5, h6, h7, h8, h9, h10, h11⟩ := h
  have hl := hK.1
  have hcl := cl_le K x
  have hb := isBuffered_J hF hbu h6 hx
  have hr := isInRow_J hF hK h1 h2 hx
  unfold X3_isThere
  by_cases c : x ∈ B
  · rw [hb.1 c]
    simp only [Option.bind_some]
    rw [if_neg (by decide)]
    exact ⟨fun _ => rfl, fun q => absurd (Or.inl c) q⟩
  · rw [hb.2 c]
    simp only [Option.bind_some, if_true]
    by_cases c2 : x ∈ K
    · have hc := (mem_cl h1).mp c2
      rw [hr.1 c2]
      simp only [Option.bind_some]
      rw [if_neg (by decide), placeOf_J hF hK h1 h2 hx]
      simp only [Option.bind_some]
      rw [if_pos (J_inN (by omega) (by omega)), J_ix (by omega), hm.2 _ (by omega)]
      have hmr := h4 (cl K x) (by omega)
      have e : TH K M B x ↔ M.getD (cl K x) 0 = 0 := by
        unfold TH
        rw [GM_cl h1 c2]
        exact ⟨fun q => q.elim (fun q => (c q).elim) id, Or.inr⟩
      rw [e]
      refine ⟨fun q => ?_, fun q => ?_⟩
      · rw [if_pos (by rw [q]; exact J_0.symm)]
      · rw [if_neg (by rw [J_0, J_eq (by omega) (by omega)]; exact q)]
    · rw [hr.2 c2]
      simp only [Option.bind_some, if_true]
      exact ⟨fun q => q.elim (fun q => absurd q c) (fun q => absurd (GM_in q (Nat.le_refl _)) c2), fun _ => trivial⟩
/-- the reference's search for the key with so many behind it -/
theorem behind4_L (hF : 2000 ≤ F) {K M B S T : List Int} {bd : Int} {row mk bu : Nat → Int32} {q : Nat} (h : LK K M B S bd) (hK : RA 256 row K) (hm : RA 256 mk M) (hbu : RA 16 bu B) (hT : Srt T) (hTm : ∀ x, x ∈ T ↔ GM K M 0 K.length x ∨ BM B 0 B.length x) (hq : q < T.length) : ∀ (d n p : Nat) (v : Int), d < n → p + d = K.length → ∃ v', X3_behindSo_L4 (J q) row mk (J K.length) bu (J B.length) F n (J p) (J v) = some (J v') ∧ ((v' = T.getD q 0) ∨ (v' = v ∧ ¬ GM K M p K.length (T.getD q 0)))
  | d, 0, p, v, hn, _ => absurd hn (Nat.not_lt_zero d)
  | 0, n + 1, p, v, _, hd => by
    have e1 : p = K.length := by omega
    subst e1
    refine ⟨v, ?_, Or.inr ⟨rfl, GM_none (Nat.le_refl _)⟩⟩
    rw [X3_behindSo_L4, if_pos (by exact Int32.le_refl _)]
  | d + 1, n + 1, p, v, hn, hd => by
    have hl := hK.1
    have hml := h.2.2.1
    have hrp := h.2.1 p (by omega)
    have hmp := h.2.2.2.1 p (by omega)
    have hp2 := th_perm h hT hTm
    have hlt := cl_le T (K.getD p 0)
    have hall : T.length ≤ 256 := by
      rw [hp2.1]
      unfold allN
      have := cU_len K M K.length
      have := h.2.2.2.2.2.2.2.1
      omega
    rw [X3_behindSo_L4, if_neg (by rw [J_leN (by omega) (by omega)]; omega), if_pos (J_inN (by omega) (by omega)), J_ix (by omega), hm.2 p (by omega), hK.2 p (by omega)]
    by_cases c : M.getD p 0 = 0
    · rw [c, if_pos J_0.symm, if_pos (J_inM (by omega) (by omega)), J_wide (by omega), below_JR hF h hK hm hbu (by omega), ← hp2.2]
      simp only [Option.bind_some]
      have hin : K.getD p 0 ∈ T := (hTm _).mpr (Or.inl ⟨p, Nat.zero_le _, by omega, rfl, c⟩)
      have hcl := (mem_cl hT).mp hin
      by_cases c2 : cl T (K.getD p 0) = q
      · rw [if_pos (by rw [c2]), if_pos (J_inM (by omega) (by omega))]
        simp only [bnd]
        rw [J_succ]
        obtain ⟨v', s1, s2⟩ := behind4_L hF h hK hm hbu hT hTm hq d n (p + 1) (K.getD p 0) (by omega) (by omega)
        refine ⟨v', s1, Or.inl ?_⟩
        rcases s2 with s2 | s2
        · exact s2
        · rw [s2.1, ← c2]
          exact hcl.2.symm
      · rw [if_neg (by rw [J_eqN (by omega) (by omega)]; exact c2)]
        simp only [bnd]
        rw [J_succ]
        obtain ⟨v', s1, s2⟩ := behind4_L hF h hK hm hbu hT hTm hq d n (p + 1) v (by omega) (by omega)
        refine ⟨v', s1, ?_⟩
        rcases s2 with s2 | s2
        · exact Or.inl s2
        · refine Or.inr ⟨s2.1, fun g => ?_⟩
          rcases (GM_step (by omega)).mp g with g | g
          · apply c2
            rw [g.1]
            exact (cl_uniq hT (by omega) (fun j hj => hT j q hj hq) (fun j hj1 hj2 => by
              rcases Nat.lt_or_ge q j with w | w
              · have := hT q j w hj2
                omega
              · rw [show j = q by omega]; omega)).symm
          · exact s2.2 g
    · rw [if_neg (by rw [J_0, J_eq (by omega) (by omega)]; exact c)]
      simp only [bnd]
      rw [J_succ]
      obtain ⟨v', s1, s2⟩ := behind4_L hF h hK hm hbu hT hTm hq d n (p + 1) v (by omega) (by omega)
      refine ⟨v', s1, ?_⟩
      rcases s2 with s2 | s2
      · exact Or.inl s2
      · refine Or.inr ⟨s2.1, fun g => ?_⟩
        rcases (GM_step (by omega)).mp g with g | g
        · exact c g.2
        · exact s2.2 g
theorem behind55_L (hF : 2000 ≤ F) {K M B S T : List Int} {bd : Int} {row mk bu : Nat → Int32} {q : Nat} (h : LK K M B S bd) (hK : RA 256 row K) (hm : RA 256 mk M) (hbu : RA 16 bu B) (hT : Srt T) (hTm : ∀ x, x ∈ T ↔ GM K M 0 K.length x ∨ BM B 0 B.length x) (hq : q < T.length) : ∀ (d n p : Nat) (v : Int), d < n → p + d = B.length → ∃ v', X3_behindSo_L55 (J q) row mk (J K.length) bu (J B.length) F n (J p) (J v) = some (J v') ∧ ((v' = T.getD q 0) ∨ (v' = v ∧ ¬ BM B p B.length (T.getD q 0)))
  | d, 0, p, v, hn, _ => absurd hn (Nat.not_lt_zero d)
  | 0, n + 1, p, v, _, hd => by
    have e1 : p = B.length := by omega
    subst e1
    refine ⟨v, ?_, Or.inr ⟨rfl, BM_none (Nat.le_refl _)⟩⟩
    rw [X3_behindSo_L55, if_pos (by exact Int32.le_refl _)]
  | d + 1, n + 1, p, v, hn, hd => by
    have hl := hbu.1
    have hrp := h.2.2.2.2.2.1 p (by omega)
    have hp2 := th_perm h hT hTm
    have hlt := cl_le T (B.getD p 0)
    have hall : T.length ≤ 256 := by
      rw [hp2.1]
      unfold allN
      have := cU_len K M K.length
      have := h.2.2.2.2.2.2.2.1
      omega
    rw [X3_behindSo_L55, if_neg (by rw [J_leN (by omega) (by omega)]; omega), if_pos (J_inN (by omega) (by omega)), J_ix (by omega), hbu.2 p (by omega), J_wide (by omega), below_JR hF h hK hm hbu (by omega), ← hp2.2]
    simp only [Option.bind_some]
    have hin : B.getD p 0 ∈ T := (hTm _).mpr (Or.inr ⟨p, Nat.zero_le _, by omega, rfl⟩)
    have hcl := (mem_cl hT).mp hin
    by_cases c2 : cl T (B.getD p 0) = q
    · rw [if_pos (by rw [c2]), if_pos (J_inM (by omega) (by omega))]
      simp only [bnd]
      rw [J_succ]
      obtain ⟨v', s1, s2⟩ := behind55_L hF h hK hm hbu hT hTm hq d n (p + 1) (B.getD p 0) (by omega) (by omega)
      refine ⟨v', s1, Or.inl ?_⟩
      rcases s2 with s2 | s2
      · exact s2
      · rw [s2.1, ← c2]
        exact hcl.2.symm
    · rw [if_neg (by rw [J_eqN (by omega) (by omega)]; exact c2)]
      simp only [bnd]
      rw [J_succ]
      obtain ⟨v', s1, s2⟩ := behind55_L hF h hK hm hbu hT hTm hq d n (p + 1) v (by omega) (by omega)
      refine ⟨v', s1, ?_⟩
      rcases s2 with s2 | s2
      · exact Or.inl s2
      · refine Or.inr ⟨s2.1, fun g => ?_⟩
        rcases (BM_step (by omega)).mp g with g | g
        · apply c2
          rw [g]
          exact (cl_uniq hT (by omega) (fun j hj => hT j q hj hq) (fun j hj1 hj2 => by
            rcases Nat.lt_or_ge q j with w | w
            · have := hT q j w hj2
              omega
            · rw [show j = q by omega]; omega)).symm
        · exact s2.2 g
theorem behindSo_J (hF : 2000 ≤ F) {K M B S T : List Int} {bd : Int} {row mk bu : Nat → Int32} {q : Nat} (h : LK K M B S bd) (hK : RA 256 row K) (hm : RA 256 mk M) (hbu : RA 16 bu B) (hT : Srt T) (hTm : ∀ x, x ∈ T ↔ GM K M 0 K.length x ∨ BM B 0 B.length x) (hq : q < T.length) : X3_behindSo F row mk (J K.length) bu (J B.length) (J q) = some (J (T.getD q 0)) := by
  have hl := hK.1
  have hbl := hbu.1
  obtain ⟨v1, s1, s2⟩ := behind4_L hF h hK hm hbu hT hTm hq K.length F 0 0 (by omega) (by omega)
  obtain ⟨v2, t1, t2⟩ := behind55_L hF h hK hm hbu hT hTm hq B.length F 0 v1 (by omega) (by omega)
  rw [J_00, ← J_0] at s1
  rw [J_00] at t1
  unfold X3_behindSo
  rw [s1]
  simp only [Option.bind_some]
  rw [t1]
  simp only [Option.bind_some]
  rcases t2 with t2 | t2
  · rw [t2]
  · rcases s2 with s2 | s2
    · rw [t2.1, s2]
    · exact absurd ((hTm _).mp (getD_mem hq)) (fun g => g.elim s2.2 t2.2)
end MIS
