/-! the law's joins, and its whole merge beside the class's -/
section LMI
variable {F : Nat}
theorem HD_less {v : Nat → Int32} {a r : List Int} {b : Int} {n m : Nat} (h : HD v (a ++ b :: r) n) (hb : b = (m : Int)) (hS : Srt (a ++ b :: r)) : HD (upd v m 0) (a ++ r) n := by
  intro i hi
  unfold upd
  by_cases c : i = m
  · rw [if_pos c, if_neg (fun q => ?_)]
    have hnd := Srt_nodup hS
    rw [List.nodup_append] at hnd
    obtain ⟨-, h2, h3⟩ := hnd
    rw [List.nodup_cons] at h2
    rw [c, ← hb] at q
    rcases List.mem_append.mp q with q | q
    · exact h3 b q b (by simp) rfl
    · exact h2.1 q
  · rw [if_neg c, h i hi]
    have : ((i : Int) ∈ a ++ b :: r) ↔ ((i : Int) ∈ a ++ r) := by
      simp only [List.mem_append, List.mem_cons]
      constructor
      · rintro (q | q | q)
        · exact Or.inl q
        · omega
        · exact Or.inr q
      · rintro (q | q)
        · exact Or.inl q
        · exact Or.inr (Or.inr q)
    by_cases q : (i : Int) ∈ a ++ b :: r
    · rw [if_pos q, if_pos (this.mp q)]
    · rw [if_neg q, if_neg (fun q2 => q (this.mpr q2))]
theorem endS_last2 (a r : List Int) (n : Nat) (h : 0 < a.length) : endS (a ++ r) n (a.length - 1) = nx r n := by
  unfold endS nx
  rw [show a.length - 1 + 1 = a.length by omega]
  cases r with
  | nil => simp
  | cons b r =>
    rw [if_pos (by simp), getD_mid]
    rfl
theorem ljoins_L (hF : 2000 ≤ F) {bd : Int} {K : List Int} {vr : Nat → Int32} (hK : RA 64 vr K) (hs : Srt K) (hr : KR K) (hb : 0 ≤ bd ∧ bd ≤ 20) : ∀ (r : List Int) (m : Nat) (a : List Int) (vh vq : Nat → Int32), r.length < m → HD vh (a ++ r) K.length → 0 < a.length → SOK (a ++ r) K.length → vq 2 = J bd → ∃ vh' vq', L_merge_L330 F (J K.length) vr m (J (lastS a)) vh vq = some (vh', vq') ∧ HD vh' (jn bd K a r).1 K.length ∧ (∀ j, j ≠ 6 → vq' j = vq j) ∧ vq' 6 = vq 6 + J (jn bd K a r).2
  | r, 0, a, vh, vq, h, _, _, _, _ => absurd h (Nat.not_lt_zero _)
  | [], n + 1, a, vh, vq, _, hH, ha, hS, h2 => by
    have hl := hK.1
    have hla := lastS_app [] ha
    have hse := SOK_lt hS (i := a.length - 1) (by simp; omega)
    have he := endS_last2 a [] K.length ha
    have hbh := lbehind_H (F := F) hF (by omega) hH hS (i := a.length - 1) (by simp; omega)
    have hsi := hS.2.1 (a.length - 1) (by simp; omega)
    rw [show (a ++ ([] : List Int)).getD (a.length - 1) 0 = ((lastS a : Nat) : Int) by omega, he] at hbh
    have hnx : nx [] K.length = K.length := by unfold nx; simp
    rw [hnx] at hbh
    refine ⟨vh, vq, ?_, ?_, fun _ _ => rfl, ?_⟩
    · rw [L_merge_L330, if_neg (by rw [J_leN (by omega) (by omega)]; omega), hbh]
      simp only [Option.bind_some]
      rw [if_pos (by exact Int32.le_refl _)]
    · rw [jn]
      rw [List.append_nil] at hH
      exact hH
    · rw [jn]
      rw [show vq 6 + J ((0 : Nat) : Int) = vq 6 from Int32.add_zero _]
  | b :: r, n + 1, a, vh, vq, h, hH, ha, hS, h2 => by
    have hl := hK.1
    have hc := SOK_len hS
    have hlen : (a ++ b :: r).length = a.length + r.length + 1 := by simp; omega
    simp only [List.length_cons] at h
    have he := endS_mid a b r K.length
    have he2 := endS_last2 a (b :: r) K.length ha
    have hb1 := hS.2.1 a.length (by omega)
    have hsi := hS.2.1 (a.length - 1) (by omega)
    have hla := lastS_app (b :: r) ha
    have hse := SOK_lt hS (i := a.length) (by omega)
    have hlt := hS.1 (a.length - 1) a.length (by omega) (by omega)
    have hbh := lbehind_H (F := F) hF (by omega) hH hS (i := a.length - 1) (by omega)
    have hbh2 := lbehind_H (F := F) hF (by omega) hH hS (i := a.length) (by omega)
    rw [getD_mid] at hb1 hse hlt hbh2
    obtain ⟨m, hm⟩ : ∃ m : Nat, b = (m : Int) := ⟨b.toNat, by omega⟩
    have hnx : nx (b :: r) K.length = m := by unfold nx; simp [hm]
    rw [show (a ++ b :: r).getD (a.length - 1) 0 = ((lastS a : Nat) : Int) by omega, he2, hnx] at hbh
    rw [he] at hse hbh2
    rw [hm] at hbh2
    rw [show b.toNat = m by omega] at hse
    have hf := lfits_J (F := F) (o := lastS a) (e := nx r K.length) hF hK hs hr hb (by omega) hse.2
    rw [L_merge_L330, if_neg (by rw [J_leN (by omega) (by omega)]; omega), hbh]
    simp only [Option.bind_some]
    rw [if_neg (by rw [J_leN (by omega) (by omega)]; omega), hbh2]
    simp only [Option.bind_some, i7_2, i7_6, if_true, n7_2, n7_6]
    rw [h2, hf]
    simp only [Option.bind_some]
    by_cases c : fitq (rng bd (gd K) (lastS a) (nx r K.length - 1 - lastS a))
    · rw [if_pos c, if_neg (by decide), if_pos (J_inN (by omega) (by omega)), J_ix (by omega), jn, if_pos c]
      have hS1 : SOK (a ++ r) K.length := by
        rw [← eraseIdx_mid a b r]
        exact SOK_erase hS ha (by omega)
      obtain ⟨vh', vq', r1, r2, r3, r4⟩ := ljoins_L hF hK hs hr hb r n a (upd vh m 0) (upd vq 6 (vq 6 + 1)) (by omega) (HD_less hH hm hS.1) ha hS1 (by rw [← h2]; exact if_neg (by decide))
      refine ⟨vh', vq', r1, r2, fun j hj => by rw [r3 j hj]; exact if_neg hj, ?_⟩
      rw [r4, show (upd vq 6 (vq 6 + 1)) 6 = vq 6 + 1 from if_pos rfl, Int32.add_assoc, J_1, J_add, show (1 : Int) + ((jn bd K a r).2 : Int) = (((jn bd K a r).2 + 1 : Nat) : Int) by omega]
    · rw [if_neg c, if_pos rfl, jn, if_neg c]
      have e3 : a ++ b :: r = (a ++ [b]) ++ r := by simp
      rw [e3] at hH hS
      obtain ⟨vh', vq', r1, r2, r3, r4⟩ := ljoins_L hF hK hs hr hb r n (a ++ [b]) vh vq (by omega) hH (by simp) hS h2
      rw [hm, lastS_snoc] at r1
      rw [← hm] at r1
      exact ⟨vh', vq', by rw [← r1, hm], r2, r3, r4⟩
theorem ljoins_J (hF : 2000 ≤ F) {bd : Int} {K C : List Int} {vr vh vq : Nat → Int32} (hK : RA 64 vr K) (hs : Srt K) (hr : KR K) (hb : 0 ≤ bd ∧ bd ≤ 20) (hH : HD vh C K.length) (hS : SOK C K.length) (h2 : vq 2 = J bd) : ∃ vh' vq', L_merge_L330 F (J K.length) vr F 0 vh vq = some (vh', vq') ∧ HD vh' (jnAll bd K C).1 K.length ∧ (∀ j, j ≠ 6 → vq' j = vq j) ∧ vq' 6 = vq 6 + J (jnAll bd K C).2 := by
  have hl := hK.1
  have hc := SOK_len hS
  cases C with
  | nil =>
    have hK0 : K.length = 0 := by
      rcases Nat.eq_zero_or_pos K.length with q | q
      · exact q
      · exact absurd (hS.2.2.2 q) (Nat.lt_irrefl 0)
    obtain ⟨n, hn⟩ : ∃ n, F = n + 1 := ⟨F - 1, by omega⟩
    refine ⟨vh, vq, ?_, hH, fun _ _ => rfl, ?_⟩
    · rw [show L_merge_L330 F (J K.length) vr F = L_merge_L330 F (J K.length) vr (n + 1) by rw [← hn], L_merge_L330, if_pos (by rw [hK0]; decide)]
    · unfold jnAll
      rw [show vq 6 + J ((0 : Nat) : Int) = vq 6 from Int32.add_zero _]
  | cons b r =>
    simp only [List.length_cons] at hc
    have hb0 : b = 0 := hS.2.2.1 (by simp)
    obtain ⟨vh', vq', r1, r2, r3, r4⟩ := ljoins_L hF hK hs hr hb r F [b] vh vq (by omega) hH (by simp) hS h2
    have e : J ((lastS [b] : Nat) : Int) = 0 := by rw [hb0]; decide
    rw [e] at r1
    exact ⟨vh', vq', r1, r2, r3, r4⟩
theorem l291_L {vx vy : Nat → Int32} : ∀ (d n i : Nat) (a b c : Nat → Int32), d < n → i + d = 64 → (∀ j, j < i → a j = 0 ∧ b j = vx j ∧ c j = vy j) → ∃ a' b' c', L_merge_L291 vx vy n (J i) a b c = some (a', b', c') ∧ ∀ j, j < 64 → a' j = 0 ∧ b' j = vx j ∧ c' j = vy j
  | d, 0, i, a, b, c, h, _, _ => absurd h (Nat.not_lt_zero d)
  | 0, n + 1, i, a, b, c, _, hd, h => by
    have : i = 64 := by omega
    subst this
    exact ⟨a, b, c, by rw [L_merge_L291, if_pos (by decide)], h⟩
  | d + 1, n + 1, i, a, b, c, hn, hd, h => by
    obtain ⟨a', b', c', r1, r2⟩ := l291_L d n (i + 1) (upd a i 0) (upd b i (vx i)) (upd c i (vy i)) (by omega) (by omega) (fun j hj => by
      unfold upd
      by_cases q : j = i
      · rw [if_pos q, if_pos q, if_pos q, q]
        exact ⟨rfl, rfl, rfl⟩
      · rw [if_neg q, if_neg q, if_neg q]
        exact h j (by omega))
    refine ⟨a', b', c', ?_, r2⟩
    rw [L_merge_L291, J_64, if_neg (by rw [J_le (by omega) (by omega)]; omega)]
    simp only [if_pos (J_inN (show i < 64 by omega) (show 64 ≤ 1000 by omega)), J_ix (show i < 2147483648 by omega), if_pos (J_inM (show i < 64 by omega) (show 64 ≤ 1000 by omega)), bnd, J_succ]
    exact r1
theorem RA_zero {v : Nat → Int32} {n : Nat} (h : ∀ j, j < 64 → v j = 0) (hn : n ≤ 64) : RA 64 v (List.replicate n 0) := ⟨by simpa using hn, fun i hi => by
  rw [List.length_replicate] at hi
  rw [h i (by omega), getD_rep]
  decide⟩
/-- without pieces: all late keys make the row -/
theorem lm_empty (hF : 2000 ≤ F) {B B' G : List Int} {bd : Int} {vr vm vh vl vq : Nat → Int32} (hB : RA 16 vl B') (hp : B'.Perm B) (hsB : Srt B) (hrB0 : KR B) (hc : B.length ≤ 60) (hG : Srt G) (hrG : KR G) (hm : ∀ x, x ∈ G ↔ BM B 0 B.length x) (hb : 0 ≤ bd ∧ bd ≤ 20) (hq0 : vq 0 = J 0) (hq1 : vq 1 = J B'.length) (hq2 : vq 2 = J bd) : ∃ vq' vx' vy', L_merge_L18 vm vr vh vl F F 0 0 vq (fun _ => 0) (fun _ => 0) = some (J G.length, vq', vx', vy') ∧ RA 64 vx' G ∧ HD vy' (cutF bd G 0 [] 0 G.length) 64 ∧ (∀ j, j ≠ 5 → vq' j = vq j) ∧ vq' 5 = vq 5 + J ((cutF bd G 0 [] 0 G.length).length - 1 : Nat) := by
  have hpl : B'.length = B.length := hp.length_eq
  have hnd := Nodup_getD (hp.nodup_iff.mpr (Srt_nodup hsB))
  have hrB : KR B' := KR_mem.mpr (fun y hy => KR_mem.mp hrB0 y (hp.mem_iff.mp hy))
  obtain ⟨n, hn⟩ : ∃ n, F = n + 2 := ⟨F - 2, by omega⟩
  have hBB : ∀ y, BB [] 0 0 y := fun y => ⟨fun q => absurd q.1 (Nat.lt_irrefl 0), fun q => absurd q.1 (Nat.lt_irrefl 0)⟩
  have s0 : SOK [] 0 := ⟨Srt_nil, fun i h => by simp at h, fun h => by simp at h, fun h => absurd h (Nat.lt_irrefl 0)⟩
  have hz0 : vq 0 = 0 := by rw [hq0]; decide
  obtain ⟨R, x11, vx1, r1, r2, r3, r4, r5, r6, r7⟩ := lm_body (F := F) (K := []) (M := []) (B' := B') (G := []) (T := B) (vr := vr) (vm := vm) (vh := vh) (vl := vl) (vq := vq) (vx := fun _ => 0) (vy := fun _ => 0) (s := 0) (e := 0) hF ⟨by simp, fun i hi => by simp at hi⟩ ⟨by simp, fun i hi => by simp at hi⟩ hB Srt_nil (fun i hi => by simp at hi) hrB rfl (fun j hj => by simp at hj) (by rw [hq0]; rfl) hq1 (Or.inl rfl) (Nat.le_refl _) (Nat.le_refl _) hnd (fun i j hi => by simp at hi) (by rw [if_pos hz0]; rfl) ⟨by simp, fun i hi => by simp at hi⟩ (by simp) (by simp; omega) (fun y q => absurd q (GM_none (Nat.le_refl _))) (fun j hj _ => hp.mem_iff.mp (getD_mem hj)) (n + 1)
  have hRG : R = G := by
    refine Srt_ext r3 hG (fun x => ?_)
    rw [r5, hm]
    constructor
    · rintro (q | ⟨j, q1, q2, q3, q4⟩)
      · exact absurd q (GM_none (Nat.le_refl _))
      · rw [BM_all, ← q3]
        exact hp.mem_iff.mp (getD_mem q2)
    · intro q
      rw [BM_all] at q
      obtain ⟨j, hj, e⟩ := mem_getD.mp (hp.mem_iff.mpr q)
      exact Or.inr ⟨j, Nat.zero_le _, hj, e, hBB x⟩
  subst hRG
  rw [List.nil_append] at r2
  simp only [List.length_nil, Nat.zero_add] at r1
  have hG60 : R.length ≤ 60 := by
    have := Srt_sub_len (L := B) hG (fun x hx => by rw [← BM_all]; exact (hm x).mp hx)
    omega
  have hfin : ∀ (now : Int32) (vq1 vx vy : Nat → Int32), vq1 0 = J 0 → L_merge_L18 vm vr vh vl F (n + 1) 1 now vq1 vx vy = some (now, vq1, vx, vy) := by
    intro now vq1 vx vy h
    rw [L_merge_L18]
    simp only [i7_0, if_true, n7_0, h]
    rw [if_neg (by decide), if_neg (by decide)]
  have hHD : HD (fun _ => (0 : Int32)) [] 0 := fun i hi => absurd hi (Nat.not_lt_zero i)
  obtain ⟨vy1, c1, c2, c3⟩ := lcuts_J (F := F) (v2 := fun _ => 0) (C := []) (b := 0) hF r2 hG hrG hb (Nat.zero_le _) s0 (fun i hi => by simp at hi) hHD
  simp only [Nat.sub_zero, List.length_nil] at c1 c2
  have hcf := cutF_ok (bd := bd) (G := R) (c0 := 0) R.length 0 [] s0 (fun i hi => by simp at hi) (Nat.le_refl _) (Or.inr rfl)
  rw [Nat.zero_add] at hcf
  have hCl := SOK_len hcf.1
  have st : L_merge_L18 vm vr vh vl F F 0 0 vq (fun _ => 0) (fun _ => 0) = lmTail vm vr vh vl F (n + 1) vq (fun _ => 0) (J (0 : Nat)) (J R.length) (J (0 : Nat)) x11 vx1 := by
    have e1 : L_merge_L18 vm vr vh vl F F = L_merge_L18 vm vr vh vl F (n + 1 + 1) := by rw [show n + 1 + 1 = F by omega]
    rw [e1]
    exact r1
  rw [st]
  rcases r6 with q | q
  · -- no late keys
    have hR0 : R.length = 0 := by
      rcases Nat.eq_zero_or_pos R.length with q2 | q2
      · exact q2
      · have hmem := getD_mem (d := 0) q2
        rcases (r5 _).mp hmem with q3 | q3
        · exact absurd q3 (GM_none (Nat.le_refl _))
        · exact absurd q3 ((r7.mp q).2 _)
    have hR1 : R = [] := List.length_eq_zero_iff.mp hR0
    subst hR1
    refine ⟨vq, vx1, fun _ => 0, ?_, r2, ?_, fun _ _ => rfl, ?_⟩
    · unfold lmTail
      rw [if_pos q, if_pos (by exact Int32.le_refl _)]
      simp only [Option.bind_some]
      rw [if_pos hz0]
      exact hfin _ _ _ _ hq0
    · exact HD64 (n := 0) hHD s0 (fun _ _ _ => rfl)
    · show vq 5 = vq 5 + J ((0 : Nat) : Int)
      rw [J_00, Int32.add_zero]
  · have hx : ¬ x11 = 0 := by rw [q]; decide
    rw [lmTail_cut (c := (cutF bd R 0 [] 0 R.length).length) hx (by omega) (by rw [hq2]; exact c1), if_pos hz0]
    refine ⟨_, vx1, vy1, hfin _ _ _ _ (by rw [show (upd vq 5 (vq 5 + J ((cutF bd R 0 [] 0 R.length).length - 1 : Nat))) 0 = vq 0 from if_neg (by decide)]; exact hq0), r2, HD64 c2 hcf.1 (fun t h1 h2 => c3 t h1), fun j hj => if_neg hj, if_pos rfl⟩
end LMI
