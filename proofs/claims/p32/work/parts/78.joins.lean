/-! pieces that are joined -/
section MJOIN
variable {F : Nat}
def nx (r : List Int) (n : Nat) : Nat := (r.headD (n : Int)).toNat
theorem getD_mid (a : List Int) (b : Int) (r : List Int) : (a ++ b :: r).getD a.length 0 = b := by
  rw [getD_app_r (Nat.le_refl _)]
  simp
theorem lastS_app {a : List Int} (r : List Int) (h : 0 < a.length) : lastS a = ((a ++ r).getD (a.length - 1) 0).toNat := by
  unfold lastS
  rw [getD_app_l (by omega)]
theorem eraseIdx_mid (a : List Int) (b : Int) (r : List Int) : (a ++ b :: r).eraseIdx a.length = a ++ r := by
  induction a with
  | nil => rfl
  | cons x a ih => simp [ih]
theorem getD_eraseIdx (l : List Int) (k i : Nat) : (l.eraseIdx k).getD i 0 = if i < k then l.getD i 0 else l.getD (i + 1) 0 := by
  simp only [List.getD_eq_getElem?_getD]
  by_cases h : i < k
  · rw [if_pos h, List.getElem?_eraseIdx_of_lt h]
  · rw [if_neg h, List.getElem?_eraseIdx_of_ge (by omega)]
theorem SOK_erase {S : List Int} {n k : Nat} (h : SOK S n) (h0 : 0 < k) (hk : k < S.length) : SOK (S.eraseIdx k) n := by
  have hlen : (S.eraseIdx k).length = S.length - 1 := List.length_eraseIdx_of_lt hk
  obtain ⟨h1, h2, h3, h4⟩ := h
  refine ⟨fun i j hij hj => ?_, fun i hi => ?_, fun _ => ?_, fun _ => by omega⟩
  · rw [hlen] at hj
    rw [getD_eraseIdx, getD_eraseIdx]
    split <;> split
    · exact h1 i j hij (by omega)
    · exact h1 i (j + 1) (by omega) (by omega)
    · omega
    · exact h1 (i + 1) (j + 1) (by omega) (by omega)
  · rw [hlen] at hi
    rw [getD_eraseIdx]
    split
    · exact h2 i (by omega)
    · exact h2 (i + 1) (by omega)
  · rw [getD_eraseIdx, if_pos h0]
    exact h3 (by omega)
theorem endS_mid (a : List Int) (b : Int) (r : List Int) (n : Nat) : endS (a ++ b :: r) n a.length = nx r n := by
  unfold endS nx
  cases r with
  | nil => rw [if_neg (by simp)]; simp
  | cons c r =>
    rw [if_pos (by simp)]
    have : a ++ b :: c :: r = (a ++ [b]) ++ c :: r := by simp
    rw [this]
    have h2 := getD_mid (a ++ [b]) c r
    rw [List.length_append] at h2
    simp only [List.length_cons, List.length_nil] at h2
    rw [h2]
    rfl
def jn (bd : Int) (K : List Int) : List Int → List Int → List Int × Nat
  | a, [] => (a, 0)
  | a, b :: r => if fitq (rng bd (gd K) (lastS a) (nx r K.length - 1 - lastS a)) then ((jn bd K a r).1, (jn bd K a r).2 + 1) else jn bd K (a ++ [b]) r
def jnAll (bd : Int) (K : List Int) : List Int → List Int × Nat
  | [] => ([], 0)
  | b :: r => jn bd K [b] r
/-- a piece that is begun at the place n, and takes all keys up to e -/
theorem PI_piece (hF : 2000 ≤ F) {bd : Int} {K S : List Int} {n e : Nat} {zk zs zr zu : zN} {zt : zT} (z : zT) (hk : RN 256 zk K) (hs : Srt K) (hr : KR K) (hb : 0 ≤ bd ∧ bd ≤ 20) (p : PI bd K S n zs zr zu zt) (hn : n < e) (he : e ≤ K.length) (hf : fitq (rng bd (gd K) n (e - 1 - n))) : ∃ zs1 zr1 zu1 zt1, X2_beginPiece F zs zr zu z (J bd) (J (gd K n)) (J n) = some (zs1, zr1, zu1, zt1) ∧ ∃ zt2, X2_tailTakes F zk zt1 (J (n + 1 : Nat)) (J e) = some (1, zt2) ∧ ∃ zr2 zu2, X2_noteTailSlope F zs1 zr1 zu1 zt2 = some (zr2, zu2) ∧ PI bd K (S ++ [(n : Int)]) e zs1 zr2 zu2 zt2 := by
  have hl := hk.len
  obtain ⟨zs1, zr1, zu1, zt1, e1, p1⟩ := PI_begin hF z p (by omega)
  refine ⟨zs1, zr1, zu1, zt1, e1, ?_⟩
  have ht := p1.2.2.2.1 (by simp)
  rw [lastS_snoc] at ht
  have hq := (tailTakes_J hF (o := n) (p := n + 1) (e := e) hk hs hr hb he (by omega) (by omega) (by rw [show n + 1 - 1 - n = 0 by omega]; exact fitR_0 _ _ _)).1 hf
  rw [← ht] at hq
  refine ⟨_, hq, ?_⟩
  obtain ⟨zr2, zu2, e2, p2⟩ := PI_note hF (m := e) hl hs hr hb p1 (by omega) he (by simp) (by rw [lastS_snoc]; exact hf)
  rw [lastS_snoc] at e2 p2
  exact ⟨zr2, zu2, e2, p2⟩
theorem joinFresh_L (hF : 2000 ≤ F) {bd : Int} {K C : List Int} {zk zg : zN} (hk : RN 256 zk K) (hg : RN 256 zg C) (hs : Srt K) (hr : KR K) (hb : 0 ≤ bd ∧ bd ≤ 20) (hC : SOK C K.length) (hP : PF bd K C K.length) : ∀ (r : List Int) (n : Nat) (pre a : List Int) (zs zr zu : zN) (zt : zT) (jc : Int32), r.length < n → C = pre ++ r → 0 < pre.length → 0 < a.length → PI bd K a (nx r K.length) zs zr zu zt → ∃ zs' zr' zu' zt', X2_joinFresh_L2 zk zg (J bd) F n (J pre.length) zs zr zu zt jc = some (zs', zr', zu', zt', jc + J (jn bd K a r).2) ∧ PI bd K (jn bd K a r).1 K.length zs' zr' zu' zt'
  | r, 0, pre, a, zs, zr, zu, zt, jc, h, _, _, _, _ => absurd h (Nat.not_lt_zero _)
  | [], n + 1, pre, a, zs, zr, zu, zt, jc, _, hpre, h0, ha, p => by
    have hl := hg.len
    rw [List.append_nil] at hpre
    subst hpre
    refine ⟨zs, zr, zu, zt, ?_, p⟩
    rw [X2_joinFresh_L2, length_J hg]
    simp only [Option.bind_some]
    rw [if_pos (by exact Int32.le_refl _), jn]
    rw [show jc + J ((0 : Nat) : Int) = jc from Int32.add_zero jc]
  | b :: r, n + 1, pre, a, zs, zr, zu, zt, jc, h, hpre, h0, ha, p => by
    have hlk := hk.len
    have hlg := hg.len
    have hlen : C.length = pre.length + r.length + 1 := by rw [hpre]; simp; omega
    simp only [List.length_cons] at h
    have hCb : C.getD pre.length 0 = b := by rw [hpre]; exact getD_mid pre b r
    have hCe : endS C K.length pre.length = nx r K.length := by rw [hpre]; exact endS_mid pre b r K.length
    have hb1 := hC.2.1 pre.length (by omega)
    rw [hCb] at hb1
    obtain ⟨m, hm⟩ : ∃ m : Nat, b = (m : Int) := ⟨b.toNat, by omega⟩
    have hse := SOK_lt hC (i := pre.length) (by omega)
    rw [hCe, hCb] at hse
    have hnx : nx (b :: r) K.length = m := by unfold nx; simp [hm]
    rw [hnx] at p
    have hfm := hP pre.length (by omega)
    unfold slpN at hfm
    rw [hCe, hCb] at hfm
    rw [show b.toNat = m by omega] at hfm hse
    have hlast := lastS_lt p.2.1 ha
    have hfl := p.2.2.1 (a.length - 1) (by omega)
    rw [slpN_last _ ha] at hfl
    have hzt := p.2.2.2.1 ha
    have hnext : ∀ {α : Type} (k : Int32 → Option α), (Option.bind (X0_has F 256 zg (J pre.length + 1)) fun r29 => Option.bind (α := Int32) (if r29 = 0 then Option.bind (X0_length F zk) fun r52 => some r52 else Option.bind (X0_at F 256 zg (J pre.length + 1)) fun r42 => some r42) k) = k (J (nx r K.length)) := by
      intro α k
      rw [J_succ, ← hCe]
      unfold endS
      by_cases c : pre.length + 1 < C.length
      · have := hC.2.1 _ c
        rw [has_J hg (by omega), if_pos (by omega)]
        simp only [Option.bind_some]
        rw [if_neg (by decide), at_in hg c]
        simp only [Option.bind_some]
        rw [if_pos c]
        congr 2
        omega
      · rw [has_J hg (by omega), if_neg (by omega)]
        simp only [Option.bind_some]
        rw [if_pos (by decide), length_J hk, if_neg c]
        rfl
    rw [X2_joinFresh_L2, length_J hg]
    simp only [Option.bind_some]
    rw [if_neg (by rw [J_leN (by omega) (by omega)]; omega), at_in hg (by omega), hCb]
    simp only [Option.bind_some]
    rw [hnext, if_neg (by rw [J_0, J_le (by omega) (by omega)]; omega), hm, hzt]
    have ht := tailTakes_J hF (o := lastS a) (p := m) (e := nx r K.length) hk hs hr hb hse.2 (by omega) hlast hfl
    by_cases c : fitq (rng bd (gd K) (lastS a) (nx r K.length - 1 - lastS a))
    · rw [ht.1 c]
      simp only [Option.bind_some]
      rw [if_neg (by decide)]
      simp only [Option.bind_some]
      obtain ⟨zr2, zu2, e2, p2⟩ := PI_note hF (m := nx r K.length) hlk hs hr hb p (by omega) hse.2 ha c
      rw [e2]
      simp only [Option.bind_some, bnd]
      rw [J_succ]
      obtain ⟨zs', zr', zu', zt', r1, r2⟩ := joinFresh_L hF hk hg hs hr hb hC hP r n (pre ++ [b]) a zs zr2 zu2 _ (jc + 1) (by omega) (by rw [hpre]; simp) (by simp) ha p2
      rw [List.length_append] at r1
      simp only [List.length_cons, List.length_nil, Nat.zero_add] at r1
      rw [jn, if_pos c]
      refine ⟨zs', zr', zu', zt', ?_, r2⟩
      rw [r1, Int32.add_assoc, J_1, J_add, show (1 : Int) + ((jn bd K a r).2 : Int) = (((jn bd K a r).2 + 1 : Nat) : Int) by omega]
    · obtain ⟨zt1, ht1⟩ := ht.2 c
      rw [ht1]
      simp only [Option.bind_some, if_true]
      rw [at_in hk (by omega)]
      simp only [Option.bind_some]
      obtain ⟨zs1, zr1, zu1, zt2, e1, zt3, e2, zr2, zu2, e3, p3⟩ := PI_piece hF zt1 hk hs hr hb p (e := nx r K.length) (by omega) hse.2 hfm
      rw [show J (K.getD m 0) = J (gd K m) from rfl, e1]
      simp only [Option.bind_some]
      rw [J_succ, e2]
      simp only [Option.bind_some]
      rw [e3]
      simp only [Option.bind_some, bnd]
      rw [J_succ]
      rw [← hm] at p3
      obtain ⟨zs', zr', zu', zt', r1, r2⟩ := joinFresh_L hF hk hg hs hr hb hC hP r n (pre ++ [b]) (a ++ [b]) zs1 zr2 zu2 zt3 jc (by omega) (by rw [hpre]; simp) (by simp) (by simp) p3
      rw [List.length_append] at r1
      simp only [List.length_cons, List.length_nil, Nat.zero_add] at r1
      rw [← hm, jn, if_neg c]
      exact ⟨zs', zr', zu', zt', r1, r2⟩
theorem joinFresh_J (hF : 2000 ≤ F) {bd : Int} {K C : List Int} {zk zg zs zr zu : zN} {zt : zT} (jc : Int32) (hk : RN 256 zk K) (hg : RN 256 zg C) (hs : Srt K) (hr : KR K) (hb : 0 ≤ bd ∧ bd ≤ 20) (hC : SOK C K.length) (hP : PF bd K C K.length) (h1 : RN 256 zs []) (h2 : RN 256 zr []) (h3 : RN 256 zu []) : ∃ zs' zr' zu' zt', X2_joinFresh F zk zs zr zu zt zg (J bd) jc = some (zs', zr', zu', zt', jc + J (jnAll bd K C).2) ∧ PI bd K (jnAll bd K C).1 K.length zs' zr' zu' zt' := by
  have hlk := hk.len
  have hlg := hg.len
  have p0 : PI bd K [] 0 zs zr zu zt := ⟨h1, ⟨fun i j _ h => by simp at h, fun i h => by simp at h, fun h => by simp at h, fun h => absurd h (Nat.lt_irrefl 0)⟩, fun i h => by simp at h, fun h => by simp at h, [], [], h2, h3, rfl, rfl, fun i h => by simp at h⟩
  obtain ⟨n, hn⟩ : ∃ n, F = n + 1 := ⟨F - 1, by omega⟩
  unfold X2_joinFresh
  rw [show X2_joinFresh_L2 zk zg (J bd) F F = X2_joinFresh_L2 zk zg (J bd) F (n + 1) by rw [← hn], X2_joinFresh_L2, length_J hg]
  simp only [Option.bind_some]
  cases C with
  | nil =>
    have hK0 : K.length = 0 := by
      rcases Nat.eq_zero_or_pos K.length with q | q
      · exact q
      · exact absurd (hC.2.2.2 q) (Nat.lt_irrefl 0)
    refine ⟨zs, zr, zu, zt, ?_, ?_⟩
    · rw [if_pos (by decide)]
      unfold jnAll
      rw [show jc + J ((0 : Nat) : Int) = jc from Int32.add_zero jc]
      rfl
    · unfold jnAll
      rw [hK0]
      exact p0
  | cons b r =>
    have hlen : (b :: r).length = r.length + 1 := rfl
    have hb0 := hC.2.2.1 (by omega)
    have hb0' : b = 0 := hb0
    have hCe : endS (b :: r) K.length 0 = nx r K.length := endS_mid [] b r K.length
    have hse := SOK_lt hC (i := 0) (by omega)
    rw [hCe, hb0] at hse
    have hfm := hP 0 (by omega)
    unfold slpN at hfm
    rw [hCe, hb0] at hfm
    have hnext : ∀ {α : Type} (k : Int32 → Option α), (Option.bind (X0_has F 256 zg (0 + 1)) fun r29 => Option.bind (α := Int32) (if r29 = 0 then Option.bind (X0_length F zk) fun r52 => some r52 else Option.bind (X0_at F 256 zg (0 + 1)) fun r42 => some r42) k) = k (J (nx r K.length)) := by
      intro α k
      rw [show (0 : Int32) + 1 = J ((0 + 1 : Nat) : Int) by decide, ← hCe]
      unfold endS
      by_cases c : 0 + 1 < (b :: r).length
      · have := hC.2.1 _ c
        rw [has_J hg (by omega), if_pos (by omega)]
        simp only [Option.bind_some]
        rw [if_neg (by decide), at_in hg c]
        simp only [Option.bind_some]
        rw [if_pos c]
        congr 2
        omega
      · rw [has_J hg (by omega), if_neg (by omega)]
        simp only [Option.bind_some]
        rw [if_pos (by decide), length_J hk, if_neg c]
        rfl
    have h0a : X0_at F 256 zg 0 = some (J 0) := by
      have := at_in (F := F) hg (i := 0) (by omega)
      rw [hb0] at this
      exact this
    have h0k : X0_at F 256 zk (J 0) = some (J (gd K 0)) := at_in (F := F) hk (i := 0) (by omega)
    rw [if_neg (by rw [J_0, J_le (by omega) (by omega)]; omega), h0a]
    simp only [Option.bind_some]
    rw [hnext, if_pos (by exact Int32.le_refl _), h0k]
    simp only [Option.bind_some]
    obtain ⟨zs1, zr1, zu1, zt2, e1, zt3, e2, zr2, zu2, e3, p3⟩ := PI_piece hF zt hk hs hr hb p0 (n := 0) (e := nx r K.length) (by omega) hse.2 hfm
    rw [show J 0 = J ((0 : Nat) : Int) from rfl, e1]
    simp only [Option.bind_some]
    rw [J_succ, e2]
    simp only [Option.bind_some]
    rw [e3]
    simp only [Option.bind_some, bnd]
    have p4 : PI bd K [b] (nx r K.length) zs1 zr2 zu2 zt3 := by rw [hb0']; exact p3
    obtain ⟨zs', zr', zu', zt', r1, r2⟩ := joinFresh_L hF hk hg hs hr hb hC hP r n [b] [b] zs1 zr2 zu2 zt3 jc (by omega) rfl (by simp) (by simp) p4
    refine ⟨zs', zr', zu', zt', ?_, r2⟩
    have r3 : X2_joinFresh_L2 zk zg (J bd) F n (0 + 1) zs1 zr2 zu2 zt3 jc = some (zs', zr', zu', zt', jc + J (jn bd K [b] r).2) := r1
    rw [r3]
    rfl
end MJOIN
