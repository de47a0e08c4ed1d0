/-! the class's pieces: begun, followed, joined -/
section MPIE
variable {F : Nat}
theorem okq_0 : okq (0, 1, 1, 0) := by unfold okq; simp
theorem endS_gt {S : List Int} {n i : Nat} (h : SOK S n) (hi : i < S.length) : (S.getD i 0).toNat < endS S n i ∧ endS S n i ≤ n := SOK_lt h hi
theorem slpN_cong {bd : Int} {G G' C : List Int} {n i : Nat} (h : ∀ j, j < n → gd G j = gd G' j) (hS : SOK C n) (hi : i < C.length) : slpN bd G C n i = slpN bd G' C n i := by
  have := endS_gt hS hi
  exact rng_cong _ (fun j h1 h2 => h j (by omega))
theorem slpN_ok {K S : List Int} {bd : Int} {n i : Nat} (hl : K.length ≤ 256) (hs : Srt K) (hr : KR K) (hb : 0 ≤ bd ∧ bd ≤ 20) (h : SOK S n) (hn : n ≤ K.length) (hi : i < S.length) : okq (slpN bd K S n i) := by
  have := endS_gt h hi
  exact rngK_ok hl hs hr hb (by omega)
def PI (bd : Int) (K S : List Int) (n : Nat) (zs zr zu : zN) (zt : zT) : Prop := RN 256 zs S ∧ SOK S n ∧ PF bd K S n ∧ TL bd K S n zt ∧ ∃ R U, RN 256 zr R ∧ RN 256 zu U ∧ SL bd K S n R U
theorem PI_cong {bd : Int} {K K' S : List Int} {n : Nat} {zs zr zu : zN} {zt : zT} (h : ∀ j, j < n → gd K j = gd K' j) (p : PI bd K S n zs zr zu zt) : PI bd K' S n zs zr zu zt := by
  obtain ⟨h1, h2, h3, h4, R, U, h5, h6, h7, h8, h9⟩ := p
  refine ⟨h1, h2, fun i hi => ?_, fun hc => ?_, R, U, h5, h6, h7, h8, fun i hi => ?_⟩
  · rw [← slpN_cong h h2 hi]
    exact h3 i hi
  · have := slpN_cong (bd := bd) h h2 (i := S.length - 1) (by omega)
    rw [slpN_last n hc, slpN_last n hc] at this
    rw [← this, ← h _ (lastS_lt h2 hc)]
    exact h4 hc
  · rw [← slpN_cong h h2 hi]
    exact h9 i hi
theorem SL_set {bd : Int} {G C R U : List Int} {n : Nat} (m : Nat) (h : SL bd G C n R U) (hc : 0 < C.length) : SL bd G C m (R.set (C.length - 1) (redq (slpN bd G C m (C.length - 1))).1) (U.set (C.length - 1) (redq (slpN bd G C m (C.length - 1))).2) := by
  obtain ⟨h1, h2, h3⟩ := h
  refine ⟨by simpa using h1, by simpa using h2, fun i hi => ?_⟩
  rw [getD_set, getD_set]
  by_cases e : i = C.length - 1
  · subst e
    rw [if_pos ⟨rfl, by omega⟩, if_pos ⟨rfl, by omega⟩]
    exact ⟨rfl, rfl⟩
  · rw [if_neg (fun q => e q.1), if_neg (fun q => e q.1), slpN_keep (by omega) (n := n)]
    exact h3 i hi
theorem SL_snoc {bd : Int} {G C R U : List Int} {n : Nat} (h : SL bd G C n R U) : SL bd G (C ++ [(n : Int)]) (n + 1) (R ++ [(redq (0, 1, 1, 0)).1]) (U ++ [(redq (0, 1, 1, 0)).2]) := by
  obtain ⟨h1, h2, h3⟩ := h
  refine ⟨by simp [h1], by simp [h2], fun i hi => ?_⟩
  simp at hi
  rw [getD_snoc, getD_snoc, h1, h2]
  by_cases e : i < C.length
  · rw [if_pos e, if_pos e, slpN_snoc e]
    exact h3 i e
  · rw [if_neg e, if_neg e, if_pos (by omega), if_pos (by omega), show i = C.length by omega, slpN_new]
    exact ⟨rfl, rfl⟩
theorem noteTail_J (hF : 2000 ≤ F) {S R U : List Int} {zs zr zu : zN} {k p bd : Int} {q : qR} (hs : RN 256 zs S) (hr : RN 256 zr R) (hu : RN 256 zu U) (h1 : R.length = S.length) (h2 : U.length = S.length) (h0 : 0 < S.length) (hq : okq q) : ∃ zr' zu', X2_noteTailSlope F zs zr zu (RT k p bd q) = some (zr', zu') ∧ RN 256 zr' (R.set (S.length - 1) (redq q).1) ∧ RN 256 zu' (U.set (S.length - 1) (redq q).2) := by
  have hg := redq_rng hq
  obtain ⟨zr', e1, hr'⟩ := put_in (F := F) hr (i := S.length - 1) (by omega) (x := (redq q).1) (by omega)
  obtain ⟨zu', e2, hu'⟩ := put_in (F := F) hu (i := S.length - 1) (by omega) (x := (redq q).2) (by omega)
  refine ⟨zr', zu', ?_, hr', hu'⟩
  unfold X2_noteTailSlope
  rw [length_J hs]
  simp only [Option.bind_some, bnd]
  rw [J_pred h0, leastRise_J hF hq]
  simp only [Option.bind_some]
  rw [e1]
  simp only [Option.bind_some]
  rw [leastRun_J hF hq]
  simp only [Option.bind_some]
  rw [e2]
  rfl
theorem beginPiece_J (hF : 2000 ≤ F) {S R U : List Int} {zs zr zu : zN} {zt : zT} {k bd : Int} {p : Nat} (hs : RN 256 zs S) (hr : RN 256 zr R) (hu : RN 256 zu U) (h1 : R.length = S.length) (h2 : U.length = S.length) (h0 : S.length < 256) (hp : p ≤ 256) : ∃ zs' zr' zu', X2_beginPiece F zs zr zu zt (J bd) (J k) (J p) = some (zs', zr', zu', RT k p bd (0, 1, 1, 0)) ∧ RN 256 zs' (S ++ [(p : Int)]) ∧ RN 256 zr' (R ++ [(redq (0, 1, 1, 0)).1]) ∧ RN 256 zu' (U ++ [(redq (0, 1, 1, 0)).2]) := by
  have hg := redq_rng okq_0
  obtain ⟨zs', e0, hs'⟩ := push_J (F := F) hs (by omega) (x := (p : Int)) (by omega)
  obtain ⟨zr', e1, hr'⟩ := push_J (F := F) hr (by omega) (x := (redq (0, 1, 1, 0)).1) (by omega)
  obtain ⟨zu', e2, hu'⟩ := push_J (F := F) hu (by omega) (x := (redq (0, 1, 1, 0)).2) (by omega)
  refine ⟨zs', zr', zu', ?_, hs', hr', hu'⟩
  unfold X2_beginPiece
  rw [begin_J]
  simp only [Option.bind_some]
  rw [e0]
  simp only [Option.bind_some]
  rw [leastRise_J hF okq_0]
  simp only [Option.bind_some]
  rw [e1]
  simp only [Option.bind_some]
  rw [leastRun_J hF okq_0]
  simp only [Option.bind_some]
  rw [e2]
  rfl
/-- a key that begins a piece -/
theorem PI_begin (hF : 2000 ≤ F) {bd : Int} {K S : List Int} {n : Nat} {zs zr zu : zN} {zt : zT} (z : zT) (p : PI bd K S n zs zr zu zt) (hn : n < 256) : ∃ zs' zr' zu' zt', X2_beginPiece F zs zr zu z (J bd) (J (gd K n)) (J n) = some (zs', zr', zu', zt') ∧ PI bd K (S ++ [(n : Int)]) (n + 1) zs' zr' zu' zt' := by
  obtain ⟨h1, h2, h3, h4, R, U, h5, h6, h7⟩ := p
  have hc := SOK_len h2
  obtain ⟨zs', zr', zu', e, a1, a2, a3⟩ := beginPiece_J (zt := z) (k := gd K n) (bd := bd) (p := n) hF h1 h5 h6 h7.1 h7.2.1 (by omega) (by omega)
  refine ⟨zs', zr', zu', _, e, a1, SOK_snoc h2, PF_snoc h3, fun _ => ?_, _, _, a2, a3, SL_snoc h7⟩
  rw [lastS_snoc, show n + 1 - 1 - n = 0 by omega]
  rfl
/-- keys that follow in the last piece -/
theorem PI_note (hF : 2000 ≤ F) {bd : Int} {K S : List Int} {n m : Nat} {zs zr zu : zN} {zt : zT} (hl : K.length ≤ 256) (hs : Srt K) (hr : KR K) (hb : 0 ≤ bd ∧ bd ≤ 20) (p : PI bd K S n zs zr zu zt) (hnm : n ≤ m) (hm : m ≤ K.length) (h0 : 0 < S.length) (hf : fitq (rng bd (gd K) (lastS S) (m - 1 - lastS S))) : ∃ zr' zu', X2_noteTailSlope F zs zr zu (RT (gd K (lastS S)) (lastS S) bd (rng bd (gd K) (lastS S) (m - 1 - lastS S))) = some (zr', zu') ∧ PI bd K S m zs zr' zu' (RT (gd K (lastS S)) (lastS S) bd (rng bd (gd K) (lastS S) (m - 1 - lastS S))) := by
  obtain ⟨h1, h2, h3, h4, R, U, h5, h6, h7⟩ := p
  have hlt := lastS_lt h2 h0
  obtain ⟨zr', zu', e, a1, a2⟩ := noteTail_J (k := gd K (lastS S)) (p := lastS S) (bd := bd) hF h1 h5 h6 h7.1 h7.2.1 h0 (rngK_ok (bd := bd) (o := lastS S) (k := m - 1 - lastS S) hl hs hr hb (by omega))
  refine ⟨zr', zu', e, h1, ?_, PF_more h3 h0 hf, fun _ => rfl, _, _, a1, a2, ?_⟩
  · refine ⟨h2.1, fun i hi => ?_, h2.2.2.1, fun _ => h0⟩
    have := h2.2.1 i hi
    omega
  · have := SL_set m h7 h0
    rw [slpN_last m h0] at this
    exact this
theorem addLast_J (hF : 2000 ≤ F) {bd : Int} {K M S : List Int} {x : Int} {zk zm zs zr zu : zN} {zt : zT} (hk : RN 256 zk K) (hm : RN 256 zm M) (hmk : M.length = K.length) (hs : Srt (K ++ [x])) (hr : KR (K ++ [x])) (hb : 0 ≤ bd ∧ bd ≤ 20) (hl : K.length < 256) (p : PI bd K S K.length zs zr zu zt) : ∃ zk' zm' zs' zr' zu' zt', X2_addLast F zk zm zs zr zu zt (J bd) (J x) = some (zk', zm', zs', zr', zu', zt') ∧ RN 256 zk' (K ++ [x]) ∧ RN 256 zm' (M ++ [0]) ∧ PI bd (K ++ [x]) (cutS bd (K ++ [x]) S 0 K.length) (K.length + 1) zs' zr' zu' zt' := by
  have hx := hr K.length (by simp)
  rw [getD_snoc, if_neg (Nat.lt_irrefl _), if_pos rfl] at hx
  have hxg : gd (K ++ [x]) K.length = x := by
    unfold gd
    rw [getD_snoc, if_neg (Nat.lt_irrefl _), if_pos rfl]
  have p' := PI_cong (K' := K ++ [x]) (fun j hj => by unfold gd; rw [getD_app_l hj]) p
  have hl' : (K ++ [x]).length ≤ 256 := by simp; omega
  obtain ⟨h1, h2, h3, h4, -⟩ := id p'
  have hS := h1.len
  obtain ⟨zk', e1, hk'⟩ := push_J (F := F) hk hl (x := x) (by omega)
  obtain ⟨zm', e2, hm'⟩ := push_J (F := F) hm (by omega) (x := 0) (by omega)
  unfold X2_addLast
  rw [length_J hk]
  simp only [Option.bind_some]
  rw [e1]
  simp only [Option.bind_some]
  rw [J_0, e2]
  simp only [Option.bind_some]
  rw [length_J h1]
  simp only [Option.bind_some]
  by_cases c0 : S.length = 0
  · rw [if_pos (by rw [J_le (by omega) (by omega)]; omega)]
    obtain ⟨zs', zr', zu', zt', e, q⟩ := PI_begin hF zt p' (by omega)
    rw [hxg] at e
    rw [e]
    refine ⟨zk', zm', zs', zr', zu', zt', rfl, hk', hm', ?_⟩
    rw [show cutS bd (K ++ [x]) S 0 K.length = S ++ [(K.length : Int)] by unfold cutS; rw [if_pos (Or.inl c0)]]
    exact q
  · rw [if_neg (by rw [J_le (by omega) (by omega)]; omega), h4 (by omega)]
    have hlt := lastS_lt h2 (by omega)
    have hfl := h3 (S.length - 1) (by omega)
    rw [slpN_last _ (by omega)] at hfl
    have ht := take_K (F := F) hl' hs hr hb hlt (by simp) hfl
    rw [hxg] at ht
    rw [ht]
    by_cases c : fitq (rng bd (gd (K ++ [x])) (lastS S) (K.length - lastS S))
    · rw [if_pos c]
      simp only [Option.bind_some]
      rw [if_neg (by decide)]
      obtain ⟨zr', zu', e, q⟩ := PI_note hF (m := K.length + 1) hl' hs hr hb p' (by omega) (by simp) (by omega) (by rw [show K.length + 1 - 1 - lastS S = K.length - lastS S by omega]; exact c)
      rw [show K.length + 1 - 1 - lastS S = K.length - lastS S by omega] at e q
      rw [e]
      refine ⟨zk', zm', zs, zr', zu', _, rfl, hk', hm', ?_⟩
      rw [show cutS bd (K ++ [x]) S 0 K.length = S by unfold cutS; rw [if_neg (by intro h; rcases h with h | h; exact c0 h; exact h c)]]
      exact q
    · rw [if_neg c]
      simp only [Option.bind_some, if_true]
      obtain ⟨zs', zr', zu', zt', e, q⟩ := PI_begin hF (RT (gd (K ++ [x]) (lastS S)) (lastS S) bd (rng bd (gd (K ++ [x])) (lastS S) (K.length - 1 - lastS S))) p' (by omega)
      rw [hxg] at e
      rw [e]
      refine ⟨zk', zm', zs', zr', zu', zt', rfl, hk', hm', ?_⟩
      rw [show cutS bd (K ++ [x]) S 0 K.length = S ++ [(K.length : Int)] by unfold cutS; rw [if_pos (Or.inr c)]]
      exact q
theorem fit_mono {bd : Int} {K : List Int} {o k m : Nat} (hl : K.length ≤ 256) (hs : Srt K) (hr : KR K) (hb : 0 ≤ bd ∧ bd ≤ 20) (h : k ≤ m) (hm : o + m < K.length) (hf : fitq (rng bd (gd K) o m)) : fitq (rng bd (gd K) o k) := by
  obtain ⟨d, rfl⟩ : ∃ d, m = k + d := ⟨m - k, by omega⟩
  exact fit_prefix hb (fun i j _ h1 h2 => hs i j h1 h2) (fun i _ h1 => hr i h1) hl d hm hf
theorem tailTakes_L {bd : Int} {K : List Int} {o e : Nat} {zk : zN} (hk : RN 256 zk K) (hs : Srt K) (hr : KR K) (hb : 0 ≤ bd ∧ bd ≤ 20) (he : e ≤ K.length) : ∀ (d n p : Nat), d < n → p + d = e → o < p → fitq (rng bd (gd K) o (p - 1 - o)) → (fitq (rng bd (gd K) o (e - 1 - o)) → X2_tailTakes_L2 (J e) zk F n (J p) (RT (gd K o) o bd (rng bd (gd K) o (p - 1 - o))) = some (Sum.inr (RT (gd K o) o bd (rng bd (gd K) o (e - 1 - o))))) ∧ (¬ fitq (rng bd (gd K) o (e - 1 - o)) → ∃ zt', X2_tailTakes_L2 (J e) zk F n (J p) (RT (gd K o) o bd (rng bd (gd K) o (p - 1 - o))) = some (Sum.inl (0, zt')))
  | d, 0, p, h, _, _, _ => absurd h (Nat.not_lt_zero d)
  | 0, n + 1, p, _, hd, ho, hf => by
    have hl := hk.len
    have e1 : p = e := by omega
    subst e1
    refine ⟨fun _ => ?_, fun c => absurd hf c⟩
    rw [X2_tailTakes_L2, if_pos (by exact Int32.le_refl _)]
  | d + 1, n + 1, p, h, hd, ho, hf => by
    have hl := hk.len
    rw [X2_tailTakes_L2, if_neg (by rw [J_leN (by omega) (by omega)]; omega), at_in hk (by omega)]
    simp only [Option.bind_some]
    rw [show J (K.getD p 0) = J (gd K p) from rfl, take_K hl hs hr hb ho (by omega) hf]
    by_cases c : fitq (rng bd (gd K) o (p - o))
    · rw [if_pos c]
      simp only [Option.bind_some]
      rw [if_neg (by decide)]
      simp only [bnd]
      rw [J_succ]
      have := tailTakes_L (o := o) hk hs hr hb he d n (p + 1) (by omega) (by omega) (by omega) (by rw [show p + 1 - 1 - o = p - o by omega]; exact c)
      rw [show p + 1 - 1 - o = p - o by omega] at this
      exact this
    · rw [if_neg c]
      simp only [Option.bind_some, if_true]
      refine ⟨fun c2 => absurd (fit_mono hl hs hr hb (by omega) (by omega) c2) c, fun _ => ⟨_, rfl⟩⟩
theorem tailTakes_J (hF : 2000 ≤ F) {bd : Int} {K : List Int} {o p e : Nat} {zk : zN} (hk : RN 256 zk K) (hs : Srt K) (hr : KR K) (hb : 0 ≤ bd ∧ bd ≤ 20) (he : e ≤ K.length) (hp : p ≤ e) (ho : o < p) (hf : fitq (rng bd (gd K) o (p - 1 - o))) : (fitq (rng bd (gd K) o (e - 1 - o)) → X2_tailTakes F zk (RT (gd K o) o bd (rng bd (gd K) o (p - 1 - o))) (J p) (J e) = some (1, RT (gd K o) o bd (rng bd (gd K) o (e - 1 - o)))) ∧ (¬ fitq (rng bd (gd K) o (e - 1 - o)) → ∃ zt', X2_tailTakes F zk (RT (gd K o) o bd (rng bd (gd K) o (p - 1 - o))) (J p) (J e) = some (0, zt')) := by
  have hl := hk.len
  have := tailTakes_L (F := F) (o := o) hk hs hr hb he (e - p) F p (by omega) (by omega) ho hf
  unfold X2_tailTakes
  refine ⟨fun c => ?_, fun c => ?_⟩
  · rw [this.1 c]
    rfl
  · obtain ⟨zt', q⟩ := this.2 c
    exact ⟨zt', by rw [q]; rfl⟩
end MPIE
