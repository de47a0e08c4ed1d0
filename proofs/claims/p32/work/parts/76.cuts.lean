/-! cutting keys into pieces -/
section MCUT
variable {F : Nat}
theorem getD_set (l : List Int) (i j : Nat) (x : Int) : (l.set i x).getD j 0 = if j = i ∧ i < l.length then x else l.getD j 0 := by
  simp only [List.getD_eq_getElem?_getD]
  by_cases e : j = i
  · subst e
    by_cases h : j < l.length
    · rw [if_pos ⟨rfl, h⟩, List.getElem?_set_self h]
      rfl
    · rw [if_neg (fun q => h q.2), List.getElem?_eq_none (by simp; omega), List.getElem?_eq_none (by omega)]
  · rw [if_neg (fun q => e q.1), List.getElem?_set_ne (Ne.symm e)]
theorem getD_snoc (l : List Int) (x : Int) (i : Nat) : (l ++ [x]).getD i 0 = if i < l.length then l.getD i 0 else if i = l.length then x else 0 := by
  by_cases h : i < l.length
  · rw [if_pos h, getD_app_l h]
  · rw [if_neg h, getD_app_r (by omega)]
    by_cases e : i = l.length
    · subst e
      simp
    · rw [if_neg e, List.getD_eq_getElem?_getD, List.getElem?_eq_none (by simp; omega)]
      rfl
theorem RA_push {N : Nat} {a : Nat → Int32} {l : List Int} (h : RA N a l) (hl : l.length < N) (x : Int) : RA N (upd a l.length (J x)) (l ++ [x]) := by
  refine ⟨by simp; omega, fun i hi => ?_⟩
  simp at hi
  rw [getD_snoc]
  unfold upd
  by_cases e : i = l.length
  · subst e
    rw [if_pos rfl, if_neg (Nat.lt_irrefl _), if_pos rfl]
  · rw [if_neg e, if_pos (by omega), h.2 i (by omega)]
def slpN (bd : Int) (G C : List Int) (n i : Nat) : qR := rng bd (gd G) (C.getD i 0).toNat (endS C n i - 1 - (C.getD i 0).toNat)
def PF (bd : Int) (G C : List Int) (n : Nat) : Prop := ∀ i, i < C.length → fitq (slpN bd G C n i)
def SL (bd : Int) (G C : List Int) (n : Nat) (R U : List Int) : Prop := R.length = C.length ∧ U.length = C.length ∧ ∀ i, i < C.length → R.getD i 0 = (redq (slpN bd G C n i)).1 ∧ U.getD i 0 = (redq (slpN bd G C n i)).2
def lastS (C : List Int) : Nat := (C.getD (C.length - 1) 0).toNat
def TL (bd : Int) (G C : List Int) (n : Nat) (t : zT) : Prop := 0 < C.length → t = RT (gd G (lastS C)) (lastS C) bd (rng bd (gd G) (lastS C) (n - 1 - lastS C))
theorem endS_last {C : List Int} (n : Nat) (h : 0 < C.length) : endS C n (C.length - 1) = n := by
  unfold endS
  rw [if_neg (by omega)]
theorem slpN_last {bd : Int} {G C : List Int} (n : Nat) (h : 0 < C.length) : slpN bd G C n (C.length - 1) = rng bd (gd G) (lastS C) (n - 1 - lastS C) := by
  unfold slpN lastS
  rw [endS_last n h]
theorem lastS_lt {C : List Int} {n : Nat} (h : SOK C n) (hc : 0 < C.length) : lastS C < n := by
  have := h.2.1 (C.length - 1) (by omega)
  unfold lastS
  omega
theorem lastS_J {C : List Int} {n : Nat} (h : SOK C n) (hc : 0 < C.length) : C.getD (C.length - 1) 0 = (lastS C : Nat) := by
  have := h.2.1 (C.length - 1) (by omega)
  unfold lastS
  omega
theorem lastS_snoc (C : List Int) (p : Nat) : lastS (C ++ [(p : Int)]) = p := by
  unfold lastS
  rw [List.length_append, getD_snoc]
  simp
theorem SOK_len {C : List Int} {n : Nat} (h : SOK C n) : C.length ≤ n := by
  have key : ∀ i, i < C.length → (i : Int) ≤ C.getD i 0 := by
    intro i
    induction i with
    | zero => intro hi; have := h.2.1 0 hi; omega
    | succ i ih =>
      intro hi
      have h1 := ih (by omega)
      have h2 := h.1 i (i + 1) (by omega) hi
      omega
  rcases Nat.eq_zero_or_pos C.length with q | q
  · omega
  · have h1 := key (C.length - 1) (by omega)
    have h2 := h.2.1 (C.length - 1) (by omega)
    omega
/-- the next key: n keys are there already -/
theorem SOK_more {C : List Int} {n : Nat} (h : SOK C n) (hc : 0 < C.length) : SOK C (n + 1) := by
  refine ⟨h.1, fun i hi => ?_, h.2.2.1, fun _ => hc⟩
  have := h.2.1 i hi
  omega
theorem SOK_snoc {C : List Int} {n : Nat} (h : SOK C n) : SOK (C ++ [(n : Int)]) (n + 1) := by
  obtain ⟨h1, h2, h3, h4⟩ := h
  refine ⟨fun i j hij hj => ?_, fun i hi => ?_, fun _ => ?_, fun _ => by simp⟩
  · simp at hj
    rw [getD_snoc, getD_snoc, if_pos (by omega)]
    by_cases e : j < C.length
    · rw [if_pos e]
      exact h1 i j hij e
    · rw [if_neg e, if_pos (by omega)]
      have := h2 i (by omega)
      omega
  · simp at hi
    rw [getD_snoc]
    by_cases e : i < C.length
    · rw [if_pos e]
      have := h2 i e
      omega
    · rw [if_neg e, if_pos (by omega)]
      omega
  · rw [getD_snoc]
    by_cases e : 0 < C.length
    · rw [if_pos e, h3 e]
    · rw [if_neg e, if_pos (by omega)]
      rcases Nat.eq_zero_or_pos n with q | q
      · omega
      · exact absurd (h4 q) e
theorem endS_snoc {C : List Int} {n i : Nat} (hi : i < C.length) (m : Nat) : endS (C ++ [(n : Int)]) m i = endS C n i := by
  unfold endS
  rw [List.length_append, getD_snoc]
  by_cases e : i + 1 < C.length
  · rw [if_pos (by simp; omega), if_pos e, if_pos e]
  · rw [if_pos (by simp; omega), if_neg e, if_pos (by omega), if_neg e]
    omega
theorem slpN_snoc {bd : Int} {G C : List Int} {n i : Nat} (hi : i < C.length) (m : Nat) : slpN bd G (C ++ [(n : Int)]) m i = slpN bd G C n i := by
  unfold slpN
  rw [endS_snoc hi, getD_snoc, if_pos hi]
theorem slpN_new {bd : Int} {G C : List Int} {n : Nat} : slpN bd G (C ++ [(n : Int)]) (n + 1) C.length = (0, 1, 1, 0) := by
  unfold slpN endS
  rw [List.length_append, getD_snoc, if_neg (Nat.lt_irrefl _), if_pos rfl, if_neg (by simp)]
  rw [show n + 1 - 1 - ((n : Int)).toNat = 0 by omega]
  rfl
theorem slpN_keep {bd : Int} {G C : List Int} {n i : Nat} (hi : i + 1 < C.length) (m : Nat) : slpN bd G C m i = slpN bd G C n i := by
  unfold slpN endS
  rw [if_pos hi, if_pos hi]
theorem PF_snoc {bd : Int} {G C : List Int} {n : Nat} (h : PF bd G C n) : PF bd G (C ++ [(n : Int)]) (n + 1) := by
  intro i hi
  simp at hi
  by_cases e : i < C.length
  · rw [slpN_snoc e]
    exact h i e
  · rw [show i = C.length by omega, slpN_new]
    exact fitR_0 bd (gd G) 0
theorem PF_more {bd : Int} {G C : List Int} {n m : Nat} (h : PF bd G C n) (hc : 0 < C.length) (hf : fitq (rng bd (gd G) (lastS C) (m - 1 - lastS C))) : PF bd G C m := by
  intro i hi
  by_cases e : i + 1 < C.length
  · rw [slpN_keep e (n := n)]
    exact h i hi
  · rw [show i = C.length - 1 by omega, slpN_last m hc]
    exact hf
/-- one key more: a new piece, or not -/
def cutS (bd : Int) (G C : List Int) (c0 p : Nat) : List Int := if C.length = c0 ∨ ¬ fitq (rng bd (gd G) (lastS C) (p - lastS C)) then C ++ [(p : Int)] else C
def cutF (bd : Int) (G : List Int) (c0 : Nat) : List Int → Nat → Nat → List Int
  | C, _, 0 => C
  | C, p, d + 1 => cutF bd G c0 (cutS bd G C c0 p) (p + 1) d
theorem cutS_ok {bd : Int} {G C : List Int} {c0 p : Nat} (h : SOK C p) (hf : PF bd G C p) (hc : c0 ≤ C.length) (hp : 0 < p ∨ C.length = c0) : SOK (cutS bd G C c0 p) (p + 1) ∧ PF bd G (cutS bd G C c0 p) (p + 1) ∧ c0 < (cutS bd G C c0 p).length ∧ C.length ≤ (cutS bd G C c0 p).length := by
  unfold cutS
  by_cases e : C.length = c0 ∨ ¬ fitq (rng bd (gd G) (lastS C) (p - lastS C))
  · rw [if_pos e]
    exact ⟨SOK_snoc h, PF_snoc hf, by simp; omega, by simp⟩
  · rw [if_neg e]
    have e1 : ¬ C.length = c0 := fun q => e (Or.inl q)
    have e2 : fitq (rng bd (gd G) (lastS C) (p - lastS C)) := Classical.not_not.mp (fun q => e (Or.inr q))
    exact ⟨SOK_more h (by omega), PF_more hf (by omega) e2, by omega, Nat.le_refl _⟩
theorem cutF_ok {bd : Int} {G : List Int} {c0 : Nat} : ∀ (d p : Nat) (C : List Int), SOK C p → PF bd G C p → c0 ≤ C.length → (0 < p ∨ C.length = c0) → SOK (cutF bd G c0 C p d) (p + d) ∧ PF bd G (cutF bd G c0 C p d) (p + d) ∧ C.length ≤ (cutF bd G c0 C p d).length
  | 0, p, C, h, hf, _, _ => ⟨h, hf, Nat.le_refl _⟩
  | d + 1, p, C, h, hf, hc, hp => by
    obtain ⟨a1, a2, a3, a4⟩ := cutS_ok h hf hc hp
    have := cutF_ok (c0 := c0) d (p + 1) (cutS bd G C c0 p) a1 a2 (by omega) (Or.inl (by omega))
    rw [show p + (d + 1) = p + 1 + d by omega]
    exact ⟨this.1, this.2.1, Nat.le_trans a4 this.2.2⟩
theorem rng_next {bd : Int} {f : Nat → Int} {o p : Nat} (h : o < p) : rng bd f o (p - o) = stepR bd (rng bd f o (p - 1 - o)) (f p - f o) ((p : Int) - (o : Int)) := by
  obtain ⟨k, rfl⟩ : ∃ k, p = o + k + 1 := ⟨p - o - 1, by omega⟩
  rw [show o + k + 1 - o = k + 1 by omega, show o + k + 1 - 1 - o = k by omega, rng]
  congr 1
  omega
/-- the class's tail takes the key at the place p -/
theorem take_K {bd : Int} {K : List Int} {o p : Nat} (hl : K.length ≤ 256) (hs : Srt K) (hr : KR K) (hb : 0 ≤ bd ∧ bd ≤ 20) (h : o < p) (hp : p < K.length) (hf : fitq (rng bd (gd K) o (p - 1 - o))) : X1_take F (RT (gd K o) o bd (rng bd (gd K) o (p - 1 - o))) (J (gd K p)) (J p) = if fitq (rng bd (gd K) o (p - o)) then some (1, RT (gd K o) o bd (rng bd (gd K) o (p - o))) else some (0, RT (gd K o) o bd (rng bd (gd K) o (p - 1 - o))) := by
  have hq := rngK_ok (o := o) (k := p - 1 - o) hl hs hr hb (by omega)
  have h1 := hs o p h hp
  have h2 := hr o (by omega)
  have h3 := hr p hp
  have := take_J (F := F) (k0 := gd K o) (p0 := o) (k := gd K p) (p := p) hq hf hb (by unfold gd; omega) (by unfold gd; omega) (by unfold gd; omega) (by omega) (by omega) (by omega)
  rw [rng_next h]
  by_cases c : fitq (stepR bd (rng bd (gd K) o (p - 1 - o)) (gd K p - gd K o) ((p : Int) - (o : Int)))
  · rw [if_pos c]
    exact this.1 c
  · rw [if_neg c]
    exact this.2 c
theorem cutFresh_L {bd : Int} {G : List Int} {zf : zN} {c0 b : Nat} (hG : RN 256 zf G) (hs : Srt G) (hr : KR G) (hb : 0 ≤ bd ∧ bd ≤ 20) : ∀ (d n p : Nat) (C : List Int) (zt : zT) (zg : zN) (zsp : Int32), d < n → p + d = G.length → b < p → RN 256 zg C → SOK C p → PF bd G C p → c0 < C.length → TL bd G C p zt → ∃ zt' zg', X2_cutFresh_L2 (J b) zf (J bd) F n (J p) zt zg zsp = some (zt', zg', zsp + J ((cutF bd G c0 C p d).length - C.length : Nat)) ∧ RN 256 zg' (cutF bd G c0 C p d)
  | d, 0, p, C, zt, zg, zsp, h, _, _, _, _, _, _, _ => absurd h (Nat.not_lt_zero d)
  | 0, n + 1, p, C, zt, zg, zsp, _, hd, hbp, hg, hS, hP, hc, hT => by
    have hl := hG.len
    refine ⟨zt, zg, ?_, hg⟩
    rw [X2_cutFresh_L2, length_J hG]
    simp only [Option.bind_some]
    rw [if_pos (by rw [J_leN (by omega) (by omega)]; omega)]
    rw [show (cutF bd G c0 C p 0).length - C.length = 0 by unfold cutF; omega]
    rw [show zsp + J ((0 : Nat) : Int) = zsp from Int32.add_zero zsp]
  | d + 1, n + 1, p, C, zt, zg, zsp, h, hd, hbp, hg, hS, hP, hc, hT => by
    have hl := hG.len
    have hcl := SOK_len hS
    have hlast := lastS_lt hS (by omega)
    obtain ⟨a1, a2, a3, a4⟩ := cutS_ok (c0 := c0) hS hP (by omega) (Or.inl (by omega))
    have hx := hr p (by omega)
    have hfl := hP (C.length - 1) (by omega)
    rw [slpN_last p (by omega)] at hfl
    rw [X2_cutFresh_L2, length_J hG]
    simp only [Option.bind_some]
    rw [if_neg (by rw [J_leN (by omega) (by omega)]; omega), at_in hG (by omega)]
    simp only [Option.bind_some]
    rw [if_neg (by rw [J_eqN (by omega) (by omega)]; omega), hT (by omega)]
    rw [show J (G.getD p 0) = J (gd G p) from rfl, take_K hl hs hr hb hlast (by omega) hfl]
    by_cases c : fitq (rng bd (gd G) (lastS C) (p - lastS C))
    · rw [if_pos c]
      simp only [Option.bind_some]
      rw [if_neg (by decide)]
      simp only [bnd]
      rw [J_succ]
      have e : cutS bd G C c0 p = C := by
        unfold cutS
        rw [if_neg (by intro q; rcases q with q | q; exact absurd q (by omega); exact q c)]
      rw [e] at a1 a2
      have := cutFresh_L (c0 := c0) (b := b) hG hs hr hb d n (p + 1) C (RT (gd G (lastS C)) (lastS C) bd (rng bd (gd G) (lastS C) (p - lastS C))) zg zsp (by omega) (by omega) (by omega) hg a1 a2 hc (fun _ => rfl)
      rw [cutF, e]
      exact this
    · rw [if_neg c]
      simp only [Option.bind_some, if_true]
      rw [begin_J]
      simp only [Option.bind_some]
      obtain ⟨zg1, e1, hg1⟩ := push_J (F := F) hg (by omega) (x := (p : Int)) (by omega)
      rw [e1]
      simp only [Option.bind_some]
      rw [if_neg (by rw [J_eqN (by omega) (by omega)]; omega)]
      simp only [bnd]
      rw [J_succ]
      have e : cutS bd G C c0 p = C ++ [(p : Int)] := by
        unfold cutS
        rw [if_pos (Or.inr c)]
      rw [e] at a1 a2 a3
      obtain ⟨zt', zg', r1, r2⟩ := cutFresh_L (c0 := c0) (b := b) hG hs hr hb d n (p + 1) (C ++ [(p : Int)]) (RT (gd G p) p bd (0, 1, 1, 0)) zg1 (zsp + 1) (by omega) (by omega) (by omega) hg1 a1 a2 a3 (fun _ => by
        rw [lastS_snoc, show p + 1 - 1 - p = 0 by omega]
        rfl)
      rw [cutF, e]
      refine ⟨zt', zg', ?_, r2⟩
      rw [r1]
      have hlen := (cutF_ok (c0 := c0) d (p + 1) _ a1 a2 (by omega) (Or.inl (by omega))).2.2
      rw [List.length_append] at hlen ⊢
      simp only [List.length_cons, List.length_nil] at hlen ⊢
      congr 3
      rw [Int32.add_assoc, J_1, J_add]
      congr 2
      omega
theorem cutFresh_J (hF : 2000 ≤ F) {bd : Int} {G C : List Int} {zf zg : zN} {zt : zT} {b : Nat} (zsp : Int32) (hG : RN 256 zf G) (hs : Srt G) (hr : KR G) (hb : 0 ≤ bd ∧ bd ≤ 20) (hbG : b ≤ G.length) (hg : RN 256 zg C) (hS : SOK C b) (hP : PF bd G C b) : ∃ zt' zg', X2_cutFresh F zt zf zg (J bd) zsp (J b) = some (zt', zg', zsp + J ((cutF bd G C.length C b (G.length - b)).length - C.length - 1 : Nat)) ∧ RN 256 zg' (cutF bd G C.length C b (G.length - b)) := by
  have hl := hG.len
  have hcl := SOK_len hS
  unfold X2_cutFresh
  obtain ⟨n, hn⟩ : ∃ n, F = n + 1 := ⟨F - 1, by omega⟩
  rw [show X2_cutFresh_L2 (J b) zf (J bd) F F = X2_cutFresh_L2 (J b) zf (J bd) F (n + 1) by rw [← hn], X2_cutFresh_L2, length_J hG]
  simp only [Option.bind_some]
  by_cases c : G.length = b
  · rw [if_pos (by rw [J_leN (by omega) (by omega)]; omega)]
    refine ⟨zt, zg, ?_, by rw [show G.length - b = 0 by omega]; exact hg⟩
    rw [show (cutF bd G C.length C b (G.length - b)).length - C.length - 1 = 0 by rw [show G.length - b = 0 by omega]; unfold cutF; omega]
    rw [show zsp + J ((0 : Nat) : Int) = zsp from Int32.add_zero zsp]
    rfl
  · rw [if_neg (by rw [J_leN (by omega) (by omega)]; omega), at_in hG (by omega)]
    simp only [Option.bind_some, if_true]
    rw [begin_J]
    simp only [Option.bind_some]
    obtain ⟨zg1, e1, hg1⟩ := push_J (F := F) hg (by omega) (x := (b : Int)) (by omega)
    rw [e1]
    simp only [Option.bind_some]
    simp only [bnd]
    rw [J_succ]
    obtain ⟨d, hd⟩ : ∃ d, G.length - b = d + 1 := ⟨G.length - b - 1, by omega⟩
    have e : cutS bd G C C.length b = C ++ [(b : Int)] := by
      unfold cutS
      rw [if_pos (Or.inl rfl)]
    obtain ⟨zt', zg', r1, r2⟩ := cutFresh_L (F := F) (c0 := C.length) (b := b) hG hs hr hb d n (b + 1) (C ++ [(b : Int)]) (RT (gd G b) b bd (0, 1, 1, 0)) zg1 (zsp + 0) (by omega) (by omega) (by omega) hg1 (SOK_snoc hS) (PF_snoc hP) (by simp) (fun _ => by
        rw [lastS_snoc, show b + 1 - 1 - b = 0 by omega]
        rfl)
    rw [hd, cutF, e]
    refine ⟨zt', zg', ?_, r2⟩
    rw [show G.getD b 0 = gd G b from rfl, r1]
    simp only [Option.bind_some]
    rw [List.length_append]
    simp only [List.length_cons, List.length_nil]
    rw [Int32.add_zero, Nat.sub_sub]
end MCUT
