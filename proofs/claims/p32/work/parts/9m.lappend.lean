/-! appending, at a turn -/
section SE2
variable {F : Nat}
theorem J_1000001 : (1000001 : Int32) = J 1000001 := by decide +kernel
theorem HD_last {v : Nat → Int32} {S : List Int} {p : Nat} (h : HD v S p) (hS : SOK S p) (h0 : 0 < S.length) : v (lastS S) = 1 ∧ ∀ t, lastS S < t → t < p → v t = 0 := by
  have hlt := lastS_lt hS h0
  refine ⟨HD_in h hlt ?_, fun t h1 h2 => HD_out h h2 ?_⟩
  · rw [← lastS_J hS h0]
    exact getD_mem (by omega)
  · exact SOK_gap (i := S.length - 1) hS (by omega) h1 (by rw [endS_last _ h0]; exact h2)
theorem l345 {vh : Nat → Int32} {s : Nat} (h1 : vh s = 1) : ∀ (d n b : Nat), d < n → b = s + d → b < 64 → (∀ t, s < t → t ≤ b → vh t = 0) → L_seg209_L345 vh n (J b) = some (J s)
  | d, 0, b, hn, _, _, _ => absurd hn (Nat.not_lt_zero d)
  | 0, n + 1, b, _, hb, hb2, _ => by
    rw [L_seg209_L345]
    rw [show b = s by omega]
    by_cases c : s = 0
    · rw [if_pos (by rw [J_0, J_le (by omega) (by omega)]; omega)]
    · rw [if_neg (by rw [J_0, J_le (by omega) (by omega)]; omega), if_pos (J_inN (by omega) (by omega)), J_ix (by omega), h1, if_neg (by decide)]
  | d + 1, n + 1, b, hn, hb, hb2, h0 => by
    have ih := l345 h1 d n (b - 1) (by omega) (by omega) (by omega) (fun t a1 a2 => h0 t a1 (by omega))
    rw [L_seg209_L345]
    rw [if_neg (by rw [J_0, J_le (by omega) (by omega)]; omega), if_pos (J_inN (by omega) (by omega)), J_ix (by omega), h0 b (by omega) (by omega), if_pos rfl]
    simp only [bnd]
    rw [J_dec (by omega), ih]
/-- a row with its pieces -/
def HS (K S : List Int) (bd : Int) : Prop := Srt K ∧ KR K ∧ SOK S K.length ∧ PF bd K S K.length
theorem HS_snoc {K S : List Int} {bd x : Int} (h : HS K S bd) (hx : -1000000 ≤ x ∧ x ≤ 1000000) (h1 : ∀ y, y ∈ K → y < x) : HS (K ++ [x]) (cutS bd (K ++ [x]) S 0 K.length) bd := by
  obtain ⟨a1, a2, a3, a4⟩ := h
  have hlen : (K ++ [x]).length = K.length + 1 := by simp
  have hsl := SOK_len a3
  have hp : PF bd (K ++ [x]) S K.length := fun i hi => by
    rw [slpN_cong (G' := K) (fun j hj => getD_app_l hj) a3 hi]
    exact a4 i hi
  have hc := cutS_ok (c0 := 0) a3 hp (Nat.zero_le _) (by omega)
  refine ⟨Srt_snoc a1 (fun i hi => h1 _ (getD_mem hi)), KR_mem.mpr (fun y hy => ?_), ?_, ?_⟩
  · rcases List.mem_append.mp hy with q | q
    · exact KR_mem.mp a2 y q
    · simp at q
      omega
  · rw [hlen]
    exact hc.1
  · rw [hlen]
    exact hc.2.1
theorem apK_all {x s : Int} {P : Int → Prop} : ∀ (d i : Nat) (K : List Int), (∀ y, y ∈ K → P y) → (∀ j : Nat, i ≤ j → j < i + d → P (x + s * j)) → ∀ y, y ∈ apK K x s i d → P y
  | 0, _, _, h1, _ => h1
  | d + 1, i, K, h1, h2 => by
    rw [apK]
    refine apK_all d (i + 1) _ (fun y hy => ?_) (fun j a b => h2 j (by omega) (by omega))
    rcases List.mem_append.mp hy with q | q
    · exact h1 y q
    · rw [List.mem_singleton.mp q]
      exact h2 i (Nat.le_refl _) (by omega)
theorem apK_mem {x s : Int} : ∀ (d i : Nat) (K : List Int) (y : Int), y ∈ K → y ∈ apK K x s i d
  | 0, _, _, _, h => h
  | d + 1, i, K, y, h => by
    rw [apK]
    exact apK_mem d (i + 1) _ y (List.mem_append_left _ h)
theorem apK_len {x s : Int} : ∀ (d i : Nat) (K : List Int), (apK K x s i d).length = K.length + d
  | 0, _, _ => rfl
  | d + 1, i, K => by
    rw [apK, apK_len d (i + 1), List.length_append, List.length_singleton]
    omega
theorem l301 (hF : 2000 ≤ F) {bd x s : Int} {m : Nat} (hb : 0 ≤ bd ∧ bd ≤ 20) (hs : 1 ≤ s ∧ s ≤ 100) (hm : m ≤ 20) (hx : -900000 ≤ x ∧ x ≤ 900000) : ∀ (d n i : Nat) (K M S : List Int) (am ar ah aq : Nat → Int32), d < n → i + d = m → HS K S bd → M.length = K.length → RA 64 ar K → RA 64 am M → HD ah S K.length → aq 0 = J K.length → aq 2 = J bd → (∀ y, y ∈ K → y < x + s * i) → K.length + d ≤ 60 → ∃ am' ar' ah' aq', L_seg209_L301 F (J m) (J s) (J x) n (J i) am ar ah aq = some (am', ar', ah', aq') ∧ RA 64 ar' (apK K x s i d) ∧ RA 64 am' (apM M d) ∧ HD ah' (apS bd K S x s i d) (apK K x s i d).length ∧ aq' 0 = J (apK K x s i d).length ∧ ∀ j, j ≠ 0 → aq' j = aq j
  | d, 0, _, _, _, _, _, _, _, _, hn, _, _, _, _, _, _, _, _, _, _ => absurd hn (Nat.not_lt_zero d)
  | 0, n + 1, i, K, M, S, am, ar, ah, aq, _, hd, hS, hM, hr, hmm, hH, hq0, hq2, hy, hl => by
    refine ⟨am, ar, ah, aq, ?_, hr, hmm, hH, hq0, fun _ _ => rfl⟩
    rw [L_seg209_L301, if_pos (by rw [J_leN (by omega) (by omega)]; omega)]
  | d + 1, n + 1, i, K, M, S, am, ar, ah, aq, hn, hd, hS, hM, hr, hmm, hH, hq0, hq2, hy, hl => by
    have hsi : 0 ≤ s * (i : Int) ∧ s * (i : Int) ≤ 2000 := ⟨Int.mul_nonneg (by omega) (by omega), Int.le_trans (Int.mul_le_mul hs.2 (show (i : Int) ≤ 20 by omega) (by omega) (by omega)) (by decide)⟩
    have hlen : (K ++ [x + s * (i : Int)]).length = K.length + 1 := by simp
    have hS' := HS_snoc hS (x := x + s * (i : Int)) (by omega) hy
    have hr' := RA_push hr (by omega) (x + s * (i : Int))
    have hm' := RA_push hmm (by omega) 0
    rw [hM, ← J_0] at hm'
    have hsl := SOK_len hS.2.2.1
    have hq0' : (upd aq 0 (J ((K.length + 1 : Nat) : Int))) 0 = J ((K ++ [x + s * (i : Int)]).length) := by rw [upd_at, hlen]
    have hq2' : (upd aq 0 (J ((K.length + 1 : Nat) : Int))) 2 = J bd := by rw [upd_ne (by decide)]; exact hq2
    have hnew : HD (upd ah K.length 1) (S ++ [(K.length : Int)]) (K ++ [x + s * (i : Int)]).length := by rw [hlen]; exact HD_new hH hS.2.2.1
    have hold : HD (upd ah K.length 0) S (K ++ [x + s * (i : Int)]).length := by rw [hlen]; exact HD_old hH hS.2.2.1
    have hy' : ∀ y, y ∈ K ++ [x + s * (i : Int)] → y < x + s * ((i + 1 : Nat) : Int) := fun y hy2 => by
      have e : s * ((i + 1 : Nat) : Int) = s * (i : Int) + s := by rw [Int.natCast_add, Int.mul_add]; simp
      rcases List.mem_append.mp hy2 with q | q
      · have := hy y q
        omega
      · rw [List.mem_singleton.mp q]
        omega
    rw [L_seg209_L301, if_neg (by rw [J_leN (by omega) (by omega)]; omega)]
    simp only [i7_0, i7_2, if_true, n7_0, n7_2, hq0, bnd]
    simp only [if_pos (J_inN (show K.length < 64 by omega) (show 64 ≤ 1000 by omega)), J_ix (show K.length < 2147483648 by omega), if_pos (J_inM (show K.length < 64 by omega) (show 64 ≤ 1000 by omega)), J_succ, J_mul, J_add]
    by_cases c : K.length = 0
    · have e1 : L_seg209_L345 ah F (J (K.length : Int) - 1) = some (-1) := by
        rw [c, show J ((0 : Nat) : Int) - 1 = -1 by decide +kernel]
        obtain ⟨f, rfl⟩ : ∃ f, F = f + 1 := ⟨F - 1, by omega⟩
        rw [L_seg209_L345, if_pos (by decide)]
      have e2 : cutS bd (K ++ [x + s * (i : Int)]) S 0 K.length = S ++ [(K.length : Int)] := by
        unfold cutS
        rw [if_pos (Or.inl (by omega))]
      rw [e1]
      simp only [Option.bind_some]
      rw [if_pos (by decide)]
      rw [e2] at hS'
      obtain ⟨am', ar', ah', aq', g1, g2, g3, g4, g5, g6⟩ := l301 hF hb hs hm hx d n (i + 1) _ (M ++ [0]) _ _ _ _ _ (by omega) (by omega) hS' (by simp [hM]) hr' hm' hnew hq0' hq2' hy' (by rw [hlen]; omega)
      refine ⟨am', ar', ah', aq', g1, ?_, ?_, ?_, ?_, fun j hj => ?_⟩
      · rw [apK]; exact g2
      · rw [apM]; exact g3
      · rw [apK, apS, e2]; exact g4
      · rw [apK]; exact g5
      · rw [g6 j hj, upd_ne hj]
    · have hs0 : 0 < S.length := hS.2.2.1.2.2.2 (by omega)
      have hlt := lastS_lt hS.2.2.1 hs0
      obtain ⟨k1, k2⟩ := HD_last hH hS.2.2.1 hs0
      have e1 : L_seg209_L345 ah F (J (K.length : Int) - 1) = some (J (lastS S)) := by
        rw [J_pred (by omega)]
        exact l345 k1 (K.length - 1 - lastS S) F (K.length - 1) (by omega) (by omega) (by omega) (fun t a1 a2 => k2 t a1 (by omega))
      have e3 := lfits_J (bd := bd) (o := lastS S) (e := K.length + 1) hF hr' hS'.1 hS'.2.1 hb (by omega) (by rw [hlen]; exact Nat.le_refl _)
      rw [show K.length + 1 - 1 - lastS S = K.length - lastS S by omega] at e3
      rw [e1]
      simp only [Option.bind_some]
      rw [if_neg (by rw [J_0, J_lt (by omega) (by omega)]; omega), hq2', e3]
      simp only [Option.bind_some]
      by_cases c2 : fitq (rng bd (gd (K ++ [x + s * (i : Int)])) (lastS S) (K.length - lastS S))
      · have e2 : cutS bd (K ++ [x + s * (i : Int)]) S 0 K.length = S := by
          unfold cutS
          rw [if_neg (fun q => by
            rcases q with q | q
            · omega
            · exact q c2)]
        rw [if_pos c2, if_neg (by decide)]
        rw [e2] at hS'
        obtain ⟨am', ar', ah', aq', g1, g2, g3, g4, g5, g6⟩ := l301 hF hb hs hm hx d n (i + 1) _ (M ++ [0]) _ _ _ _ _ (by omega) (by omega) hS' (by simp [hM]) hr' hm' hold hq0' hq2' hy' (by rw [hlen]; omega)
        refine ⟨am', ar', ah', aq', g1, ?_, ?_, ?_, ?_, fun j hj => ?_⟩
        · rw [apK]; exact g2
        · rw [apM]; exact g3
        · rw [apK, apS, e2]; exact g4
        · rw [apK]; exact g5
        · rw [g6 j hj, upd_ne hj]
      · have e2 : cutS bd (K ++ [x + s * (i : Int)]) S 0 K.length = S ++ [(K.length : Int)] := by
          unfold cutS
          rw [if_pos (Or.inr c2)]
        rw [if_neg c2, if_pos rfl]
        rw [e2] at hS'
        obtain ⟨am', ar', ah', aq', g1, g2, g3, g4, g5, g6⟩ := l301 hF hb hs hm hx d n (i + 1) _ (M ++ [0]) _ _ _ _ _ (by omega) (by omega) hS' (by simp [hM]) hr' hm' hnew hq0' hq2' hy' (by rw [hlen]; omega)
        refine ⟨am', ar', ah', aq', g1, ?_, ?_, ?_, ?_, fun j hj => ?_⟩
        · rw [apK]; exact g2
        · rw [apM]; exact g3
        · rw [apK, apS, e2]; exact g4
        · rw [apK]; exact g5
        · rw [g6 j hj, upd_ne hj]
end SE2
