theorem zsub4 {n k : Nat} (hL : n ≤ 2048) (hk : 4 * k ≤ n) (h : ¬ (Int32.ofNat n - 4 < nI (4 * k))) : 4 * k + 3 < n := by
  have e1 : Int32.ofNat n = J (n : Int) := J_eqOf (nI_toInt (n := n) (by omega))
  have e2 : nI (4 * k) = J ((4 * k : Nat) : Int) := J_eqOf (nI_toInt (by omega))
  have e4 : (4 : Int32) = J 4 := by decide +kernel
  rw [e1, e2, e4, J_sub, fa_lt, J_toInt (by omega) (by omega), J_toInt (by omega) (by omega)] at h
  omega
theorem zin4 {n k : Nat} {x4 : Int32} (hL : n ≤ 2048) (hk : 4 * k + 3 < n) (e : x4 = nI (4 * k)) : vp_in x4 n ∧ vp_in (x4 + 1) n ∧ vp_in (x4 + 2) n ∧ vp_in (x4 + 3) n := by
  rw [e]
  refine ⟨vp_in_nI (by omega) (by omega), ?_, ?_, ?_⟩
  · rw [show (1 : Int32) = nI 1 by decide +kernel, nI_add]; exact vp_in_nI (by omega) (by omega)
  · rw [show (2 : Int32) = nI 2 by decide +kernel, nI_add]; exact vp_in_nI (by omega) (by omega)
  · rw [show (3 : Int32) = nI 3 by decide +kernel, nI_add]; exact vp_in_nI (by omega) (by omega)
set_option maxHeartbeats 4000000 in
set_option maxRecDepth 100000 in
theorem law_switch {p : Program} {l : Launch} {e : Env} {s : State} {m : MethodId} {below : List Frame} {meth : Method} {c : Code} {b L : Nat} {xs : Nat → Int32} (C0 : lw_At p s m meth c b L xs) (hl9 : l.stackTraces = false) {dC : Nat → ClassId} {dI : Nat → Nat → Nat} {cI cZ cJ : ClassId} {ad md : Nat → Nat} {ao : Nat} {sa : Nat → Nat} (hK : va_K (dC, dI) vwCl [(cI, .int), (cZ, .boolean), (cJ, .long)] s) (hV : zV sa (fun q : Nat => s.heap.size ≤ q) s s.heap) (hNc : va_Nc (xN 2) (xN 1) s) {x4 : Int32} (hi1 : vp_in (x4 + 1) L) (hi2 : vp_in (x4 + 2) L) (hi3 : vp_in (x4 + 3) L) {cells slots : Nat} (hc : cells + 3 ≤ room_1.cells) (hs : slots + 18 ≤ room_1.slots) {H : Heap} {locs : List Loc} {ls : Array Slot} (hI : zLS (dC, dI) cI cZ cJ ad md ao (fun q : Nat => s.heap.size ≤ q) H) (hS : va_S (fun q : Nat => s.heap.size ≤ q) s.heap H locs) (hl : lv_has ls 8 [(0, .ref b), (1, .ref (ad 0)), (2, .ref (md 0)), (3, .ref ao), (4, .int x4)]) (kk : ∀ (H : Heap) (locs : List Loc) (ls : Array Slot), zLS (dC, dI) cI cZ cJ ad md ao (fun q : Nat => s.heap.size ≤ q) H → va_S (fun q : Nat => s.heap.size ≤ q) s.heap H locs → lv_has ls 8 [(0, .ref b), (1, .ref (ad 0)), (2, .ref (md 0)), (3, .ref ao), (4, .int x4)] → W p l e room_1 s m #[Value.ref b] below meth c H locs (cells + 3) (slots + 18) (lw_Z below #[Value.ref b] s) (F0 m 1199 ls [])) (j : Nat) (hj : j < 32) : W p l e room_1 s m #[Value.ref b] below meth c H locs cells slots (lw_Z below #[Value.ref b] s) (F0 m 39 ls [.int (nI j)]) := by
  obtain ⟨hx, hb, hr, hml, hown, hts, hX, hbl, hlocks, hgv⟩ := id C0
  match j, hj with
  | 0, _ =>
    refine lv_tableIn (off := 129) (tgt := 168) hx hb dL_law_39 (by decide +kernel) (by decide +kernel) (by decide +kernel) (by decide) ?_
    exact law_append C0 hl9 hK hV hNc hi1 hi2 hi3 hc hs hI hS hl kk
  | 1, _ =>
    refine lv_tableIn (off := 185) (tgt := 224) hx hb dL_law_39 (by decide +kernel) (by decide +kernel) (by decide +kernel) (by decide) ?_
    exact law_appendMany C0 hl9 hK hV hNc hi1 hi2 hi3 hc hs hI hS hl kk
  | 2, _ =>
    refine lv_tableIn (off := 265) (tgt := 304) hx hb dL_law_39 (by decide +kernel) (by decide +kernel) (by decide +kernel) (by decide) ?_
    exact law_insert C0 hl9 hK hV hNc hi1 hi2 hi3 hc hs hI hS hl kk
  | 3, _ =>
    refine lv_tableIn (off := 321) (tgt := 360) hx hb dL_law_39 (by decide +kernel) (by decide +kernel) (by decide +kernel) (by decide) ?_
    exact law_remove C0 hl9 hK hV hNc hi1 hi2 hi3 hc hs hI hS hl kk
  | 4, _ =>
    refine lv_tableIn (off := 377) (tgt := 416) hx hb dL_law_39 (by decide +kernel) (by decide +kernel) (by decide +kernel) (by decide) ?_
    exact law_merge C0 hl9 hK hV hNc hi1 hi2 hi3 hc hs hI hS hl kk
  | 5, _ =>
    refine lv_tableIn (off := 390) (tgt := 429) hx hb dL_law_39 (by decide +kernel) (by decide +kernel) (by decide +kernel) (by decide) ?_
    exact law_rebuild C0 hl9 hK hV hNc hi1 hi2 hi3 hc hs hI hS hl kk
  | 6, _ =>
    refine lv_tableIn (off := 458) (tgt := 497) hx hb dL_law_39 (by decide +kernel) (by decide +kernel) (by decide +kernel) (by decide) ?_
    exact law_size C0 hl9 hK hV hNc hi1 hi2 hi3 hc hs hI hS hl kk
  | 7, _ =>
    refine lv_tableIn (off := 471) (tgt := 510) hx hb dL_law_39 (by decide +kernel) (by decide +kernel) (by decide +kernel) (by decide) ?_
    exact law_contains C0 hl9 hK hV hNc hi1 hi2 hi3 hc hs hI hS hl kk
  | 8, _ =>
    refine lv_tableIn (off := 496) (tgt := 535) hx hb dL_law_39 (by decide +kernel) (by decide +kernel) (by decide +kernel) (by decide) ?_
    exact law_rank C0 hl9 hK hV hNc hi1 hi2 hi3 hc hs hI hS hl kk
  | 9, _ =>
    refine lv_tableIn (off := 521) (tgt := 560) hx hb dL_law_39 (by decide +kernel) (by decide +kernel) (by decide +kernel) (by decide) ?_
    exact law_select C0 hl9 hK hV hNc hi1 hi2 hi3 hc hs hI hS hl kk
  | 10, _ =>
    refine lv_tableIn (off := 577) (tgt := 616) hx hb dL_law_39 (by decide +kernel) (by decide +kernel) (by decide +kernel) (by decide) ?_
    exact law_ceiling C0 hl9 hK hV hNc hi1 hi2 hi3 hc hs hI hS hl kk
  | 11, _ =>
    refine lv_tableIn (off := 633) (tgt := 672) hx hb dL_law_39 (by decide +kernel) (by decide +kernel) (by decide +kernel) (by decide) ?_
    exact law_count C0 hl9 hK hV hNc hi1 hi2 hi3 hc hs hI hS hl kk
  | 12, _ =>
    refine lv_tableIn (off := 670) (tgt := 709) hx hb dL_law_39 (by decide +kernel) (by decide +kernel) (by decide +kernel) (by decide) ?_
    exact law_place C0 hl9 hK hV hNc hi1 hi2 hi3 hc hs hI hS hl kk
  | 13, _ =>
    refine lv_tableIn (off := 695) (tgt := 734) hx hb dL_law_39 (by decide +kernel) (by decide +kernel) (by decide +kernel) (by decide) ?_
    exact law_guess C0 hl9 hK hV hNc hi1 hi2 hi3 hc hs hI hS hl kk
  | 14, _ =>
    refine lv_tableIn (off := 750) (tgt := 789) hx hb dL_law_39 (by decide +kernel) (by decide +kernel) (by decide +kernel) (by decide) ?_
    exact law_looks C0 hl9 hK hV hNc hi1 hi2 hi3 hc hs hI hS hl kk
  | 15, _ =>
    refine lv_tableIn (off := 806) (tgt := 845) hx hb dL_law_39 (by decide +kernel) (by decide +kernel) (by decide +kernel) (by decide) ?_
    exact law_worstError C0 hl9 hK hV hNc hi1 hi2 hi3 hc hs hI hS hl kk
  | 16, _ =>
    refine lv_tableIn (off := 819) (tgt := 858) hx hb dL_law_39 (by decide +kernel) (by decide +kernel) (by decide +kernel) (by decide) ?_
    exact law_pieces C0 hl9 hK hV hNc hi1 hi2 hi3 hc hs hI hS hl kk
  | 17, _ =>
    refine lv_tableIn (off := 832) (tgt := 871) hx hb dL_law_39 (by decide +kernel) (by decide +kernel) (by decide +kernel) (by decide) ?_
    exact law_start C0 hl9 hK hV hNc hi1 hi2 hi3 hc hs hI hS hl kk
  | 18, _ =>
    refine lv_tableIn (off := 888) (tgt := 927) hx hb dL_law_39 (by decide +kernel) (by decide +kernel) (by decide +kernel) (by decide) ?_
    exact law_firstKey C0 hl9 hK hV hNc hi1 hi2 hi3 hc hs hI hS hl kk
  | 19, _ =>
    refine lv_tableIn (off := 944) (tgt := 983) hx hb dL_law_39 (by decide +kernel) (by decide +kernel) (by decide +kernel) (by decide) ?_
    exact law_rise C0 hl9 hK hV hNc hi1 hi2 hi3 hc hs hI hS hl kk
  | 20, _ =>
    refine lv_tableIn (off := 1000) (tgt := 1039) hx hb dL_law_39 (by decide +kernel) (by decide +kernel) (by decide +kernel) (by decide) ?_
    exact law_run C0 hl9 hK hV hNc hi1 hi2 hi3 hc hs hI hS hl kk
  | 21, _ =>
    refine lv_tableIn (off := 1056) (tgt := 1095) hx hb dL_law_39 (by decide +kernel) (by decide +kernel) (by decide +kernel) (by decide) ?_
    exact law_slopes C0 hl9 hK hV hNc hi1 hi2 hi3 hc hs hI hS hl kk
  | 22, _ =>
    refine lv_tableIn (off := 1069) (tgt := 1108) hx hb dL_law_39 (by decide +kernel) (by decide +kernel) (by decide +kernel) (by decide) ?_
    exact law_commonest C0 hl9 hK hV hNc hi1 hi2 hi3 hc hs hI hS hl kk
  | 23, _ =>
    refine lv_tableIn (off := 1082) (tgt := 1121) hx hb dL_law_39 (by decide +kernel) (by decide +kernel) (by decide +kernel) (by decide) ?_
    exact law_buffered C0 hl9 hK hV hNc hi1 hi2 hi3 hc hs hI hS hl kk
  | 24, _ =>
    refine lv_tableIn (off := 1095) (tgt := 1134) hx hb dL_law_39 (by decide +kernel) (by decide +kernel) (by decide +kernel) (by decide) ?_
    exact law_marked C0 hl9 hK hV hNc hi1 hi2 hi3 hc hs hI hS hl kk
  | 25, _ =>
    refine lv_tableIn (off := 1108) (tgt := 1147) hx hb dL_law_39 (by decide +kernel) (by decide +kernel) (by decide +kernel) (by decide) ?_
    exact law_rowSize C0 hl9 hK hV hNc hi1 hi2 hi3 hc hs hI hS hl kk
  | 26, _ =>
    refine lv_tableIn (off := 1121) (tgt := 1160) hx hb dL_law_39 (by decide +kernel) (by decide +kernel) (by decide +kernel) (by decide) ?_
    exact law_merges C0 hl9 hK hV hNc hi1 hi2 hi3 hc hs hI hS hl kk
  | 27, _ =>
    refine lv_tableIn (off := 1134) (tgt := 1173) hx hb dL_law_39 (by decide +kernel) (by decide +kernel) (by decide +kernel) (by decide) ?_
    exact law_splits C0 hl9 hK hV hNc hi1 hi2 hi3 hc hs hI hS hl kk
  | 28, _ =>
    refine lv_tableIn (off := 1147) (tgt := 1186) hx hb dL_law_39 (by decide +kernel) (by decide +kernel) (by decide +kernel) (by decide) ?_
    exact law_joins C0 hl9 hK hV hNc hi1 hi2 hi3 hc hs hI hS hl kk
  | 29, _ =>
    refine lv_tableOut (tgt := 1199) hx hb dL_law_39 (by decide +kernel) (by decide) ?_
    refine W.widen (k := cells + 3) (n := slots + 18) (by omega) (by omega) ?_
    exact kk H locs ls hI hS hl
  | 30, _ =>
    refine lv_tableOut (tgt := 1199) hx hb dL_law_39 (by decide +kernel) (by decide) ?_
    refine W.widen (k := cells + 3) (n := slots + 18) (by omega) (by omega) ?_
    exact kk H locs ls hI hS hl
  | 31, _ =>
    refine lv_tableOut (tgt := 1199) hx hb dL_law_39 (by decide +kernel) (by decide) ?_
    refine W.widen (k := cells + 3) (n := slots + 18) (by omega) (by omega) ?_
    exact kk H locs ls hI hS hl
  | j + 32, hj => exact absurd hj (by omega)
set_option maxHeartbeats 4000000 in
set_option maxRecDepth 100000 in
theorem law_loop {p : Program} {l : Launch} {e : Env} {s : State} {m : MethodId} {below : List Frame} {meth : Method} {c : Code} {b L : Nat} {xs : Nat → Int32} (hL : L ≤ 2048) (C0 : lw_At p s m meth c b L xs) (hl9 : l.stackTraces = false) {dC : Nat → ClassId} {dI : Nat → Nat → Nat} {cI cZ cJ : ClassId} {ad md : Nat → Nat} {ao : Nat} {sa : Nat → Nat} (hK : va_K (dC, dI) vwCl [(cI, .int), (cZ, .boolean), (cJ, .long)] s) (hV : zV sa (fun q : Nat => s.heap.size ≤ q) s s.heap) (hNc : va_Nc (xN 2) (xN 1) s) : ∀ (n k : Nat) (x4 : Int32), 4 * k ≤ L → L < 4 * k + n → x4 = nI (4 * k) → ∀ (H : Heap) (locs : List Loc) (ls : Array Slot), zLS (dC, dI) cI cZ cJ ad md ao (fun q : Nat => s.heap.size ≤ q) H → va_S (fun q : Nat => s.heap.size ≤ q) s.heap H locs → lv_has ls 8 [(0, .ref b), (1, .ref (ad 0)), (2, .ref (md 0)), (3, .ref ao), (4, .int x4)] → W p l e room_1 s m #[Value.ref b] below meth c H locs (26 + 3 * k) (3403 + 18 * k) (lw_Z below #[Value.ref b] s) (F0 m 23 ls []) := by
  obtain ⟨hx, hb, hr, hml, hown, hts, hX, hbl, hlocks, hgv⟩ := id C0
  have hbA : ¬ (fun q : Nat => s.heap.size ≤ q) b := Nat.not_le.mpr hbl
  intro n
  induction n with
  | zero =>
    intro k x4 h1 h2
    exact absurd h2 (by omega)
  | succ n ih =>
    intro k x4 hk hn ex4 H locs ls hI hS hl
    refine lv_iload hx hb dL_law_23 (lv_at hl 4 rfl) ?_
    refine lv_aload_n hx hb dL_law_25 rfl (lv_at hl 0 rfl) ?_
    refine va_slen hx hb hX hbl hbA hS dL_law_26 ?_
    refine lv_iconst (v := 4) hx hb dL_law_27 (by decide) ?_
    refine lv_isub hx hb dL_law_28 ?_
    refine lv_icmp_gt (tgt := 1205) hx hb dL_law_29 (by decide) (fun c_29 => ?_) (fun c_29 => ?_)
    · refine lv_iconst (v := 1) hx hb dL_law_1205 (by decide) ?_
      refine va_forget (fun q hq => hS.2.2 q hq) ?_
      refine W.widen (k := 601024) (n := 7293033) (by omega) (by omega) ?_
      exact lw_ret hx hb hr hlocks dL_law_1206
    · have hlt : 4 * k + 3 < L := zsub4 hL hk (by rw [← ex4]; exact c_29)
      obtain ⟨hi0, hi1, hi2, hi3⟩ := zin4 hL hlt ex4
      refine lv_aload_n hx hb dL_law_32 rfl (lv_at hl 0 rfl) ?_
      refine lv_iload hx hb dL_law_33 (lv_at hl 4 rfl) ?_
      refine va_sld hx hb hX hbl hbA hS hi0 dL_law_35 ?_
      refine lv_bipush (v := 31) hx hb dL_law_36 (by decide) ?_
      refine lv_iand hx hb dL_law_38 ?_
      obtain ⟨j, hj, ej⟩ := pk_andE (xs (Int32.toNatClampNeg x4)) (m := 31) 5 (by decide)
      rw [ej]
      refine law_switch C0 hl9 hK hV hNc hi1 hi2 hi3 (show 26 + 3 * k + 3 ≤ 601024 by omega) (show 3403 + 18 * k + 18 ≤ 7293033 by omega) hI hS hl (fun H locs ls hI hS hl => ?_) j hj
      obtain ⟨x5, ex5⟩ : ∃ y : Int32, y = x4 + 4 := ⟨_, rfl⟩
      refine lv_iinc (v := x5) (lv' := [(4, .int x5), (0, .ref b), (1, .ref (ad 0)), (2, .ref (md 0)), (3, .ref ao)]) hx hb dL_law_1199 hl (k := 4) rfl (by rw [ex5]; rfl) (by decide) rfl (fun ls hl => ?_)
      refine lv_goto (tgt := 23) hx hb dL_law_1202 (by decide) ?_
      refine W.widen (k := 26 + 3 * (k + 1)) (n := 3403 + 18 * (k + 1)) (by omega) (by omega) ?_
      exact ih (k + 1) x5 (by omega) (by omega) (by rw [ex5, ex4, show (4 : Int32) = nI 4 by decide +kernel, nI_add]; rfl) H locs ls hI hS (lv_sub hl [1, 2, 3, 4, 0] rfl)
