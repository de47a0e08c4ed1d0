set_option maxHeartbeats 4000000 in
set_option maxRecDepth 100000 in
theorem law_select {p : Program} {l : Launch} {e : Env} {s : State} {m : MethodId} {below : List Frame} {meth : Method} {c : Code} {b L : Nat} {xs : Nat → Int32} (C0 : lw_At p s m meth c b L xs) (hl9 : l.stackTraces = false) {dC : Nat → ClassId} {dI : Nat → Nat → Nat} {cI cZ cJ : ClassId} {ad md : Nat → Nat} {ao : Nat} {sa : Nat → Nat} (hK : va_K (dC, dI) vwCl [(cI, .int), (cZ, .boolean), (cJ, .long)] s) (hV : zV sa (fun q : Nat => s.heap.size ≤ q) s s.heap) (hNc : va_Nc (xN 2) (xN 1) s) {x4 : Int32} (hi1 : vp_in (x4 + 1) L) (hi2 : vp_in (x4 + 2) L) (hi3 : vp_in (x4 + 3) L) {cells slots : Nat} (hc : cells + 3 ≤ room_1.cells) (hs : slots + 18 ≤ room_1.slots) {H : Heap} {locs : List Loc} {ls : Array Slot} (hI : zLS (dC, dI) cI cZ cJ ad md ao (fun q : Nat => s.heap.size ≤ q) H) (hS : va_S (fun q : Nat => s.heap.size ≤ q) s.heap H locs) (hl : lv_has ls 8 [(0, .ref b), (1, .ref (ad 0)), (2, .ref (md 0)), (3, .ref ao), (4, .int x4)]) (kk : ∀ (H : Heap) (locs : List Loc) (ls : Array Slot), zLS (dC, dI) cI cZ cJ ad md ao (fun q : Nat => s.heap.size ≤ q) H → va_S (fun q : Nat => s.heap.size ≤ q) s.heap H locs → lv_has ls 8 [(0, .ref b), (1, .ref (ad 0)), (2, .ref (md 0)), (3, .ref ao), (4, .int x4)] → W p l e room_1 s m #[Value.ref b] below meth c H locs (cells + 3) (slots + 18) (lw_Z below #[Value.ref b] s) (F0 m 1199 ls [])) : W p l e room_1 s m #[Value.ref b] below meth c H locs cells slots (lw_Z below #[Value.ref b] s) (F0 m 560 ls []) := by
  obtain ⟨hx, hb, hr, hml, hown, hts, hX, hbl, hlocks, hgv⟩ := C0
  have hown : s.vm.findClass RL = some m.cls := hown
  have htw : ∀ w ∈ wsL_law, w.before #[Value.ref b] s = true := fun w h => hts w (wsL_law_in w h)
  have hA : ∀ q : Nat, s.heap.size ≤ q → (fun q : Nat => s.heap.size ≤ q) q := fun _ h => h
  have hbA : ¬ (fun q : Nat => s.heap.size ≤ q) b := Nat.not_le.mpr hbl
  obtain ⟨K, M, B, S, bd, ro, zk, zm, zb, zs, zr, zu, zt, zf, zg, zmc, mg, sp, jn, xo, yth, yrow, ymk, yrm, yst, ypc, ybu, ybn, ymd, ybg, ymm, yup, yun, hP, hD, hST, hXS, hYS⟩ := hI
  obtain ⟨F, hF⟩ : ∃ F : Nat, 2000 ≤ F := ⟨2000, Nat.le_refl _⟩
  refine lv_aload_n hx hb dL_law_560 rfl (lv_at hl 1 rfl) ?_
  refine lv_aload_n hx hb dL_law_561 rfl (lv_at hl 0 rfl) ?_
  refine lv_iload hx hb dL_law_562 (lv_at hl 4 rfl) ?_
  refine lv_iconst (v := 1) hx hb dL_law_564 (by decide) ?_
  refine lv_iadd hx hb dL_law_565 ?_
  refine va_sld hx hb hX hbl hbA hS hi1 dL_law_566 ?_
  refine lv_aload_n hx hb dL_law_567 rfl (lv_at hl 3 rfl) ?_
  obtain ⟨k, v, zf', xo', hm1, hm2, h0, hST2, hXS2, hYS2⟩ := la_select (F := F) (zf := zf) (zg := zg) (mg := mg) (sp := sp) (jn := jn) (ymm := ymm) hF yth ymd ybg yup yun xo hST hXS hYS (xs (Int32.toNatClampNeg (x4 + 1)))
  refine z_hSi (wc := (wB cI cJ ad ao zk zm zb zs zr zu zt zf zg (J bd) (J ro) zmc mg sp jn xo)) (w1 := (wB cI cJ ad ao zk zm zb zs zr zu zt zf' zg (J bd) (J ro) zmc mg sp jn xo')) (ws := (wA cI cZ cJ ad md ao yth (J bd) (J ro) yrow ymk yrm yst ypc ybu ybn mg sp jn ymd ybg ymm yup yun zk zm zb zs zr zu zt zf zg (J bd) (J ro) zmc mg sp jn xo)) (ws' := (wA cI cZ cJ ad md ao yth (J bd) (J ro) yrow ymk yrm yst ypc ybu ybn mg sp jn ymd ybg ymm yup yun zk zm zb zs zr zu zt zf' zg (J bd) (J ro) zmc mg sp jn xo')) (As := [.ref (ad 0), .int (xs (Int32.toNatClampNeg (x4 + 1))), .ref ao]) (rest := []) ⟨hx, hb, hml, hown, htw⟩ (c_L_select l dC dI cI cJ ad ao zk zm zb zs zr zu zt zf zg (J bd) (J ro) zmc mg sp jn xo F (xs (Int32.toNatClampNeg (x4 + 1))) H.size sa hl9 k zf' xo' hm1) (vx_cwSW 3 htw gL_law_L_select rfl rfl rfl (by decide +kernel) ⟨(Nat.le_of_ble_eq_true rfl), (Nat.le_of_ble_eq_true rfl)⟩) hV hNc (hK.sub (tys' := [(cI, .int), (cJ, .long)]) [0, 2] rfl) hP hD hS hA (spB cI cZ cJ ad md ao yth (J bd) (J ro) yrow ymk yrm yst ypc ybu ybn mg sp jn ymd ybg ymm yup yun zk zm zb zs zr zu zt zf zg (J bd) (J ro) zmc mg sp jn zk zm zb zs zr zu zt zf' zg (J bd) (J ro) zmc mg sp jn xo xo') ((paB cI cJ ad ao zk zm zb zs zr zu zt zf' zg (J bd) (J ro) zmc mg sp jn xo').trans (paB cI cJ ad ao zk zm zb zs zr zu zt zf zg (J bd) (J ro) zmc mg sp jn xo).symm) rfl hl.1 rfl (Nat.le_of_ble_eq_true rfl) dL_law_568 ⟨(Nat.le_trans (show cells + 1 ≤ cells + 3 by omega) hc), (Nat.le_trans (show slots + 6 ≤ slots + 18 by omega) hs)⟩ (fun H locs hP hD hS => ?_)
  have hP : va_P (dC, dI) vwCl (wA cI cZ cJ ad md ao yth (J bd) (J ro) yrow ymk yrm yst ypc ybu ybn mg sp jn ymd ybg ymm yup yun zk zm zb zs zr zu zt zf' zg (J bd) (J ro) zmc mg sp jn xo') H := hP
  have hD : va_D (fun q : Nat => s.heap.size ≤ q) (wA cI cZ cJ ad md ao yth (J bd) (J ro) yrow ymk yrm yst ypc ybu ybn mg sp jn ymd ybg ymm yup yun zk zm zb zs zr zu zt zf' zg (J bd) (J ro) zmc mg sp jn xo') := hD
  refine lv_istore (lv' := [(5, .int k), (0, .ref b), (1, .ref (ad 0)), (2, .ref (md 0)), (3, .ref ao), (4, .int x4)]) hx hb dL_law_571 hl (by decide) rfl (fun ls hl => ?_)
  refine lv_aload_n hx hb dL_law_573 rfl (lv_at hl 3 rfl) ?_
  refine lv_aload_n hx hb dL_law_574 rfl (lv_at hl 1 rfl) ?_
  refine lv_iload hx hb dL_law_575 (lv_at hl 5 rfl) ?_
  refine lv_iconst (v := 1) hx hb dL_law_577 (by decide) ?_
  refine lv_iadd hx hb dL_law_578 ?_
  refine va_sld hx hb hX hbl hbA hS hi1 dL_law_579 ?_
  refine z_callWi (wc := (wM cI cZ md yth (J bd) (J ro) yrow ymk yrm yst ypc ybu ybn mg sp jn ymd ybg ymm yup yun)) (w1 := (wM cI cZ md k (J bd) (J ro) yrow ymk yrm yst ypc ybu ybn mg sp jn ymd ybg ymm yup yun)) (ws := (wA cI cZ cJ ad md ao yth (J bd) (J ro) yrow ymk yrm yst ypc ybu ybn mg sp jn ymd ybg ymm yup yun zk zm zb zs zr zu zt zf' zg (J bd) (J ro) zmc mg sp jn xo')) (ws' := (wA cI cZ cJ ad md ao k (J bd) (J ro) yrow ymk yrm yst ypc ybu ybn mg sp jn ymd ybg ymm yup yun zk zm zb zs zr zu zt zf' zg (J bd) (J ro) zmc mg sp jn xo')) (As := [.int (xs (Int32.toNatClampNeg (x4 + 1)))]) (rest := []) (ci := 3) (q := (RX3, TX3, 18)) ⟨hx, hb, hml, hown, htw⟩ (c_X3_select l dC dI cI cZ md yth (J bd) (J ro) yrow ymk yrm yst ypc ybu ybn mg sp jn ymd ybg ymm yup yun F (xs (Int32.toNatClampNeg (x4 + 1))) H.size v k hm2) (cwV 1 htw gL_law_X3_select rfl rfl rfl kv_X3_select ⟨(Nat.le_of_ble_eq_true rfl), (Nat.le_of_ble_eq_true rfl)⟩) (hK.sub (tys' := [(cI, .int), (cZ, .boolean)]) [0, 1] rfl) hP hD hS hA (spM cI cZ cJ ad md ao yth (J bd) (J ro) yrow ymk yrm yst ypc ybu ybn mg sp jn ymd ybg ymm yup yun k (J bd) (J ro) yrow ymk yrm yst ypc ybu ybn mg sp jn ymd ybg ymm yup yun zk zm zb zs zr zu zt zf' zg (J bd) (J ro) zmc mg sp jn xo') ((paM cI cZ md k (J bd) (J ro) yrow ymk yrm yst ypc ybu ybn mg sp jn ymd ybg ymm yup yun).trans (paM cI cZ md yth (J bd) (J ro) yrow ymk yrm yst ypc ybu ybn mg sp jn ymd ybg ymm yup yun).symm) rfl rfl rfl rfl hl.1 rfl (Nat.le_of_ble_eq_true rfl) dL_law_580 ⟨(Nat.le_trans (show (cells + 1) + 0 ≤ cells + 3 by omega) hc), (Nat.le_trans (show (slots + 6) + 0 ≤ slots + 18 by omega) hs)⟩ (fun H locs hP hD hS => ?_)
  have hP : va_P (dC, dI) vwCl (wA cI cZ cJ ad md ao k (J bd) (J ro) yrow ymk yrm yst ypc ybu ybn mg sp jn ymd ybg ymm yup yun zk zm zb zs zr zu zt zf' zg (J bd) (J ro) zmc mg sp jn xo') H := hP
  have hD : va_D (fun q : Nat => s.heap.size ≤ q) (wA cI cZ cJ ad md ao k (J bd) (J ro) yrow ymk yrm yst ypc ybu ybn mg sp jn ymd ybg ymm yup yun zk zm zb zs zr zu zt zf' zg (J bd) (J ro) zmc mg sp jn xo') := hD
  refine lv_istore (lv' := [(6, .int v), (5, .int k), (0, .ref b), (1, .ref (ad 0)), (2, .ref (md 0)), (3, .ref ao), (4, .int x4)]) hx hb dL_law_583 hl (by decide) rfl (fun ls hl => ?_)
  refine lv_aload_n hx hb dL_law_585 rfl (lv_at hl 4 rfl) ?_
  refine z_callRi (As := []) (rest := []) (ci := 3) (q := (RX3, TX3, 18)) (wc := (wM cI cZ md k (J bd) (J ro) yrow ymk yrm yst ypc ybu ybn mg sp jn ymd ybg ymm yup yun)) ⟨hx, hb, hml, hown, htw⟩ (c_X3_thrown l dC dI cI cZ md k (J bd) (J ro) yrow ymk yrm yst ypc ybu ybn mg sp jn ymd ybg ymm yup yun F k rfl) (cwV 0 htw gL_law_X3_thrown rfl rfl rfl kv_X3_thrown ⟨(Nat.le_of_ble_eq_true rfl), (Nat.le_of_ble_eq_true rfl)⟩) (hK.sub (tys' := [(cI, .int), (cZ, .boolean)]) [0, 1] rfl) (z_mid (spM cI cZ cJ ad md ao k (J bd) (J ro) yrow ymk yrm yst ypc ybu ybn mg sp jn ymd ybg ymm yup yun k (J bd) (J ro) yrow ymk yrm yst ypc ybu ybn mg sp jn ymd ybg ymm yup yun zk zm zb zs zr zu zt zf' zg (J bd) (J ro) zmc mg sp jn xo') hP) rfl rfl rfl rfl hl.1 rfl (Nat.le_of_ble_eq_true rfl) dL_law_586 ⟨(Nat.le_trans (show (cells + 1) + 0 ≤ cells + 3 by omega) hc), (Nat.le_trans (show (slots + 6) + 0 ≤ slots + 18 by omega) hs)⟩ ?_
  refine lv_iload hx hb dL_law_589 (lv_at hl 1 rfl) ?_
  refine lv_icmp_eq (tgt := 596) hx hb dL_law_591 (by decide) (fun c_591 => ?_) (fun c_591 => absurd rfl c_591)
  refine lv_iload hx hb dL_law_596 (lv_at hl 1 rfl) ?_
  refine lv_if_ne (tgt := 613) hx hb dL_law_598 (by decide) (fun c_598 => ?_) (fun c_598 => ?_)
  · refine lv_goto (tgt := 1199) hx hb dL_law_613 (by decide) ?_
    refine W.widen (k := cells + 3) (n := slots + 18) (by omega) (by omega) ?_
    exact kk H locs ls ⟨K, M, B, S, bd, ro, zk, zm, zb, zs, zr, zu, zt, zf', zg, zmc, mg, sp, jn, xo', k, yrow, ymk, yrm, yst, ypc, ybu, ybn, ymd, ybg, ymm, yup, yun, hP, hD, hST2, hXS2, hYS2⟩ hS (lv_sub hl [2, 3, 4, 5, 6] rfl)
  refine lv_aload_n hx hb dL_law_601 rfl (lv_at hl 5 rfl) ?_
  refine lv_iconst (v := 0) hx hb dL_law_602 (by decide) ?_
  refine va_lald hx hb hK hP 25 2 rfl rfl zoN dL_law_603 ?_
  refine lv_iload hx hb dL_law_604 (lv_at hl 0 rfl) ?_
  refine lv_i2l hx hb dL_law_606 rfl ?_
  refine W.lcmp hx hb dL_law_607 ?_
  refine lv_if_eq (tgt := 613) hx hb dL_law_608 (by decide) (fun c_608 => ?_) (fun c_608 => absurd ((lg_cmp_eq _ _).mpr (h0 c_598)) c_608)
  refine lv_goto (tgt := 1199) hx hb dL_law_613 (by decide) ?_
  refine W.widen (k := cells + 3) (n := slots + 18) (by omega) (by omega) ?_
  exact kk H locs ls ⟨K, M, B, S, bd, ro, zk, zm, zb, zs, zr, zu, zt, zf', zg, zmc, mg, sp, jn, xo', k, yrow, ymk, yrm, yst, ypc, ybu, ybn, ymd, ybg, ymm, yup, yun, hP, hD, hST2, hXS2, hYS2⟩ hS (lv_sub hl [2, 3, 4, 5, 6] rfl)
set_option maxHeartbeats 4000000 in
set_option maxRecDepth 100000 in
theorem law_ceiling {p : Program} {l : Launch} {e : Env} {s : State} {m : MethodId} {below : List Frame} {meth : Method} {c : Code} {b L : Nat} {xs : Nat → Int32} (C0 : lw_At p s m meth c b L xs) (hl9 : l.stackTraces = false) {dC : Nat → ClassId} {dI : Nat → Nat → Nat} {cI cZ cJ : ClassId} {ad md : Nat → Nat} {ao : Nat} {sa : Nat → Nat} (hK : va_K (dC, dI) vwCl [(cI, .int), (cZ, .boolean), (cJ, .long)] s) (hV : zV sa (fun q : Nat => s.heap.size ≤ q) s s.heap) (hNc : va_Nc (xN 2) (xN 1) s) {x4 : Int32} (hi1 : vp_in (x4 + 1) L) (hi2 : vp_in (x4 + 2) L) (hi3 : vp_in (x4 + 3) L) {cells slots : Nat} (hc : cells + 3 ≤ room_1.cells) (hs : slots + 18 ≤ room_1.slots) {H : Heap} {locs : List Loc} {ls : Array Slot} (hI : zLS (dC, dI) cI cZ cJ ad md ao (fun q : Nat => s.heap.size ≤ q) H) (hS : va_S (fun q : Nat => s.heap.size ≤ q) s.heap H locs) (hl : lv_has ls 8 [(0, .ref b), (1, .ref (ad 0)), (2, .ref (md 0)), (3, .ref ao), (4, .int x4)]) (kk : ∀ (H : Heap) (locs : List Loc) (ls : Array Slot), zLS (dC, dI) cI cZ cJ ad md ao (fun q : Nat => s.heap.size ≤ q) H → va_S (fun q : Nat => s.heap.size ≤ q) s.heap H locs → lv_has ls 8 [(0, .ref b), (1, .ref (ad 0)), (2, .ref (md 0)), (3, .ref ao), (4, .int x4)] → W p l e room_1 s m #[Value.ref b] below meth c H locs (cells + 3) (slots + 18) (lw_Z below #[Value.ref b] s) (F0 m 1199 ls [])) : W p l e room_1 s m #[Value.ref b] below meth c H locs cells slots (lw_Z below #[Value.ref b] s) (F0 m 616 ls []) := by
  obtain ⟨hx, hb, hr, hml, hown, hts, hX, hbl, hlocks, hgv⟩ := C0
  have hown : s.vm.findClass RL = some m.cls := hown
  have htw : ∀ w ∈ wsL_law, w.before #[Value.ref b] s = true := fun w h => hts w (wsL_law_in w h)
  have hA : ∀ q : Nat, s.heap.size ≤ q → (fun q : Nat => s.heap.size ≤ q) q := fun _ h => h
  have hbA : ¬ (fun q : Nat => s.heap.size ≤ q) b := Nat.not_le.mpr hbl
  obtain ⟨K, M, B, S, bd, ro, zk, zm, zb, zs, zr, zu, zt, zf, zg, zmc, mg, sp, jn, xo, yth, yrow, ymk, yrm, yst, ypc, ybu, ybn, ymd, ybg, ymm, yup, yun, hP, hD, hST, hXS, hYS⟩ := hI
  obtain ⟨F, hF⟩ : ∃ F : Nat, 2000 ≤ F := ⟨2000, Nat.le_refl _⟩
  refine lv_aload_n hx hb dL_law_616 rfl (lv_at hl 1 rfl) ?_
  refine lv_aload_n hx hb dL_law_617 rfl (lv_at hl 0 rfl) ?_
  refine lv_iload hx hb dL_law_618 (lv_at hl 4 rfl) ?_
  refine lv_iconst (v := 1) hx hb dL_law_620 (by decide) ?_
  refine lv_iadd hx hb dL_law_621 ?_
  refine va_sld hx hb hX hbl hbA hS hi1 dL_law_622 ?_
  refine lv_aload_n hx hb dL_law_623 rfl (lv_at hl 3 rfl) ?_
  obtain ⟨k, v, zf', xo', hm1, hm2, h0, hST2, hXS2, hYS2⟩ := la_ceiling (F := F) (zf := zf) (zg := zg) (mg := mg) (sp := sp) (jn := jn) (ymm := ymm) hF yth ymd ybg yup yun xo hST hXS hYS (xs (Int32.toNatClampNeg (x4 + 1)))
  refine z_hSi (wc := (wB cI cJ ad ao zk zm zb zs zr zu zt zf zg (J bd) (J ro) zmc mg sp jn xo)) (w1 := (wB cI cJ ad ao zk zm zb zs zr zu zt zf' zg (J bd) (J ro) zmc mg sp jn xo')) (ws := (wA cI cZ cJ ad md ao yth (J bd) (J ro) yrow ymk yrm yst ypc ybu ybn mg sp jn ymd ybg ymm yup yun zk zm zb zs zr zu zt zf zg (J bd) (J ro) zmc mg sp jn xo)) (ws' := (wA cI cZ cJ ad md ao yth (J bd) (J ro) yrow ymk yrm yst ypc ybu ybn mg sp jn ymd ybg ymm yup yun zk zm zb zs zr zu zt zf' zg (J bd) (J ro) zmc mg sp jn xo')) (As := [.ref (ad 0), .int (xs (Int32.toNatClampNeg (x4 + 1))), .ref ao]) (rest := []) ⟨hx, hb, hml, hown, htw⟩ (c_L_ceiling l dC dI cI cJ ad ao zk zm zb zs zr zu zt zf zg (J bd) (J ro) zmc mg sp jn xo F (xs (Int32.toNatClampNeg (x4 + 1))) H.size sa hl9 k zf' xo' hm1) (vx_cwSW 3 htw gL_law_L_ceiling rfl rfl rfl (by decide +kernel) ⟨(Nat.le_of_ble_eq_true rfl), (Nat.le_of_ble_eq_true rfl)⟩) hV hNc (hK.sub (tys' := [(cI, .int), (cJ, .long)]) [0, 2] rfl) hP hD hS hA (spB cI cZ cJ ad md ao yth (J bd) (J ro) yrow ymk yrm yst ypc ybu ybn mg sp jn ymd ybg ymm yup yun zk zm zb zs zr zu zt zf zg (J bd) (J ro) zmc mg sp jn zk zm zb zs zr zu zt zf' zg (J bd) (J ro) zmc mg sp jn xo xo') ((paB cI cJ ad ao zk zm zb zs zr zu zt zf' zg (J bd) (J ro) zmc mg sp jn xo').trans (paB cI cJ ad ao zk zm zb zs zr zu zt zf zg (J bd) (J ro) zmc mg sp jn xo).symm) rfl hl.1 rfl (Nat.le_of_ble_eq_true rfl) dL_law_624 ⟨(Nat.le_trans (show cells + 1 ≤ cells + 3 by omega) hc), (Nat.le_trans (show slots + 6 ≤ slots + 18 by omega) hs)⟩ (fun H locs hP hD hS => ?_)
  have hP : va_P (dC, dI) vwCl (wA cI cZ cJ ad md ao yth (J bd) (J ro) yrow ymk yrm yst ypc ybu ybn mg sp jn ymd ybg ymm yup yun zk zm zb zs zr zu zt zf' zg (J bd) (J ro) zmc mg sp jn xo') H := hP
  have hD : va_D (fun q : Nat => s.heap.size ≤ q) (wA cI cZ cJ ad md ao yth (J bd) (J ro) yrow ymk yrm yst ypc ybu ybn mg sp jn ymd ybg ymm yup yun zk zm zb zs zr zu zt zf' zg (J bd) (J ro) zmc mg sp jn xo') := hD
  refine lv_istore (lv' := [(5, .int k), (0, .ref b), (1, .ref (ad 0)), (2, .ref (md 0)), (3, .ref ao), (4, .int x4)]) hx hb dL_law_627 hl (by decide) rfl (fun ls hl => ?_)
  refine lv_aload_n hx hb dL_law_629 rfl (lv_at hl 3 rfl) ?_
  refine lv_aload_n hx hb dL_law_630 rfl (lv_at hl 1 rfl) ?_
  refine lv_iload hx hb dL_law_631 (lv_at hl 5 rfl) ?_
  refine lv_iconst (v := 1) hx hb dL_law_633 (by decide) ?_
  refine lv_iadd hx hb dL_law_634 ?_
  refine va_sld hx hb hX hbl hbA hS hi1 dL_law_635 ?_
  refine z_callWi (wc := (wM cI cZ md yth (J bd) (J ro) yrow ymk yrm yst ypc ybu ybn mg sp jn ymd ybg ymm yup yun)) (w1 := (wM cI cZ md k (J bd) (J ro) yrow ymk yrm yst ypc ybu ybn mg sp jn ymd ybg ymm yup yun)) (ws := (wA cI cZ cJ ad md ao yth (J bd) (J ro) yrow ymk yrm yst ypc ybu ybn mg sp jn ymd ybg ymm yup yun zk zm zb zs zr zu zt zf' zg (J bd) (J ro) zmc mg sp jn xo')) (ws' := (wA cI cZ cJ ad md ao k (J bd) (J ro) yrow ymk yrm yst ypc ybu ybn mg sp jn ymd ybg ymm yup yun zk zm zb zs zr zu zt zf' zg (J bd) (J ro) zmc mg sp jn xo')) (As := [.int (xs (Int32.toNatClampNeg (x4 + 1)))]) (rest := []) (ci := 3) (q := (RX3, TX3, 18)) ⟨hx, hb, hml, hown, htw⟩ (c_X3_ceiling l dC dI cI cZ md yth (J bd) (J ro) yrow ymk yrm yst ypc ybu ybn mg sp jn ymd ybg ymm yup yun F (xs (Int32.toNatClampNeg (x4 + 1))) H.size v k hm2) (cwV 1 htw gL_law_X3_ceiling rfl rfl rfl kv_X3_ceiling ⟨(Nat.le_of_ble_eq_true rfl), (Nat.le_of_ble_eq_true rfl)⟩) (hK.sub (tys' := [(cI, .int), (cZ, .boolean)]) [0, 1] rfl) hP hD hS hA (spM cI cZ cJ ad md ao yth (J bd) (J ro) yrow ymk yrm yst ypc ybu ybn mg sp jn ymd ybg ymm yup yun k (J bd) (J ro) yrow ymk yrm yst ypc ybu ybn mg sp jn ymd ybg ymm yup yun zk zm zb zs zr zu zt zf' zg (J bd) (J ro) zmc mg sp jn xo') ((paM cI cZ md k (J bd) (J ro) yrow ymk yrm yst ypc ybu ybn mg sp jn ymd ybg ymm yup yun).trans (paM cI cZ md yth (J bd) (J ro) yrow ymk yrm yst ypc ybu ybn mg sp jn ymd ybg ymm yup yun).symm) rfl rfl rfl rfl hl.1 rfl (Nat.le_of_ble_eq_true rfl) dL_law_636 ⟨(Nat.le_trans (show (cells + 1) + 0 ≤ cells + 3 by omega) hc), (Nat.le_trans (show (slots + 6) + 0 ≤ slots + 18 by omega) hs)⟩ (fun H locs hP hD hS => ?_)
  have hP : va_P (dC, dI) vwCl (wA cI cZ cJ ad md ao k (J bd) (J ro) yrow ymk yrm yst ypc ybu ybn mg sp jn ymd ybg ymm yup yun zk zm zb zs zr zu zt zf' zg (J bd) (J ro) zmc mg sp jn xo') H := hP
  have hD : va_D (fun q : Nat => s.heap.size ≤ q) (wA cI cZ cJ ad md ao k (J bd) (J ro) yrow ymk yrm yst ypc ybu ybn mg sp jn ymd ybg ymm yup yun zk zm zb zs zr zu zt zf' zg (J bd) (J ro) zmc mg sp jn xo') := hD
  refine lv_istore (lv' := [(6, .int v), (5, .int k), (0, .ref b), (1, .ref (ad 0)), (2, .ref (md 0)), (3, .ref ao), (4, .int x4)]) hx hb dL_law_639 hl (by decide) rfl (fun ls hl => ?_)
  refine lv_aload_n hx hb dL_law_641 rfl (lv_at hl 4 rfl) ?_
  refine z_callRi (As := []) (rest := []) (ci := 3) (q := (RX3, TX3, 18)) (wc := (wM cI cZ md k (J bd) (J ro) yrow ymk yrm yst ypc ybu ybn mg sp jn ymd ybg ymm yup yun)) ⟨hx, hb, hml, hown, htw⟩ (c_X3_thrown l dC dI cI cZ md k (J bd) (J ro) yrow ymk yrm yst ypc ybu ybn mg sp jn ymd ybg ymm yup yun F k rfl) (cwV 0 htw gL_law_X3_thrown rfl rfl rfl kv_X3_thrown ⟨(Nat.le_of_ble_eq_true rfl), (Nat.le_of_ble_eq_true rfl)⟩) (hK.sub (tys' := [(cI, .int), (cZ, .boolean)]) [0, 1] rfl) (z_mid (spM cI cZ cJ ad md ao k (J bd) (J ro) yrow ymk yrm yst ypc ybu ybn mg sp jn ymd ybg ymm yup yun k (J bd) (J ro) yrow ymk yrm yst ypc ybu ybn mg sp jn ymd ybg ymm yup yun zk zm zb zs zr zu zt zf' zg (J bd) (J ro) zmc mg sp jn xo') hP) rfl rfl rfl rfl hl.1 rfl (Nat.le_of_ble_eq_true rfl) dL_law_642 ⟨(Nat.le_trans (show (cells + 1) + 0 ≤ cells + 3 by omega) hc), (Nat.le_trans (show (slots + 6) + 0 ≤ slots + 18 by omega) hs)⟩ ?_
  refine lv_iload hx hb dL_law_645 (lv_at hl 1 rfl) ?_
  refine lv_icmp_eq (tgt := 652) hx hb dL_law_647 (by decide) (fun c_647 => ?_) (fun c_647 => absurd rfl c_647)
  refine lv_iload hx hb dL_law_652 (lv_at hl 1 rfl) ?_
  refine lv_if_ne (tgt := 669) hx hb dL_law_654 (by decide) (fun c_654 => ?_) (fun c_654 => ?_)
  · refine lv_goto (tgt := 1199) hx hb dL_law_669 (by decide) ?_
    refine W.widen (k := cells + 3) (n := slots + 18) (by omega) (by omega) ?_
    exact kk H locs ls ⟨K, M, B, S, bd, ro, zk, zm, zb, zs, zr, zu, zt, zf', zg, zmc, mg, sp, jn, xo', k, yrow, ymk, yrm, yst, ypc, ybu, ybn, ymd, ybg, ymm, yup, yun, hP, hD, hST2, hXS2, hYS2⟩ hS (lv_sub hl [2, 3, 4, 5, 6] rfl)
  refine lv_aload_n hx hb dL_law_657 rfl (lv_at hl 5 rfl) ?_
  refine lv_iconst (v := 0) hx hb dL_law_658 (by decide) ?_
  refine va_lald hx hb hK hP 25 2 rfl rfl zoN dL_law_659 ?_
  refine lv_iload hx hb dL_law_660 (lv_at hl 0 rfl) ?_
  refine lv_i2l hx hb dL_law_662 rfl ?_
  refine W.lcmp hx hb dL_law_663 ?_
  refine lv_if_eq (tgt := 669) hx hb dL_law_664 (by decide) (fun c_664 => ?_) (fun c_664 => absurd ((lg_cmp_eq _ _).mpr (h0 c_654)) c_664)
  refine lv_goto (tgt := 1199) hx hb dL_law_669 (by decide) ?_
  refine W.widen (k := cells + 3) (n := slots + 18) (by omega) (by omega) ?_
  exact kk H locs ls ⟨K, M, B, S, bd, ro, zk, zm, zb, zs, zr, zu, zt, zf', zg, zmc, mg, sp, jn, xo', k, yrow, ymk, yrm, yst, ypc, ybu, ybn, ymd, ybg, ymm, yup, yun, hP, hD, hST2, hXS2, hYS2⟩ hS (lv_sub hl [2, 3, 4, 5, 6] rfl)
set_option maxHeartbeats 4000000 in
set_option maxRecDepth 100000 in
theorem law_count {p : Program} {l : Launch} {e : Env} {s : State} {m : MethodId} {below : List Frame} {meth : Method} {c : Code} {b L : Nat} {xs : Nat → Int32} (C0 : lw_At p s m meth c b L xs) (hl9 : l.stackTraces = false) {dC : Nat → ClassId} {dI : Nat → Nat → Nat} {cI cZ cJ : ClassId} {ad md : Nat → Nat} {ao : Nat} {sa : Nat → Nat} (hK : va_K (dC, dI) vwCl [(cI, .int), (cZ, .boolean), (cJ, .long)] s) (hV : zV sa (fun q : Nat => s.heap.size ≤ q) s s.heap) (hNc : va_Nc (xN 2) (xN 1) s) {x4 : Int32} (hi1 : vp_in (x4 + 1) L) (hi2 : vp_in (x4 + 2) L) (hi3 : vp_in (x4 + 3) L) {cells slots : Nat} (hc : cells + 3 ≤ room_1.cells) (hs : slots + 18 ≤ room_1.slots) {H : Heap} {locs : List Loc} {ls : Array Slot} (hI : zLS (dC, dI) cI cZ cJ ad md ao (fun q : Nat => s.heap.size ≤ q) H) (hS : va_S (fun q : Nat => s.heap.size ≤ q) s.heap H locs) (hl : lv_has ls 8 [(0, .ref b), (1, .ref (ad 0)), (2, .ref (md 0)), (3, .ref ao), (4, .int x4)]) (kk : ∀ (H : Heap) (locs : List Loc) (ls : Array Slot), zLS (dC, dI) cI cZ cJ ad md ao (fun q : Nat => s.heap.size ≤ q) H → va_S (fun q : Nat => s.heap.size ≤ q) s.heap H locs → lv_has ls 8 [(0, .ref b), (1, .ref (ad 0)), (2, .ref (md 0)), (3, .ref ao), (4, .int x4)] → W p l e room_1 s m #[Value.ref b] below meth c H locs (cells + 3) (slots + 18) (lw_Z below #[Value.ref b] s) (F0 m 1199 ls [])) : W p l e room_1 s m #[Value.ref b] below meth c H locs cells slots (lw_Z below #[Value.ref b] s) (F0 m 672 ls []) := by
  obtain ⟨hx, hb, hr, hml, hown, hts, hX, hbl, hlocks, hgv⟩ := C0
  have hown : s.vm.findClass RL = some m.cls := hown
  have htw : ∀ w ∈ wsL_law, w.before #[Value.ref b] s = true := fun w h => hts w (wsL_law_in w h)
  have hA : ∀ q : Nat, s.heap.size ≤ q → (fun q : Nat => s.heap.size ≤ q) q := fun _ h => h
  have hbA : ¬ (fun q : Nat => s.heap.size ≤ q) b := Nat.not_le.mpr hbl
  obtain ⟨K, M, B, S, bd, ro, zk, zm, zb, zs, zr, zu, zt, zf, zg, zmc, mg, sp, jn, xo, yth, yrow, ymk, yrm, yst, ypc, ybu, ybn, ymd, ybg, ymm, yup, yun, hP, hD, hST, hXS, hYS⟩ := hI
  obtain ⟨F, hF⟩ : ∃ F : Nat, 2000 ≤ F := ⟨2000, Nat.le_refl _⟩
  refine lv_aload_n hx hb dL_law_672 rfl (lv_at hl 1 rfl) ?_
  refine lv_aload_n hx hb dL_law_673 rfl (lv_at hl 0 rfl) ?_
  refine lv_iload hx hb dL_law_674 (lv_at hl 4 rfl) ?_
  refine lv_iconst (v := 1) hx hb dL_law_676 (by decide) ?_
  refine lv_iadd hx hb dL_law_677 ?_
  refine va_sld hx hb hX hbl hbA hS hi1 dL_law_678 ?_
  refine lv_aload_n hx hb dL_law_679 rfl (lv_at hl 0 rfl) ?_
  refine lv_iload hx hb dL_law_680 (lv_at hl 4 rfl) ?_
  refine lv_iconst (v := 2) hx hb dL_law_682 (by decide) ?_
  refine lv_iadd hx hb dL_law_683 ?_
  refine va_sld hx hb hX hbl hbA hS hi2 dL_law_684 ?_
  obtain ⟨v, hm1, hm2, hST2, hXS2, hYS2⟩ := la_count (F := F) (zf := zf) (zg := zg) (mg := mg) (sp := sp) (jn := jn) (ymm := ymm) hF yth ymd ybg yup yun xo hST hXS hYS (xs (Int32.toNatClampNeg (x4 + 1))) (xs (Int32.toNatClampNeg (x4 + 2)))
  refine z_callRi (As := [.int (xs (Int32.toNatClampNeg (x4 + 1))), .int (xs (Int32.toNatClampNeg (x4 + 2)))]) (rest := []) (ci := 2) (q := (RX2, TX2, 15)) (wc := (wL cI ad zk zm zb zs zr zu zt zf zg (J bd) (J ro) zmc mg sp jn)) ⟨hx, hb, hml, hown, htw⟩ (c_X2_count l dC dI cI ad zk zm zb zs zr zu zt zf zg (J bd) (J ro) zmc mg sp jn F (xs (Int32.toNatClampNeg (x4 + 1))) (xs (Int32.toNatClampNeg (x4 + 2))) v hm1) (cwV 2 htw gL_law_X2_count rfl rfl rfl kv_X2_count ⟨(Nat.le_of_ble_eq_true rfl), (Nat.le_of_ble_eq_true rfl)⟩) (hK.sub (tys' := [(cI, .int)]) [0] rfl) (z_mid (spL cI cZ cJ ad md ao yth (J bd) (J ro) yrow ymk yrm yst ypc ybu ybn mg sp jn ymd ybg ymm yup yun zk zm zb zs zr zu zt zf zg (J bd) (J ro) zmc mg sp jn zk zm zb zs zr zu zt zf zg (J bd) (J ro) zmc mg sp jn xo) hP) rfl rfl rfl rfl hl.1 rfl (Nat.le_of_ble_eq_true rfl) dL_law_685 ⟨(Nat.le_trans (show cells + 0 ≤ cells + 3 by omega) hc), (Nat.le_trans (show slots + 0 ≤ slots + 18 by omega) hs)⟩ ?_
  refine lv_aload_n hx hb dL_law_688 rfl (lv_at hl 2 rfl) ?_
  refine lv_aload_n hx hb dL_law_689 rfl (lv_at hl 0 rfl) ?_
  refine lv_iload hx hb dL_law_690 (lv_at hl 4 rfl) ?_
  refine lv_iconst (v := 1) hx hb dL_law_692 (by decide) ?_
  refine lv_iadd hx hb dL_law_693 ?_
  refine va_sld hx hb hX hbl hbA hS hi1 dL_law_694 ?_
  refine lv_aload_n hx hb dL_law_695 rfl (lv_at hl 0 rfl) ?_
  refine lv_iload hx hb dL_law_696 (lv_at hl 4 rfl) ?_
  refine lv_iconst (v := 2) hx hb dL_law_698 (by decide) ?_
  refine lv_iadd hx hb dL_law_699 ?_
  refine va_sld hx hb hX hbl hbA hS hi2 dL_law_700 ?_
  refine z_callWi (wc := (wM cI cZ md yth (J bd) (J ro) yrow ymk yrm yst ypc ybu ybn mg sp jn ymd ybg ymm yup yun)) (w1 := (wM cI cZ md 0 (J bd) (J ro) yrow ymk yrm yst ypc ybu ybn mg sp jn ymd ybg ymm yup yun)) (ws := (wA cI cZ cJ ad md ao yth (J bd) (J ro) yrow ymk yrm yst ypc ybu ybn mg sp jn ymd ybg ymm yup yun zk zm zb zs zr zu zt zf zg (J bd) (J ro) zmc mg sp jn xo)) (ws' := (wA cI cZ cJ ad md ao 0 (J bd) (J ro) yrow ymk yrm yst ypc ybu ybn mg sp jn ymd ybg ymm yup yun zk zm zb zs zr zu zt zf zg (J bd) (J ro) zmc mg sp jn xo)) (As := [.int (xs (Int32.toNatClampNeg (x4 + 1))), .int (xs (Int32.toNatClampNeg (x4 + 2)))]) (rest := [.int v]) (ci := 3) (q := (RX3, TX3, 18)) ⟨hx, hb, hml, hown, htw⟩ (c_X3_count l dC dI cI cZ md yth (J bd) (J ro) yrow ymk yrm yst ypc ybu ybn mg sp jn ymd ybg ymm yup yun F (xs (Int32.toNatClampNeg (x4 + 1))) (xs (Int32.toNatClampNeg (x4 + 2))) H.size v 0 hm2) (cwV 2 htw gL_law_X3_count rfl rfl rfl kv_X3_count ⟨(Nat.le_of_ble_eq_true rfl), (Nat.le_of_ble_eq_true rfl)⟩) (hK.sub (tys' := [(cI, .int), (cZ, .boolean)]) [0, 1] rfl) hP hD hS hA (spM cI cZ cJ ad md ao yth (J bd) (J ro) yrow ymk yrm yst ypc ybu ybn mg sp jn ymd ybg ymm yup yun 0 (J bd) (J ro) yrow ymk yrm yst ypc ybu ybn mg sp jn ymd ybg ymm yup yun zk zm zb zs zr zu zt zf zg (J bd) (J ro) zmc mg sp jn xo) ((paM cI cZ md 0 (J bd) (J ro) yrow ymk yrm yst ypc ybu ybn mg sp jn ymd ybg ymm yup yun).trans (paM cI cZ md yth (J bd) (J ro) yrow ymk yrm yst ypc ybu ybn mg sp jn ymd ybg ymm yup yun).symm) rfl rfl rfl rfl hl.1 rfl (Nat.le_of_ble_eq_true rfl) dL_law_701 ⟨(Nat.le_trans (show cells + 0 ≤ cells + 3 by omega) hc), (Nat.le_trans (show slots + 0 ≤ slots + 18 by omega) hs)⟩ (fun H locs hP hD hS => ?_)
  have hP : va_P (dC, dI) vwCl (wA cI cZ cJ ad md ao 0 (J bd) (J ro) yrow ymk yrm yst ypc ybu ybn mg sp jn ymd ybg ymm yup yun zk zm zb zs zr zu zt zf zg (J bd) (J ro) zmc mg sp jn xo) H := hP
  have hD : va_D (fun q : Nat => s.heap.size ≤ q) (wA cI cZ cJ ad md ao 0 (J bd) (J ro) yrow ymk yrm yst ypc ybu ybn mg sp jn ymd ybg ymm yup yun zk zm zb zs zr zu zt zf zg (J bd) (J ro) zmc mg sp jn xo) := hD
  refine lv_icmp_eq (tgt := 1199) hx hb dL_law_704 (by decide) (fun c_704 => ?_) (fun c_704 => absurd rfl c_704)
  refine W.widen (k := cells + 3) (n := slots + 18) (by omega) (by omega) ?_
  exact kk H locs ls ⟨K, M, B, S, bd, ro, zk, zm, zb, zs, zr, zu, zt, zf, zg, zmc, mg, sp, jn, xo, 0, yrow, ymk, yrm, yst, ypc, ybu, ybn, ymd, ybg, ymm, yup, yun, hP, hD, hST2, hXS2, hYS2⟩ hS (lv_sub hl [0, 1, 2, 3, 4] rfl)
set_option maxHeartbeats 4000000 in
set_option maxRecDepth 100000 in
theorem law_place {p : Program} {l : Launch} {e : Env} {s : State} {m : MethodId} {below : List Frame} {meth : Method} {c : Code} {b L : Nat} {xs : Nat → Int32} (C0 : lw_At p s m meth c b L xs) (hl9 : l.stackTraces = false) {dC : Nat → ClassId} {dI : Nat → Nat → Nat} {cI cZ cJ : ClassId} {ad md : Nat → Nat} {ao : Nat} {sa : Nat → Nat} (hK : va_K (dC, dI) vwCl [(cI, .int), (cZ, .boolean), (cJ, .long)] s) (hV : zV sa (fun q : Nat => s.heap.size ≤ q) s s.heap) (hNc : va_Nc (xN 2) (xN 1) s) {x4 : Int32} (hi1 : vp_in (x4 + 1) L) (hi2 : vp_in (x4 + 2) L) (hi3 : vp_in (x4 + 3) L) {cells slots : Nat} (hc : cells + 3 ≤ room_1.cells) (hs : slots + 18 ≤ room_1.slots) {H : Heap} {locs : List Loc} {ls : Array Slot} (hI : zLS (dC, dI) cI cZ cJ ad md ao (fun q : Nat => s.heap.size ≤ q) H) (hS : va_S (fun q : Nat => s.heap.size ≤ q) s.heap H locs) (hl : lv_has ls 8 [(0, .ref b), (1, .ref (ad 0)), (2, .ref (md 0)), (3, .ref ao), (4, .int x4)]) (kk : ∀ (H : Heap) (locs : List Loc) (ls : Array Slot), zLS (dC, dI) cI cZ cJ ad md ao (fun q : Nat => s.heap.size ≤ q) H → va_S (fun q : Nat => s.heap.size ≤ q) s.heap H locs → lv_has ls 8 [(0, .ref b), (1, .ref (ad 0)), (2, .ref (md 0)), (3, .ref ao), (4, .int x4)] → W p l e room_1 s m #[Value.ref b] below meth c H locs (cells + 3) (slots + 18) (lw_Z below #[Value.ref b] s) (F0 m 1199 ls [])) : W p l e room_1 s m #[Value.ref b] below meth c H locs cells slots (lw_Z below #[Value.ref b] s) (F0 m 709 ls []) := by
  obtain ⟨hx, hb, hr, hml, hown, hts, hX, hbl, hlocks, hgv⟩ := C0
  have hown : s.vm.findClass RL = some m.cls := hown
  have htw : ∀ w ∈ wsL_law, w.before #[Value.ref b] s = true := fun w h => hts w (wsL_law_in w h)
  have hA : ∀ q : Nat, s.heap.size ≤ q → (fun q : Nat => s.heap.size ≤ q) q := fun _ h => h
  have hbA : ¬ (fun q : Nat => s.heap.size ≤ q) b := Nat.not_le.mpr hbl
  obtain ⟨K, M, B, S, bd, ro, zk, zm, zb, zs, zr, zu, zt, zf, zg, zmc, mg, sp, jn, xo, yth, yrow, ymk, yrm, yst, ypc, ybu, ybn, ymd, ybg, ymm, yup, yun, hP, hD, hST, hXS, hYS⟩ := hI
  obtain ⟨F, hF⟩ : ∃ F : Nat, 2000 ≤ F := ⟨2000, Nat.le_refl _⟩
  refine lv_aload_n hx hb dL_law_709 rfl (lv_at hl 1 rfl) ?_
  refine lv_aload_n hx hb dL_law_710 rfl (lv_at hl 0 rfl) ?_
  refine lv_iload hx hb dL_law_711 (lv_at hl 4 rfl) ?_
  refine lv_iconst (v := 1) hx hb dL_law_713 (by decide) ?_
  refine lv_iadd hx hb dL_law_714 ?_
  refine va_sld hx hb hX hbl hbA hS hi1 dL_law_715 ?_
  obtain ⟨v, hm1, hm2, hST2, hXS2, hYS2⟩ := la_place (F := F) (zf := zf) (zg := zg) (mg := mg) (sp := sp) (jn := jn) (ymm := ymm) hF yth ymd ybg yup yun xo hST hXS hYS (xs (Int32.toNatClampNeg (x4 + 1)))
  refine z_callRi (As := [.int (xs (Int32.toNatClampNeg (x4 + 1)))]) (rest := []) (ci := 2) (q := (RX2, TX2, 15)) (wc := (wL cI ad zk zm zb zs zr zu zt zf zg (J bd) (J ro) zmc mg sp jn)) ⟨hx, hb, hml, hown, htw⟩ (c_X2_place l dC dI cI ad zk zm zb zs zr zu zt zf zg (J bd) (J ro) zmc mg sp jn F (xs (Int32.toNatClampNeg (x4 + 1))) v hm1) (cwV 1 htw gL_law_X2_place rfl rfl rfl kv_X2_place ⟨(Nat.le_of_ble_eq_true rfl), (Nat.le_of_ble_eq_true rfl)⟩) (hK.sub (tys' := [(cI, .int)]) [0] rfl) (z_mid (spL cI cZ cJ ad md ao yth (J bd) (J ro) yrow ymk yrm yst ypc ybu ybn mg sp jn ymd ybg ymm yup yun zk zm zb zs zr zu zt zf zg (J bd) (J ro) zmc mg sp jn zk zm zb zs zr zu zt zf zg (J bd) (J ro) zmc mg sp jn xo) hP) rfl rfl rfl rfl hl.1 rfl (Nat.le_of_ble_eq_true rfl) dL_law_716 ⟨(Nat.le_trans (show cells + 0 ≤ cells + 3 by omega) hc), (Nat.le_trans (show slots + 0 ≤ slots + 18 by omega) hs)⟩ ?_
  refine lv_aload_n hx hb dL_law_719 rfl (lv_at hl 2 rfl) ?_
  refine lv_aload_n hx hb dL_law_720 rfl (lv_at hl 0 rfl) ?_
  refine lv_iload hx hb dL_law_721 (lv_at hl 4 rfl) ?_
  refine lv_iconst (v := 1) hx hb dL_law_723 (by decide) ?_
  refine lv_iadd hx hb dL_law_724 ?_
  refine va_sld hx hb hX hbl hbA hS hi1 dL_law_725 ?_
  refine z_callWi (wc := (wM cI cZ md yth (J bd) (J ro) yrow ymk yrm yst ypc ybu ybn mg sp jn ymd ybg ymm yup yun)) (w1 := (wM cI cZ md 0 (J bd) (J ro) yrow ymk yrm yst ypc ybu ybn mg sp jn ymd ybg ymm yup yun)) (ws := (wA cI cZ cJ ad md ao yth (J bd) (J ro) yrow ymk yrm yst ypc ybu ybn mg sp jn ymd ybg ymm yup yun zk zm zb zs zr zu zt zf zg (J bd) (J ro) zmc mg sp jn xo)) (ws' := (wA cI cZ cJ ad md ao 0 (J bd) (J ro) yrow ymk yrm yst ypc ybu ybn mg sp jn ymd ybg ymm yup yun zk zm zb zs zr zu zt zf zg (J bd) (J ro) zmc mg sp jn xo)) (As := [.int (xs (Int32.toNatClampNeg (x4 + 1)))]) (rest := [.int v]) (ci := 3) (q := (RX3, TX3, 18)) ⟨hx, hb, hml, hown, htw⟩ (c_X3_place l dC dI cI cZ md yth (J bd) (J ro) yrow ymk yrm yst ypc ybu ybn mg sp jn ymd ybg ymm yup yun F (xs (Int32.toNatClampNeg (x4 + 1))) H.size v 0 hm2) (cwV 1 htw gL_law_X3_place rfl rfl rfl kv_X3_place ⟨(Nat.le_of_ble_eq_true rfl), (Nat.le_of_ble_eq_true rfl)⟩) (hK.sub (tys' := [(cI, .int), (cZ, .boolean)]) [0, 1] rfl) hP hD hS hA (spM cI cZ cJ ad md ao yth (J bd) (J ro) yrow ymk yrm yst ypc ybu ybn mg sp jn ymd ybg ymm yup yun 0 (J bd) (J ro) yrow ymk yrm yst ypc ybu ybn mg sp jn ymd ybg ymm yup yun zk zm zb zs zr zu zt zf zg (J bd) (J ro) zmc mg sp jn xo) ((paM cI cZ md 0 (J bd) (J ro) yrow ymk yrm yst ypc ybu ybn mg sp jn ymd ybg ymm yup yun).trans (paM cI cZ md yth (J bd) (J ro) yrow ymk yrm yst ypc ybu ybn mg sp jn ymd ybg ymm yup yun).symm) rfl rfl rfl rfl hl.1 rfl (Nat.le_of_ble_eq_true rfl) dL_law_726 ⟨(Nat.le_trans (show cells + 0 ≤ cells + 3 by omega) hc), (Nat.le_trans (show slots + 0 ≤ slots + 18 by omega) hs)⟩ (fun H locs hP hD hS => ?_)
  have hP : va_P (dC, dI) vwCl (wA cI cZ cJ ad md ao 0 (J bd) (J ro) yrow ymk yrm yst ypc ybu ybn mg sp jn ymd ybg ymm yup yun zk zm zb zs zr zu zt zf zg (J bd) (J ro) zmc mg sp jn xo) H := hP
  have hD : va_D (fun q : Nat => s.heap.size ≤ q) (wA cI cZ cJ ad md ao 0 (J bd) (J ro) yrow ymk yrm yst ypc ybu ybn mg sp jn ymd ybg ymm yup yun zk zm zb zs zr zu zt zf zg (J bd) (J ro) zmc mg sp jn xo) := hD
  refine lv_icmp_eq (tgt := 1199) hx hb dL_law_729 (by decide) (fun c_729 => ?_) (fun c_729 => absurd rfl c_729)
  refine W.widen (k := cells + 3) (n := slots + 18) (by omega) (by omega) ?_
  exact kk H locs ls ⟨K, M, B, S, bd, ro, zk, zm, zb, zs, zr, zu, zt, zf, zg, zmc, mg, sp, jn, xo, 0, yrow, ymk, yrm, yst, ypc, ybu, ybn, ymd, ybg, ymm, yup, yun, hP, hD, hST2, hXS2, hYS2⟩ hS (lv_sub hl [0, 1, 2, 3, 4] rfl)
set_option maxHeartbeats 4000000 in
set_option maxRecDepth 100000 in
theorem law_guess {p : Program} {l : Launch} {e : Env} {s : State} {m : MethodId} {below : List Frame} {meth : Method} {c : Code} {b L : Nat} {xs : Nat → Int32} (C0 : lw_At p s m meth c b L xs) (hl9 : l.stackTraces = false) {dC : Nat → ClassId} {dI : Nat → Nat → Nat} {cI cZ cJ : ClassId} {ad md : Nat → Nat} {ao : Nat} {sa : Nat → Nat} (hK : va_K (dC, dI) vwCl [(cI, .int), (cZ, .boolean), (cJ, .long)] s) (hV : zV sa (fun q : Nat => s.heap.size ≤ q) s s.heap) (hNc : va_Nc (xN 2) (xN 1) s) {x4 : Int32} (hi1 : vp_in (x4 + 1) L) (hi2 : vp_in (x4 + 2) L) (hi3 : vp_in (x4 + 3) L) {cells slots : Nat} (hc : cells + 3 ≤ room_1.cells) (hs : slots + 18 ≤ room_1.slots) {H : Heap} {locs : List Loc} {ls : Array Slot} (hI : zLS (dC, dI) cI cZ cJ ad md ao (fun q : Nat => s.heap.size ≤ q) H) (hS : va_S (fun q : Nat => s.heap.size ≤ q) s.heap H locs) (hl : lv_has ls 8 [(0, .ref b), (1, .ref (ad 0)), (2, .ref (md 0)), (3, .ref ao), (4, .int x4)]) (kk : ∀ (H : Heap) (locs : List Loc) (ls : Array Slot), zLS (dC, dI) cI cZ cJ ad md ao (fun q : Nat => s.heap.size ≤ q) H → va_S (fun q : Nat => s.heap.size ≤ q) s.heap H locs → lv_has ls 8 [(0, .ref b), (1, .ref (ad 0)), (2, .ref (md 0)), (3, .ref ao), (4, .int x4)] → W p l e room_1 s m #[Value.ref b] below meth c H locs (cells + 3) (slots + 18) (lw_Z below #[Value.ref b] s) (F0 m 1199 ls [])) : W p l e room_1 s m #[Value.ref b] below meth c H locs cells slots (lw_Z below #[Value.ref b] s) (F0 m 734 ls []) := by
  obtain ⟨hx, hb, hr, hml, hown, hts, hX, hbl, hlocks, hgv⟩ := C0
  have hown : s.vm.findClass RL = some m.cls := hown
  have htw : ∀ w ∈ wsL_law, w.before #[Value.ref b] s = true := fun w h => hts w (wsL_law_in w h)
  have hA : ∀ q : Nat, s.heap.size ≤ q → (fun q : Nat => s.heap.size ≤ q) q := fun _ h => h
  have hbA : ¬ (fun q : Nat => s.heap.size ≤ q) b := Nat.not_le.mpr hbl
  obtain ⟨K, M, B, S, bd, ro, zk, zm, zb, zs, zr, zu, zt, zf, zg, zmc, mg, sp, jn, xo, yth, yrow, ymk, yrm, yst, ypc, ybu, ybn, ymd, ybg, ymm, yup, yun, hP, hD, hST, hXS, hYS⟩ := hI
  obtain ⟨F, hF⟩ : ∃ F : Nat, 2000 ≤ F := ⟨2000, Nat.le_refl _⟩
  refine lv_aload_n hx hb dL_law_734 rfl (lv_at hl 1 rfl) ?_
  refine lv_aload_n hx hb dL_law_735 rfl (lv_at hl 0 rfl) ?_
  refine lv_iload hx hb dL_law_736 (lv_at hl 4 rfl) ?_
  refine lv_iconst (v := 1) hx hb dL_law_738 (by decide) ?_
  refine lv_iadd hx hb dL_law_739 ?_
  refine va_sld hx hb hX hbl hbA hS hi1 dL_law_740 ?_
  refine lv_aload_n hx hb dL_law_741 rfl (lv_at hl 3 rfl) ?_
  obtain ⟨k, v, xo', yup', yun', hm1, hm2, h0, hST2, hXS2, hYS2⟩ := la_guess (F := F) (zf := zf) (zg := zg) (mg := mg) (sp := sp) (jn := jn) (ymm := ymm) hF yth ymd ybg yup yun xo hST hXS hYS (xs (Int32.toNatClampNeg (x4 + 1)))
  refine z_hSi (wc := (wB cI cJ ad ao zk zm zb zs zr zu zt zf zg (J bd) (J ro) zmc mg sp jn xo)) (w1 := (wB cI cJ ad ao zk zm zb zs zr zu zt zf zg (J bd) (J ro) zmc mg sp jn xo')) (ws := (wA cI cZ cJ ad md ao yth (J bd) (J ro) yrow ymk yrm yst ypc ybu ybn mg sp jn ymd ybg ymm yup yun zk zm zb zs zr zu zt zf zg (J bd) (J ro) zmc mg sp jn xo)) (ws' := (wA cI cZ cJ ad md ao yth (J bd) (J ro) yrow ymk yrm yst ypc ybu ybn mg sp jn ymd ybg ymm yup yun zk zm zb zs zr zu zt zf zg (J bd) (J ro) zmc mg sp jn xo')) (As := [.ref (ad 0), .int (xs (Int32.toNatClampNeg (x4 + 1))), .ref ao]) (rest := []) ⟨hx, hb, hml, hown, htw⟩ (c_L_guess l dC dI cI cJ ad ao zk zm zb zs zr zu zt zf zg (J bd) (J ro) zmc mg sp jn xo F (xs (Int32.toNatClampNeg (x4 + 1))) H.size sa hl9 k xo' hm1) (vx_cwSW 3 htw gL_law_L_guess rfl rfl rfl (by decide +kernel) ⟨(Nat.le_of_ble_eq_true rfl), (Nat.le_of_ble_eq_true rfl)⟩) hV hNc (hK.sub (tys' := [(cI, .int), (cJ, .long)]) [0, 2] rfl) hP hD hS hA (spB cI cZ cJ ad md ao yth (J bd) (J ro) yrow ymk yrm yst ypc ybu ybn mg sp jn ymd ybg ymm yup yun zk zm zb zs zr zu zt zf zg (J bd) (J ro) zmc mg sp jn zk zm zb zs zr zu zt zf zg (J bd) (J ro) zmc mg sp jn xo xo') ((paB cI cJ ad ao zk zm zb zs zr zu zt zf zg (J bd) (J ro) zmc mg sp jn xo').trans (paB cI cJ ad ao zk zm zb zs zr zu zt zf zg (J bd) (J ro) zmc mg sp jn xo).symm) rfl hl.1 rfl (Nat.le_of_ble_eq_true rfl) dL_law_742 ⟨(Nat.le_trans (show cells + 1 ≤ cells + 3 by omega) hc), (Nat.le_trans (show slots + 6 ≤ slots + 18 by omega) hs)⟩ (fun H locs hP hD hS => ?_)
  have hP : va_P (dC, dI) vwCl (wA cI cZ cJ ad md ao yth (J bd) (J ro) yrow ymk yrm yst ypc ybu ybn mg sp jn ymd ybg ymm yup yun zk zm zb zs zr zu zt zf zg (J bd) (J ro) zmc mg sp jn xo') H := hP
  have hD : va_D (fun q : Nat => s.heap.size ≤ q) (wA cI cZ cJ ad md ao yth (J bd) (J ro) yrow ymk yrm yst ypc ybu ybn mg sp jn ymd ybg ymm yup yun zk zm zb zs zr zu zt zf zg (J bd) (J ro) zmc mg sp jn xo') := hD
  refine lv_istore (lv' := [(5, .int k), (0, .ref b), (1, .ref (ad 0)), (2, .ref (md 0)), (3, .ref ao), (4, .int x4)]) hx hb dL_law_745 hl (by decide) rfl (fun ls hl => ?_)
  refine lv_aload_n hx hb dL_law_747 rfl (lv_at hl 3 rfl) ?_
  refine lv_aload_n hx hb dL_law_748 rfl (lv_at hl 1 rfl) ?_
  refine lv_iload hx hb dL_law_749 (lv_at hl 5 rfl) ?_
  refine lv_iconst (v := 1) hx hb dL_law_751 (by decide) ?_
  refine lv_iadd hx hb dL_law_752 ?_
  refine va_sld hx hb hX hbl hbA hS hi1 dL_law_753 ?_
  refine z_callWl (wc := (wM cI cZ md yth (J bd) (J ro) yrow ymk yrm yst ypc ybu ybn mg sp jn ymd ybg ymm yup yun)) (w1 := (wM cI cZ md k (J bd) (J ro) yrow ymk yrm yst ypc ybu ybn mg sp jn ymd ybg ymm yup' yun')) (ws := (wA cI cZ cJ ad md ao yth (J bd) (J ro) yrow ymk yrm yst ypc ybu ybn mg sp jn ymd ybg ymm yup yun zk zm zb zs zr zu zt zf zg (J bd) (J ro) zmc mg sp jn xo')) (ws' := (wA cI cZ cJ ad md ao k (J bd) (J ro) yrow ymk yrm yst ypc ybu ybn mg sp jn ymd ybg ymm yup' yun' zk zm zb zs zr zu zt zf zg (J bd) (J ro) zmc mg sp jn xo')) (As := [.int (xs (Int32.toNatClampNeg (x4 + 1)))]) (rest := []) (ci := 3) (q := (RX3, TX3, 18)) ⟨hx, hb, hml, hown, htw⟩ (c_X3_guess l dC dI cI cZ md yth (J bd) (J ro) yrow ymk yrm yst ypc ybu ybn mg sp jn ymd ybg ymm yup yun F (xs (Int32.toNatClampNeg (x4 + 1))) H.size v k yup' yun' hm2) (cwV 1 htw gL_law_X3_guess rfl rfl rfl kv_X3_guess ⟨(Nat.le_of_ble_eq_true rfl), (Nat.le_of_ble_eq_true rfl)⟩) (hK.sub (tys' := [(cI, .int), (cZ, .boolean)]) [0, 1] rfl) hP hD hS hA (spM cI cZ cJ ad md ao yth (J bd) (J ro) yrow ymk yrm yst ypc ybu ybn mg sp jn ymd ybg ymm yup yun k (J bd) (J ro) yrow ymk yrm yst ypc ybu ybn mg sp jn ymd ybg ymm yup' yun' zk zm zb zs zr zu zt zf zg (J bd) (J ro) zmc mg sp jn xo') ((paM cI cZ md k (J bd) (J ro) yrow ymk yrm yst ypc ybu ybn mg sp jn ymd ybg ymm yup' yun').trans (paM cI cZ md yth (J bd) (J ro) yrow ymk yrm yst ypc ybu ybn mg sp jn ymd ybg ymm yup yun).symm) rfl rfl rfl rfl hl.1 rfl (Nat.le_of_ble_eq_true rfl) dL_law_754 ⟨(Nat.le_trans (show (cells + 1) + 0 ≤ cells + 3 by omega) hc), (Nat.le_trans (show (slots + 6) + 0 ≤ slots + 18 by omega) hs)⟩ (fun H locs hP hD hS => ?_)
  have hP : va_P (dC, dI) vwCl (wA cI cZ cJ ad md ao k (J bd) (J ro) yrow ymk yrm yst ypc ybu ybn mg sp jn ymd ybg ymm yup' yun' zk zm zb zs zr zu zt zf zg (J bd) (J ro) zmc mg sp jn xo') H := hP
  have hD : va_D (fun q : Nat => s.heap.size ≤ q) (wA cI cZ cJ ad md ao k (J bd) (J ro) yrow ymk yrm yst ypc ybu ybn mg sp jn ymd ybg ymm yup' yun' zk zm zb zs zr zu zt zf zg (J bd) (J ro) zmc mg sp jn xo') := hD
  refine lv_lstore (lv' := [(6, .long v), (5, .int k), (0, .ref b), (1, .ref (ad 0)), (2, .ref (md 0)), (3, .ref ao), (4, .int x4)]) hx hb dL_law_757 hl (by decide) rfl (fun ls hl => ?_)
  refine lv_aload_n hx hb dL_law_759 rfl (lv_at hl 4 rfl) ?_
  refine z_callRi (As := []) (rest := []) (ci := 3) (q := (RX3, TX3, 18)) (wc := (wM cI cZ md k (J bd) (J ro) yrow ymk yrm yst ypc ybu ybn mg sp jn ymd ybg ymm yup' yun')) ⟨hx, hb, hml, hown, htw⟩ (c_X3_thrown l dC dI cI cZ md k (J bd) (J ro) yrow ymk yrm yst ypc ybu ybn mg sp jn ymd ybg ymm yup' yun' F k rfl) (cwV 0 htw gL_law_X3_thrown rfl rfl rfl kv_X3_thrown ⟨(Nat.le_of_ble_eq_true rfl), (Nat.le_of_ble_eq_true rfl)⟩) (hK.sub (tys' := [(cI, .int), (cZ, .boolean)]) [0, 1] rfl) (z_mid (spM cI cZ cJ ad md ao k (J bd) (J ro) yrow ymk yrm yst ypc ybu ybn mg sp jn ymd ybg ymm yup' yun' k (J bd) (J ro) yrow ymk yrm yst ypc ybu ybn mg sp jn ymd ybg ymm yup' yun' zk zm zb zs zr zu zt zf zg (J bd) (J ro) zmc mg sp jn xo') hP) rfl rfl rfl rfl hl.1 rfl (Nat.le_of_ble_eq_true rfl) dL_law_760 ⟨(Nat.le_trans (show (cells + 1) + 0 ≤ cells + 3 by omega) hc), (Nat.le_trans (show (slots + 6) + 0 ≤ slots + 18 by omega) hs)⟩ ?_
  refine lv_iload hx hb dL_law_763 (lv_at hl 1 rfl) ?_
  refine lv_icmp_eq (tgt := 770) hx hb dL_law_765 (by decide) (fun c_765 => ?_) (fun c_765 => absurd rfl c_765)
  refine lv_iload hx hb dL_law_770 (lv_at hl 1 rfl) ?_
  refine lv_if_ne (tgt := 786) hx hb dL_law_772 (by decide) (fun c_772 => ?_) (fun c_772 => ?_)
  · refine lv_goto (tgt := 1199) hx hb dL_law_786 (by decide) ?_
    refine W.widen (k := cells + 3) (n := slots + 18) (by omega) (by omega) ?_
    exact kk H locs ls ⟨K, M, B, S, bd, ro, zk, zm, zb, zs, zr, zu, zt, zf, zg, zmc, mg, sp, jn, xo', k, yrow, ymk, yrm, yst, ypc, ybu, ybn, ymd, ybg, ymm, yup', yun', hP, hD, hST2, hXS2, hYS2⟩ hS (lv_sub hl [2, 3, 4, 5, 6] rfl)
  refine lv_aload_n hx hb dL_law_775 rfl (lv_at hl 5 rfl) ?_
  refine lv_iconst (v := 0) hx hb dL_law_776 (by decide) ?_
  refine va_lald hx hb hK hP 25 2 rfl rfl zoN dL_law_777 ?_
  refine lv_lload hx hb dL_law_778 (lv_at hl 0 rfl) ?_
  refine W.lcmp hx hb dL_law_780 ?_
  refine lv_if_eq (tgt := 786) hx hb dL_law_781 (by decide) (fun c_781 => ?_) (fun c_781 => absurd ((lg_cmp_eq _ _).mpr (h0 c_772)) c_781)
  refine lv_goto (tgt := 1199) hx hb dL_law_786 (by decide) ?_
  refine W.widen (k := cells + 3) (n := slots + 18) (by omega) (by omega) ?_
  exact kk H locs ls ⟨K, M, B, S, bd, ro, zk, zm, zb, zs, zr, zu, zt, zf, zg, zmc, mg, sp, jn, xo', k, yrow, ymk, yrm, yst, ypc, ybu, ybn, ymd, ybg, ymm, yup', yun', hP, hD, hST2, hXS2, hYS2⟩ hS (lv_sub hl [2, 3, 4, 5, 6] rfl)
