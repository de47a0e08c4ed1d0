set_option maxHeartbeats 4000000 in
set_option maxRecDepth 100000 in
theorem law_append {p : Program} {l : Launch} {e : Env} {s : State} {m : MethodId} {below : List Frame} {meth : Method} {c : Code} {b L : Nat} {xs : Nat → Int32} (C0 : lw_At p s m meth c b L xs) (hl9 : l.stackTraces = false) {dC : Nat → ClassId} {dI : Nat → Nat → Nat} {cI cZ cJ : ClassId} {ad md : Nat → Nat} {ao : Nat} {sa : Nat → Nat} (hK : va_K (dC, dI) vwCl [(cI, .int), (cZ, .boolean), (cJ, .long)] s) (hV : zV sa (fun q : Nat => s.heap.size ≤ q) s s.heap) (hNc : va_Nc (xN 2) (xN 1) s) {x4 : Int32} (hi1 : vp_in (x4 + 1) L) (hi2 : vp_in (x4 + 2) L) (hi3 : vp_in (x4 + 3) L) {cells slots : Nat} (hc : cells + 3 ≤ room_1.cells) (hs : slots + 18 ≤ room_1.slots) {H : Heap} {locs : List Loc} {ls : Array Slot} (hI : zLS (dC, dI) cI cZ cJ ad md ao (fun q : Nat => s.heap.size ≤ q) H) (hS : va_S (fun q : Nat => s.heap.size ≤ q) s.heap H locs) (hl : lv_has ls 8 [(0, .ref b), (1, .ref (ad 0)), (2, .ref (md 0)), (3, .ref ao), (4, .int x4)]) (kk : ∀ (H : Heap) (locs : List Loc) (ls : Array Slot), zLS (dC, dI) cI cZ cJ ad md ao (fun q : Nat => s.heap.size ≤ q) H → va_S (fun q : Nat => s.heap.size ≤ q) s.heap H locs → lv_has ls 8 [(0, .ref b), (1, .ref (ad 0)), (2, .ref (md 0)), (3, .ref ao), (4, .int x4)] → W p l e room_1 s m #[Value.ref b] below meth c H locs (cells + 3) (slots + 18) (lw_Z below #[Value.ref b] s) (F0 m 1199 ls [])) : W p l e room_1 s m #[Value.ref b] below meth c H locs cells slots (lw_Z below #[Value.ref b] s) (F0 m 168 ls []) := by
  obtain ⟨hx, hb, hr, hml, hown, hts, hX, hbl, hlocks, hgv⟩ := C0
  have hown : s.vm.findClass RL = some m.cls := hown
  have htw : ∀ w ∈ wsL_law, w.before #[Value.ref b] s = true := fun w h => hts w (wsL_law_in w h)
  have hA : ∀ q : Nat, s.heap.size ≤ q → (fun q : Nat => s.heap.size ≤ q) q := fun _ h => h
  have hbA : ¬ (fun q : Nat => s.heap.size ≤ q) b := Nat.not_le.mpr hbl
  obtain ⟨K, M, B, S, bd, ro, zk, zm, zb, zs, zr, zu, zt, zf, zg, zmc, mg, sp, jn, xo, yth, yrow, ymk, yrm, yst, ypc, ybu, ybn, ymd, ybg, ymm, yup, yun, hP, hD, hST, hXS, hYS⟩ := hI
  obtain ⟨F, hF⟩ : ∃ F : Nat, 2000 ≤ F := ⟨2000, Nat.le_refl _⟩
  refine lv_aload_n hx hb dL_law_168 rfl (lv_at hl 1 rfl) ?_
  refine lv_aload_n hx hb dL_law_169 rfl (lv_at hl 0 rfl) ?_
  refine lv_iload hx hb dL_law_170 (lv_at hl 4 rfl) ?_
  refine lv_iconst (v := 1) hx hb dL_law_172 (by decide) ?_
  refine lv_iadd hx hb dL_law_173 ?_
  refine va_sld hx hb hX hbl hbA hS hi1 dL_law_174 ?_
  refine lv_aload_n hx hb dL_law_175 rfl (lv_at hl 3 rfl) ?_
  obtain ⟨k, v, K', M', S', zk', zm', zs', zr', zu', zt', xo', yrow', ymk', yrm', yst', ypc', yup', yun', hm1, hm2, h0, hST2, hXS2, hYS2⟩ := la_append (F := F) (zf := zf) (zg := zg) (mg := mg) (sp := sp) (jn := jn) (ymm := ymm) hF yth ymd ybg yup yun xo hST hXS hYS (xs (Int32.toNatClampNeg (x4 + 1)))
  refine z_hSi (wc := (wB cI cJ ad ao zk zm zb zs zr zu zt zf zg (J bd) (J ro) zmc mg sp jn xo)) (w1 := (wB cI cJ ad ao zk' zm' zb zs' zr' zu' zt' zf zg (J bd) (J ro) zmc mg sp jn xo')) (ws := (wA cI cZ cJ ad md ao yth (J bd) (J ro) yrow ymk yrm yst ypc ybu ybn mg sp jn ymd ybg ymm yup yun zk zm zb zs zr zu zt zf zg (J bd) (J ro) zmc mg sp jn xo)) (ws' := (wA cI cZ cJ ad md ao yth (J bd) (J ro) yrow ymk yrm yst ypc ybu ybn mg sp jn ymd ybg ymm yup yun zk' zm' zb zs' zr' zu' zt' zf zg (J bd) (J ro) zmc mg sp jn xo')) (As := [.ref (ad 0), .int (xs (Int32.toNatClampNeg (x4 + 1))), .ref ao]) (rest := []) ⟨hx, hb, hml, hown, htw⟩ (c_L_append l dC dI cI cJ ad ao zk zm zb zs zr zu zt zf zg (J bd) (J ro) zmc mg sp jn xo F (xs (Int32.toNatClampNeg (x4 + 1))) H.size sa hl9 k zk' zm' zs' zr' zu' zt' xo' hm1) (vx_cwSW 3 htw gL_law_L_append rfl rfl rfl (by decide +kernel) ⟨(Nat.le_of_ble_eq_true rfl), (Nat.le_of_ble_eq_true rfl)⟩) hV hNc (hK.sub (tys' := [(cI, .int), (cJ, .long)]) [0, 2] rfl) hP hD hS hA (spB cI cZ cJ ad md ao yth (J bd) (J ro) yrow ymk yrm yst ypc ybu ybn mg sp jn ymd ybg ymm yup yun zk zm zb zs zr zu zt zf zg (J bd) (J ro) zmc mg sp jn zk' zm' zb zs' zr' zu' zt' zf zg (J bd) (J ro) zmc mg sp jn xo xo') ((paB cI cJ ad ao zk' zm' zb zs' zr' zu' zt' zf zg (J bd) (J ro) zmc mg sp jn xo').trans (paB cI cJ ad ao zk zm zb zs zr zu zt zf zg (J bd) (J ro) zmc mg sp jn xo).symm) rfl hl.1 rfl (Nat.le_of_ble_eq_true rfl) dL_law_176 ⟨(Nat.le_trans (show cells + 2 ≤ cells + 3 by omega) hc), (Nat.le_trans (show slots + 12 ≤ slots + 18 by omega) hs)⟩ (fun H locs hP hD hS => ?_)
  have hP : va_P (dC, dI) vwCl (wA cI cZ cJ ad md ao yth (J bd) (J ro) yrow ymk yrm yst ypc ybu ybn mg sp jn ymd ybg ymm yup yun zk' zm' zb zs' zr' zu' zt' zf zg (J bd) (J ro) zmc mg sp jn xo') H := hP
  have hD : va_D (fun q : Nat => s.heap.size ≤ q) (wA cI cZ cJ ad md ao yth (J bd) (J ro) yrow ymk yrm yst ypc ybu ybn mg sp jn ymd ybg ymm yup yun zk' zm' zb zs' zr' zu' zt' zf zg (J bd) (J ro) zmc mg sp jn xo') := hD
  refine lv_istore (lv' := [(5, .int k), (0, .ref b), (1, .ref (ad 0)), (2, .ref (md 0)), (3, .ref ao), (4, .int x4)]) hx hb dL_law_179 hl (by decide) rfl (fun ls hl => ?_)
  refine lv_aload_n hx hb dL_law_181 rfl (lv_at hl 3 rfl) ?_
  refine lv_aload_n hx hb dL_law_182 rfl (lv_at hl 1 rfl) ?_
  refine lv_iload hx hb dL_law_183 (lv_at hl 5 rfl) ?_
  refine lv_iconst (v := 1) hx hb dL_law_185 (by decide) ?_
  refine lv_iadd hx hb dL_law_186 ?_
  refine va_sld hx hb hX hbl hbA hS hi1 dL_law_187 ?_
  refine z_callWi (wc := (wM cI cZ md yth (J bd) (J ro) yrow ymk yrm yst ypc ybu ybn mg sp jn ymd ybg ymm yup yun)) (w1 := (wM cI cZ md k (J bd) (J ro) yrow' ymk' yrm' yst' ypc' ybu ybn mg sp jn ymd ybg ymm yup' yun')) (ws := (wA cI cZ cJ ad md ao yth (J bd) (J ro) yrow ymk yrm yst ypc ybu ybn mg sp jn ymd ybg ymm yup yun zk' zm' zb zs' zr' zu' zt' zf zg (J bd) (J ro) zmc mg sp jn xo')) (ws' := (wA cI cZ cJ ad md ao k (J bd) (J ro) yrow' ymk' yrm' yst' ypc' ybu ybn mg sp jn ymd ybg ymm yup' yun' zk' zm' zb zs' zr' zu' zt' zf zg (J bd) (J ro) zmc mg sp jn xo')) (As := [.int (xs (Int32.toNatClampNeg (x4 + 1)))]) (rest := []) (ci := 3) (q := (RX3, TX3, 18)) ⟨hx, hb, hml, hown, htw⟩ (c_X3_append l dC dI cI cZ md yth (J bd) (J ro) yrow ymk yrm yst ypc ybu ybn mg sp jn ymd ybg ymm yup yun F (xs (Int32.toNatClampNeg (x4 + 1))) H.size v k yrow' ymk' yrm' yst' ypc' yup' yun' hm2) (cwV 1 htw gL_law_X3_append rfl rfl rfl kv_X3_append ⟨(Nat.le_of_ble_eq_true rfl), (Nat.le_of_ble_eq_true rfl)⟩) (hK.sub (tys' := [(cI, .int), (cZ, .boolean)]) [0, 1] rfl) hP hD hS hA (spM cI cZ cJ ad md ao yth (J bd) (J ro) yrow ymk yrm yst ypc ybu ybn mg sp jn ymd ybg ymm yup yun k (J bd) (J ro) yrow' ymk' yrm' yst' ypc' ybu ybn mg sp jn ymd ybg ymm yup' yun' zk' zm' zb zs' zr' zu' zt' zf zg (J bd) (J ro) zmc mg sp jn xo') ((paM cI cZ md k (J bd) (J ro) yrow' ymk' yrm' yst' ypc' ybu ybn mg sp jn ymd ybg ymm yup' yun').trans (paM cI cZ md yth (J bd) (J ro) yrow ymk yrm yst ypc ybu ybn mg sp jn ymd ybg ymm yup yun).symm) rfl rfl rfl rfl hl.1 rfl (Nat.le_of_ble_eq_true rfl) dL_law_188 ⟨(Nat.le_trans (show (cells + 2) + 0 ≤ cells + 3 by omega) hc), (Nat.le_trans (show (slots + 12) + 0 ≤ slots + 18 by omega) hs)⟩ (fun H locs hP hD hS => ?_)
  have hP : va_P (dC, dI) vwCl (wA cI cZ cJ ad md ao k (J bd) (J ro) yrow' ymk' yrm' yst' ypc' ybu ybn mg sp jn ymd ybg ymm yup' yun' zk' zm' zb zs' zr' zu' zt' zf zg (J bd) (J ro) zmc mg sp jn xo') H := hP
  have hD : va_D (fun q : Nat => s.heap.size ≤ q) (wA cI cZ cJ ad md ao k (J bd) (J ro) yrow' ymk' yrm' yst' ypc' ybu ybn mg sp jn ymd ybg ymm yup' yun' zk' zm' zb zs' zr' zu' zt' zf zg (J bd) (J ro) zmc mg sp jn xo') := hD
  refine lv_istore (lv' := [(6, .int v), (5, .int k), (0, .ref b), (1, .ref (ad 0)), (2, .ref (md 0)), (3, .ref ao), (4, .int x4)]) hx hb dL_law_191 hl (by decide) rfl (fun ls hl => ?_)
  refine lv_aload_n hx hb dL_law_193 rfl (lv_at hl 4 rfl) ?_
  refine z_callRi (As := []) (rest := []) (ci := 3) (q := (RX3, TX3, 18)) (wc := (wM cI cZ md k (J bd) (J ro) yrow' ymk' yrm' yst' ypc' ybu ybn mg sp jn ymd ybg ymm yup' yun')) ⟨hx, hb, hml, hown, htw⟩ (c_X3_thrown l dC dI cI cZ md k (J bd) (J ro) yrow' ymk' yrm' yst' ypc' ybu ybn mg sp jn ymd ybg ymm yup' yun' F k rfl) (cwV 0 htw gL_law_X3_thrown rfl rfl rfl kv_X3_thrown ⟨(Nat.le_of_ble_eq_true rfl), (Nat.le_of_ble_eq_true rfl)⟩) (hK.sub (tys' := [(cI, .int), (cZ, .boolean)]) [0, 1] rfl) (z_mid (spM cI cZ cJ ad md ao k (J bd) (J ro) yrow' ymk' yrm' yst' ypc' ybu ybn mg sp jn ymd ybg ymm yup' yun' k (J bd) (J ro) yrow' ymk' yrm' yst' ypc' ybu ybn mg sp jn ymd ybg ymm yup' yun' zk' zm' zb zs' zr' zu' zt' zf zg (J bd) (J ro) zmc mg sp jn xo') hP) rfl rfl rfl rfl hl.1 rfl (Nat.le_of_ble_eq_true rfl) dL_law_194 ⟨(Nat.le_trans (show (cells + 2) + 0 ≤ cells + 3 by omega) hc), (Nat.le_trans (show (slots + 12) + 0 ≤ slots + 18 by omega) hs)⟩ ?_
  refine lv_iload hx hb dL_law_197 (lv_at hl 1 rfl) ?_
  refine lv_icmp_eq (tgt := 204) hx hb dL_law_199 (by decide) (fun c_199 => ?_) (fun c_199 => absurd rfl c_199)
  refine lv_iload hx hb dL_law_204 (lv_at hl 1 rfl) ?_
  refine lv_if_ne (tgt := 221) hx hb dL_law_206 (by decide) (fun c_206 => ?_) (fun c_206 => ?_)
  · refine lv_goto (tgt := 1199) hx hb dL_law_221 (by decide) ?_
    refine W.widen (k := cells + 3) (n := slots + 18) (by omega) (by omega) ?_
    exact kk H locs ls ⟨K', M', B, S', bd, ro, zk', zm', zb, zs', zr', zu', zt', zf, zg, zmc, mg, sp, jn, xo', k, yrow', ymk', yrm', yst', ypc', ybu, ybn, ymd, ybg, ymm, yup', yun', hP, hD, hST2, hXS2, hYS2⟩ hS (lv_sub hl [2, 3, 4, 5, 6] rfl)
  refine lv_aload_n hx hb dL_law_209 rfl (lv_at hl 5 rfl) ?_
  refine lv_iconst (v := 0) hx hb dL_law_210 (by decide) ?_
  refine va_lald hx hb hK hP 25 2 rfl rfl zoN dL_law_211 ?_
  refine lv_iload hx hb dL_law_212 (lv_at hl 0 rfl) ?_
  refine lv_i2l hx hb dL_law_214 rfl ?_
  refine W.lcmp hx hb dL_law_215 ?_
  refine lv_if_eq (tgt := 221) hx hb dL_law_216 (by decide) (fun c_216 => ?_) (fun c_216 => absurd ((lg_cmp_eq _ _).mpr (h0 c_206)) c_216)
  refine lv_goto (tgt := 1199) hx hb dL_law_221 (by decide) ?_
  refine W.widen (k := cells + 3) (n := slots + 18) (by omega) (by omega) ?_
  exact kk H locs ls ⟨K', M', B, S', bd, ro, zk', zm', zb, zs', zr', zu', zt', zf, zg, zmc, mg, sp, jn, xo', k, yrow', ymk', yrm', yst', ypc', ybu, ybn, ymd, ybg, ymm, yup', yun', hP, hD, hST2, hXS2, hYS2⟩ hS (lv_sub hl [2, 3, 4, 5, 6] rfl)
set_option maxHeartbeats 4000000 in
set_option maxRecDepth 100000 in
theorem law_appendMany {p : Program} {l : Launch} {e : Env} {s : State} {m : MethodId} {below : List Frame} {meth : Method} {c : Code} {b L : Nat} {xs : Nat → Int32} (C0 : lw_At p s m meth c b L xs) (hl9 : l.stackTraces = false) {dC : Nat → ClassId} {dI : Nat → Nat → Nat} {cI cZ cJ : ClassId} {ad md : Nat → Nat} {ao : Nat} {sa : Nat → Nat} (hK : va_K (dC, dI) vwCl [(cI, .int), (cZ, .boolean), (cJ, .long)] s) (hV : zV sa (fun q : Nat => s.heap.size ≤ q) s s.heap) (hNc : va_Nc (xN 2) (xN 1) s) {x4 : Int32} (hi1 : vp_in (x4 + 1) L) (hi2 : vp_in (x4 + 2) L) (hi3 : vp_in (x4 + 3) L) {cells slots : Nat} (hc : cells + 3 ≤ room_1.cells) (hs : slots + 18 ≤ room_1.slots) {H : Heap} {locs : List Loc} {ls : Array Slot} (hI : zLS (dC, dI) cI cZ cJ ad md ao (fun q : Nat => s.heap.size ≤ q) H) (hS : va_S (fun q : Nat => s.heap.size ≤ q) s.heap H locs) (hl : lv_has ls 8 [(0, .ref b), (1, .ref (ad 0)), (2, .ref (md 0)), (3, .ref ao), (4, .int x4)]) (kk : ∀ (H : Heap) (locs : List Loc) (ls : Array Slot), zLS (dC, dI) cI cZ cJ ad md ao (fun q : Nat => s.heap.size ≤ q) H → va_S (fun q : Nat => s.heap.size ≤ q) s.heap H locs → lv_has ls 8 [(0, .ref b), (1, .ref (ad 0)), (2, .ref (md 0)), (3, .ref ao), (4, .int x4)] → W p l e room_1 s m #[Value.ref b] below meth c H locs (cells + 3) (slots + 18) (lw_Z below #[Value.ref b] s) (F0 m 1199 ls [])) : W p l e room_1 s m #[Value.ref b] below meth c H locs cells slots (lw_Z below #[Value.ref b] s) (F0 m 224 ls []) := by
  obtain ⟨hx, hb, hr, hml, hown, hts, hX, hbl, hlocks, hgv⟩ := C0
  have hown : s.vm.findClass RL = some m.cls := hown
  have htw : ∀ w ∈ wsL_law, w.before #[Value.ref b] s = true := fun w h => hts w (wsL_law_in w h)
  have hA : ∀ q : Nat, s.heap.size ≤ q → (fun q : Nat => s.heap.size ≤ q) q := fun _ h => h
  have hbA : ¬ (fun q : Nat => s.heap.size ≤ q) b := Nat.not_le.mpr hbl
  obtain ⟨K, M, B, S, bd, ro, zk, zm, zb, zs, zr, zu, zt, zf, zg, zmc, mg, sp, jn, xo, yth, yrow, ymk, yrm, yst, ypc, ybu, ybn, ymd, ybg, ymm, yup, yun, hP, hD, hST, hXS, hYS⟩ := hI
  obtain ⟨F, hF⟩ : ∃ F : Nat, 2000 ≤ F := ⟨2000, Nat.le_refl _⟩
  refine lv_aload_n hx hb dL_law_224 rfl (lv_at hl 1 rfl) ?_
  refine lv_aload_n hx hb dL_law_225 rfl (lv_at hl 0 rfl) ?_
  refine lv_iload hx hb dL_law_226 (lv_at hl 4 rfl) ?_
  refine lv_iconst (v := 1) hx hb dL_law_228 (by decide) ?_
  refine lv_iadd hx hb dL_law_229 ?_
  refine va_sld hx hb hX hbl hbA hS hi1 dL_law_230 ?_
  refine lv_aload_n hx hb dL_law_231 rfl (lv_at hl 0 rfl) ?_
  refine lv_iload hx hb dL_law_232 (lv_at hl 4 rfl) ?_
  refine lv_iconst (v := 2) hx hb dL_law_234 (by decide) ?_
  refine lv_iadd hx hb dL_law_235 ?_
  refine va_sld hx hb hX hbl hbA hS hi2 dL_law_236 ?_
  refine lv_aload_n hx hb dL_law_237 rfl (lv_at hl 0 rfl) ?_
  refine lv_iload hx hb dL_law_238 (lv_at hl 4 rfl) ?_
  refine lv_iconst (v := 3) hx hb dL_law_240 (by decide) ?_
  refine lv_iadd hx hb dL_law_241 ?_
  refine va_sld hx hb hX hbl hbA hS hi3 dL_law_242 ?_
  refine lv_aload_n hx hb dL_law_243 rfl (lv_at hl 3 rfl) ?_
  obtain ⟨k, v, K', M', S', zk', zm', zs', zr', zu', zt', xo', yrow', ymk', yrm', yst', ypc', yup', yun', hm1, hm2, h0, hST2, hXS2, hYS2⟩ := la_appendMany (F := F) (zf := zf) (zg := zg) (mg := mg) (sp := sp) (jn := jn) (ymm := ymm) hF yth ymd ybg yup yun xo hST hXS hYS (xs (Int32.toNatClampNeg (x4 + 1))) (xs (Int32.toNatClampNeg (x4 + 2))) (xs (Int32.toNatClampNeg (x4 + 3)))
  refine z_hSi (wc := (wB cI cJ ad ao zk zm zb zs zr zu zt zf zg (J bd) (J ro) zmc mg sp jn xo)) (w1 := (wB cI cJ ad ao zk' zm' zb zs' zr' zu' zt' zf zg (J bd) (J ro) zmc mg sp jn xo')) (ws := (wA cI cZ cJ ad md ao yth (J bd) (J ro) yrow ymk yrm yst ypc ybu ybn mg sp jn ymd ybg ymm yup yun zk zm zb zs zr zu zt zf zg (J bd) (J ro) zmc mg sp jn xo)) (ws' := (wA cI cZ cJ ad md ao yth (J bd) (J ro) yrow ymk yrm yst ypc ybu ybn mg sp jn ymd ybg ymm yup yun zk' zm' zb zs' zr' zu' zt' zf zg (J bd) (J ro) zmc mg sp jn xo')) (As := [.ref (ad 0), .int (xs (Int32.toNatClampNeg (x4 + 1))), .int (xs (Int32.toNatClampNeg (x4 + 2))), .int (xs (Int32.toNatClampNeg (x4 + 3))), .ref ao]) (rest := []) ⟨hx, hb, hml, hown, htw⟩ (c_L_appendMany l dC dI cI cJ ad ao zk zm zb zs zr zu zt zf zg (J bd) (J ro) zmc mg sp jn xo F (xs (Int32.toNatClampNeg (x4 + 1))) (xs (Int32.toNatClampNeg (x4 + 2))) (xs (Int32.toNatClampNeg (x4 + 3))) H.size sa hl9 k zk' zm' zs' zr' zu' zt' xo' hm1) (vx_cwSW 5 htw gL_law_L_appendMany rfl rfl rfl (by decide +kernel) ⟨(Nat.le_of_ble_eq_true rfl), (Nat.le_of_ble_eq_true rfl)⟩) hV hNc (hK.sub (tys' := [(cI, .int), (cJ, .long)]) [0, 2] rfl) hP hD hS hA (spB cI cZ cJ ad md ao yth (J bd) (J ro) yrow ymk yrm yst ypc ybu ybn mg sp jn ymd ybg ymm yup yun zk zm zb zs zr zu zt zf zg (J bd) (J ro) zmc mg sp jn zk' zm' zb zs' zr' zu' zt' zf zg (J bd) (J ro) zmc mg sp jn xo xo') ((paB cI cJ ad ao zk' zm' zb zs' zr' zu' zt' zf zg (J bd) (J ro) zmc mg sp jn xo').trans (paB cI cJ ad ao zk zm zb zs zr zu zt zf zg (J bd) (J ro) zmc mg sp jn xo).symm) rfl hl.1 rfl (Nat.le_of_ble_eq_true rfl) dL_law_244 ⟨(Nat.le_trans (show cells + 3 ≤ cells + 3 by omega) hc), (Nat.le_trans (show slots + 18 ≤ slots + 18 by omega) hs)⟩ (fun H locs hP hD hS => ?_)
  have hP : va_P (dC, dI) vwCl (wA cI cZ cJ ad md ao yth (J bd) (J ro) yrow ymk yrm yst ypc ybu ybn mg sp jn ymd ybg ymm yup yun zk' zm' zb zs' zr' zu' zt' zf zg (J bd) (J ro) zmc mg sp jn xo') H := hP
  have hD : va_D (fun q : Nat => s.heap.size ≤ q) (wA cI cZ cJ ad md ao yth (J bd) (J ro) yrow ymk yrm yst ypc ybu ybn mg sp jn ymd ybg ymm yup yun zk' zm' zb zs' zr' zu' zt' zf zg (J bd) (J ro) zmc mg sp jn xo') := hD
  refine lv_istore (lv' := [(5, .int k), (0, .ref b), (1, .ref (ad 0)), (2, .ref (md 0)), (3, .ref ao), (4, .int x4)]) hx hb dL_law_247 hl (by decide) rfl (fun ls hl => ?_)
  refine lv_aload_n hx hb dL_law_249 rfl (lv_at hl 3 rfl) ?_
  refine lv_aload_n hx hb dL_law_250 rfl (lv_at hl 1 rfl) ?_
  refine lv_iload hx hb dL_law_251 (lv_at hl 5 rfl) ?_
  refine lv_iconst (v := 1) hx hb dL_law_253 (by decide) ?_
  refine lv_iadd hx hb dL_law_254 ?_
  refine va_sld hx hb hX hbl hbA hS hi1 dL_law_255 ?_
  refine lv_aload_n hx hb dL_law_256 rfl (lv_at hl 1 rfl) ?_
  refine lv_iload hx hb dL_law_257 (lv_at hl 5 rfl) ?_
  refine lv_iconst (v := 2) hx hb dL_law_259 (by decide) ?_
  refine lv_iadd hx hb dL_law_260 ?_
  refine va_sld hx hb hX hbl hbA hS hi2 dL_law_261 ?_
  refine lv_aload_n hx hb dL_law_262 rfl (lv_at hl 1 rfl) ?_
  refine lv_iload hx hb dL_law_263 (lv_at hl 5 rfl) ?_
  refine lv_iconst (v := 3) hx hb dL_law_265 (by decide) ?_
  refine lv_iadd hx hb dL_law_266 ?_
  refine va_sld hx hb hX hbl hbA hS hi3 dL_law_267 ?_
  refine z_callWi (wc := (wM cI cZ md yth (J bd) (J ro) yrow ymk yrm yst ypc ybu ybn mg sp jn ymd ybg ymm yup yun)) (w1 := (wM cI cZ md k (J bd) (J ro) yrow' ymk' yrm' yst' ypc' ybu ybn mg sp jn ymd ybg ymm yup' yun')) (ws := (wA cI cZ cJ ad md ao yth (J bd) (J ro) yrow ymk yrm yst ypc ybu ybn mg sp jn ymd ybg ymm yup yun zk' zm' zb zs' zr' zu' zt' zf zg (J bd) (J ro) zmc mg sp jn xo')) (ws' := (wA cI cZ cJ ad md ao k (J bd) (J ro) yrow' ymk' yrm' yst' ypc' ybu ybn mg sp jn ymd ybg ymm yup' yun' zk' zm' zb zs' zr' zu' zt' zf zg (J bd) (J ro) zmc mg sp jn xo')) (As := [.int (xs (Int32.toNatClampNeg (x4 + 1))), .int (xs (Int32.toNatClampNeg (x4 + 2))), .int (xs (Int32.toNatClampNeg (x4 + 3)))]) (rest := []) (ci := 3) (q := (RX3, TX3, 18)) ⟨hx, hb, hml, hown, htw⟩ (c_X3_appendMany l dC dI cI cZ md yth (J bd) (J ro) yrow ymk yrm yst ypc ybu ybn mg sp jn ymd ybg ymm yup yun F (xs (Int32.toNatClampNeg (x4 + 1))) (xs (Int32.toNatClampNeg (x4 + 2))) (xs (Int32.toNatClampNeg (x4 + 3))) H.size v k yrow' ymk' yrm' yst' ypc' yup' yun' hm2) (cwV 3 htw gL_law_X3_appendMany rfl rfl rfl kv_X3_appendMany ⟨(Nat.le_of_ble_eq_true rfl), (Nat.le_of_ble_eq_true rfl)⟩) (hK.sub (tys' := [(cI, .int), (cZ, .boolean)]) [0, 1] rfl) hP hD hS hA (spM cI cZ cJ ad md ao yth (J bd) (J ro) yrow ymk yrm yst ypc ybu ybn mg sp jn ymd ybg ymm yup yun k (J bd) (J ro) yrow' ymk' yrm' yst' ypc' ybu ybn mg sp jn ymd ybg ymm yup' yun' zk' zm' zb zs' zr' zu' zt' zf zg (J bd) (J ro) zmc mg sp jn xo') ((paM cI cZ md k (J bd) (J ro) yrow' ymk' yrm' yst' ypc' ybu ybn mg sp jn ymd ybg ymm yup' yun').trans (paM cI cZ md yth (J bd) (J ro) yrow ymk yrm yst ypc ybu ybn mg sp jn ymd ybg ymm yup yun).symm) rfl rfl rfl rfl hl.1 rfl (Nat.le_of_ble_eq_true rfl) dL_law_268 ⟨(Nat.le_trans (show (cells + 3) + 0 ≤ cells + 3 by omega) hc), (Nat.le_trans (show (slots + 18) + 0 ≤ slots + 18 by omega) hs)⟩ (fun H locs hP hD hS => ?_)
  have hP : va_P (dC, dI) vwCl (wA cI cZ cJ ad md ao k (J bd) (J ro) yrow' ymk' yrm' yst' ypc' ybu ybn mg sp jn ymd ybg ymm yup' yun' zk' zm' zb zs' zr' zu' zt' zf zg (J bd) (J ro) zmc mg sp jn xo') H := hP
  have hD : va_D (fun q : Nat => s.heap.size ≤ q) (wA cI cZ cJ ad md ao k (J bd) (J ro) yrow' ymk' yrm' yst' ypc' ybu ybn mg sp jn ymd ybg ymm yup' yun' zk' zm' zb zs' zr' zu' zt' zf zg (J bd) (J ro) zmc mg sp jn xo') := hD
  refine lv_istore (lv' := [(6, .int v), (5, .int k), (0, .ref b), (1, .ref (ad 0)), (2, .ref (md 0)), (3, .ref ao), (4, .int x4)]) hx hb dL_law_271 hl (by decide) rfl (fun ls hl => ?_)
  refine lv_aload_n hx hb dL_law_273 rfl (lv_at hl 4 rfl) ?_
  refine z_callRi (As := []) (rest := []) (ci := 3) (q := (RX3, TX3, 18)) (wc := (wM cI cZ md k (J bd) (J ro) yrow' ymk' yrm' yst' ypc' ybu ybn mg sp jn ymd ybg ymm yup' yun')) ⟨hx, hb, hml, hown, htw⟩ (c_X3_thrown l dC dI cI cZ md k (J bd) (J ro) yrow' ymk' yrm' yst' ypc' ybu ybn mg sp jn ymd ybg ymm yup' yun' F k rfl) (cwV 0 htw gL_law_X3_thrown rfl rfl rfl kv_X3_thrown ⟨(Nat.le_of_ble_eq_true rfl), (Nat.le_of_ble_eq_true rfl)⟩) (hK.sub (tys' := [(cI, .int), (cZ, .boolean)]) [0, 1] rfl) (z_mid (spM cI cZ cJ ad md ao k (J bd) (J ro) yrow' ymk' yrm' yst' ypc' ybu ybn mg sp jn ymd ybg ymm yup' yun' k (J bd) (J ro) yrow' ymk' yrm' yst' ypc' ybu ybn mg sp jn ymd ybg ymm yup' yun' zk' zm' zb zs' zr' zu' zt' zf zg (J bd) (J ro) zmc mg sp jn xo') hP) rfl rfl rfl rfl hl.1 rfl (Nat.le_of_ble_eq_true rfl) dL_law_274 ⟨(Nat.le_trans (show (cells + 3) + 0 ≤ cells + 3 by omega) hc), (Nat.le_trans (show (slots + 18) + 0 ≤ slots + 18 by omega) hs)⟩ ?_
  refine lv_iload hx hb dL_law_277 (lv_at hl 1 rfl) ?_
  refine lv_icmp_eq (tgt := 284) hx hb dL_law_279 (by decide) (fun c_279 => ?_) (fun c_279 => absurd rfl c_279)
  refine lv_iload hx hb dL_law_284 (lv_at hl 1 rfl) ?_
  refine lv_if_ne (tgt := 301) hx hb dL_law_286 (by decide) (fun c_286 => ?_) (fun c_286 => ?_)
  · refine lv_goto (tgt := 1199) hx hb dL_law_301 (by decide) ?_
    refine W.widen (k := cells + 3) (n := slots + 18) (by omega) (by omega) ?_
    exact kk H locs ls ⟨K', M', B, S', bd, ro, zk', zm', zb, zs', zr', zu', zt', zf, zg, zmc, mg, sp, jn, xo', k, yrow', ymk', yrm', yst', ypc', ybu, ybn, ymd, ybg, ymm, yup', yun', hP, hD, hST2, hXS2, hYS2⟩ hS (lv_sub hl [2, 3, 4, 5, 6] rfl)
  refine lv_aload_n hx hb dL_law_289 rfl (lv_at hl 5 rfl) ?_
  refine lv_iconst (v := 0) hx hb dL_law_290 (by decide) ?_
  refine va_lald hx hb hK hP 25 2 rfl rfl zoN dL_law_291 ?_
  refine lv_iload hx hb dL_law_292 (lv_at hl 0 rfl) ?_
  refine lv_i2l hx hb dL_law_294 rfl ?_
  refine W.lcmp hx hb dL_law_295 ?_
  refine lv_if_eq (tgt := 301) hx hb dL_law_296 (by decide) (fun c_296 => ?_) (fun c_296 => absurd ((lg_cmp_eq _ _).mpr (h0 c_286)) c_296)
  refine lv_goto (tgt := 1199) hx hb dL_law_301 (by decide) ?_
  refine W.widen (k := cells + 3) (n := slots + 18) (by omega) (by omega) ?_
  exact kk H locs ls ⟨K', M', B, S', bd, ro, zk', zm', zb, zs', zr', zu', zt', zf, zg, zmc, mg, sp, jn, xo', k, yrow', ymk', yrm', yst', ypc', ybu, ybn, ymd, ybg, ymm, yup', yun', hP, hD, hST2, hXS2, hYS2⟩ hS (lv_sub hl [2, 3, 4, 5, 6] rfl)
set_option maxHeartbeats 4000000 in
set_option maxRecDepth 100000 in
theorem law_insert {p : Program} {l : Launch} {e : Env} {s : State} {m : MethodId} {below : List Frame} {meth : Method} {c : Code} {b L : Nat} {xs : Nat → Int32} (C0 : lw_At p s m meth c b L xs) (hl9 : l.stackTraces = false) {dC : Nat → ClassId} {dI : Nat → Nat → Nat} {cI cZ cJ : ClassId} {ad md : Nat → Nat} {ao : Nat} {sa : Nat → Nat} (hK : va_K (dC, dI) vwCl [(cI, .int), (cZ, .boolean), (cJ, .long)] s) (hV : zV sa (fun q : Nat => s.heap.size ≤ q) s s.heap) (hNc : va_Nc (xN 2) (xN 1) s) {x4 : Int32} (hi1 : vp_in (x4 + 1) L) (hi2 : vp_in (x4 + 2) L) (hi3 : vp_in (x4 + 3) L) {cells slots : Nat} (hc : cells + 3 ≤ room_1.cells) (hs : slots + 18 ≤ room_1.slots) {H : Heap} {locs : List Loc} {ls : Array Slot} (hI : zLS (dC, dI) cI cZ cJ ad md ao (fun q : Nat => s.heap.size ≤ q) H) (hS : va_S (fun q : Nat => s.heap.size ≤ q) s.heap H locs) (hl : lv_has ls 8 [(0, .ref b), (1, .ref (ad 0)), (2, .ref (md 0)), (3, .ref ao), (4, .int x4)]) (kk : ∀ (H : Heap) (locs : List Loc) (ls : Array Slot), zLS (dC, dI) cI cZ cJ ad md ao (fun q : Nat => s.heap.size ≤ q) H → va_S (fun q : Nat => s.heap.size ≤ q) s.heap H locs → lv_has ls 8 [(0, .ref b), (1, .ref (ad 0)), (2, .ref (md 0)), (3, .ref ao), (4, .int x4)] → W p l e room_1 s m #[Value.ref b] below meth c H locs (cells + 3) (slots + 18) (lw_Z below #[Value.ref b] s) (F0 m 1199 ls [])) : W p l e room_1 s m #[Value.ref b] below meth c H locs cells slots (lw_Z below #[Value.ref b] s) (F0 m 304 ls []) := by
  obtain ⟨hx, hb, hr, hml, hown, hts, hX, hbl, hlocks, hgv⟩ := C0
  have hown : s.vm.findClass RL = some m.cls := hown
  have htw : ∀ w ∈ wsL_law, w.before #[Value.ref b] s = true := fun w h => hts w (wsL_law_in w h)
  have hA : ∀ q : Nat, s.heap.size ≤ q → (fun q : Nat => s.heap.size ≤ q) q := fun _ h => h
  have hbA : ¬ (fun q : Nat => s.heap.size ≤ q) b := Nat.not_le.mpr hbl
  obtain ⟨K, M, B, S, bd, ro, zk, zm, zb, zs, zr, zu, zt, zf, zg, zmc, mg, sp, jn, xo, yth, yrow, ymk, yrm, yst, ypc, ybu, ybn, ymd, ybg, ymm, yup, yun, hP, hD, hST, hXS, hYS⟩ := hI
  obtain ⟨F, hF⟩ : ∃ F : Nat, 2000 ≤ F := ⟨2000, Nat.le_refl _⟩
  refine lv_aload_n hx hb dL_law_304 rfl (lv_at hl 1 rfl) ?_
  refine lv_aload_n hx hb dL_law_305 rfl (lv_at hl 0 rfl) ?_
  refine lv_iload hx hb dL_law_306 (lv_at hl 4 rfl) ?_
  refine lv_iconst (v := 1) hx hb dL_law_308 (by decide) ?_
  refine lv_iadd hx hb dL_law_309 ?_
  refine va_sld hx hb hX hbl hbA hS hi1 dL_law_310 ?_
  refine lv_aload_n hx hb dL_law_311 rfl (lv_at hl 3 rfl) ?_
  obtain ⟨k, v, K', M', B', S', zk', zm', zb', zs', zr', zu', zt', zf', zg', zmc', mg', sp', jn', xo', yrow', ymk', yrm', yst', ypc', ybu', ybn', ymd', ybg', ymm', yup', yun', hm1, hm2, h0, hST2, hXS2, hYS2⟩ := la_insert (F := F) (zf := zf) (zg := zg) (mg := mg) (sp := sp) (jn := jn) (ymm := ymm) hF yth ymd ybg yup yun xo hST hXS hYS (xs (Int32.toNatClampNeg (x4 + 1)))
  refine z_hSi (wc := (wB cI cJ ad ao zk zm zb zs zr zu zt zf zg (J bd) (J ro) zmc mg sp jn xo)) (w1 := (wB cI cJ ad ao zk' zm' zb' zs' zr' zu' zt' zf' zg' (J bd) (J ro) zmc' mg' sp' jn' xo')) (ws := (wA cI cZ cJ ad md ao yth (J bd) (J ro) yrow ymk yrm yst ypc ybu ybn mg sp jn ymd ybg ymm yup yun zk zm zb zs zr zu zt zf zg (J bd) (J ro) zmc mg sp jn xo)) (ws' := (wA cI cZ cJ ad md ao yth (J bd) (J ro) yrow ymk yrm yst ypc ybu ybn mg sp jn ymd ybg ymm yup yun zk' zm' zb' zs' zr' zu' zt' zf' zg' (J bd) (J ro) zmc' mg' sp' jn' xo')) (As := [.ref (ad 0), .int (xs (Int32.toNatClampNeg (x4 + 1))), .ref ao]) (rest := []) ⟨hx, hb, hml, hown, htw⟩ (c_L_insert l dC dI cI cJ ad ao zk zm zb zs zr zu zt zf zg (J bd) (J ro) zmc mg sp jn xo F (xs (Int32.toNatClampNeg (x4 + 1))) H.size sa hl9 k zk' zm' zb' zs' zr' zu' zt' zf' zg' zmc' mg' sp' jn' xo' hm1) (vx_cwSW 3 htw gL_law_L_insert rfl rfl rfl (by decide +kernel) ⟨(Nat.le_of_ble_eq_true rfl), (Nat.le_of_ble_eq_true rfl)⟩) hV hNc (hK.sub (tys' := [(cI, .int), (cJ, .long)]) [0, 2] rfl) hP hD hS hA (spB cI cZ cJ ad md ao yth (J bd) (J ro) yrow ymk yrm yst ypc ybu ybn mg sp jn ymd ybg ymm yup yun zk zm zb zs zr zu zt zf zg (J bd) (J ro) zmc mg sp jn zk' zm' zb' zs' zr' zu' zt' zf' zg' (J bd) (J ro) zmc' mg' sp' jn' xo xo') ((paB cI cJ ad ao zk' zm' zb' zs' zr' zu' zt' zf' zg' (J bd) (J ro) zmc' mg' sp' jn' xo').trans (paB cI cJ ad ao zk zm zb zs zr zu zt zf zg (J bd) (J ro) zmc mg sp jn xo).symm) rfl hl.1 rfl (Nat.le_of_ble_eq_true rfl) dL_law_312 ⟨(Nat.le_trans (show cells + 2 ≤ cells + 3 by omega) hc), (Nat.le_trans (show slots + 12 ≤ slots + 18 by omega) hs)⟩ (fun H locs hP hD hS => ?_)
  have hP : va_P (dC, dI) vwCl (wA cI cZ cJ ad md ao yth (J bd) (J ro) yrow ymk yrm yst ypc ybu ybn mg sp jn ymd ybg ymm yup yun zk' zm' zb' zs' zr' zu' zt' zf' zg' (J bd) (J ro) zmc' mg' sp' jn' xo') H := hP
  have hD : va_D (fun q : Nat => s.heap.size ≤ q) (wA cI cZ cJ ad md ao yth (J bd) (J ro) yrow ymk yrm yst ypc ybu ybn mg sp jn ymd ybg ymm yup yun zk' zm' zb' zs' zr' zu' zt' zf' zg' (J bd) (J ro) zmc' mg' sp' jn' xo') := hD
  refine lv_istore (lv' := [(5, .int k), (0, .ref b), (1, .ref (ad 0)), (2, .ref (md 0)), (3, .ref ao), (4, .int x4)]) hx hb dL_law_315 hl (by decide) rfl (fun ls hl => ?_)
  refine lv_aload_n hx hb dL_law_317 rfl (lv_at hl 3 rfl) ?_
  refine lv_aload_n hx hb dL_law_318 rfl (lv_at hl 1 rfl) ?_
  refine lv_iload hx hb dL_law_319 (lv_at hl 5 rfl) ?_
  refine lv_iconst (v := 1) hx hb dL_law_321 (by decide) ?_
  refine lv_iadd hx hb dL_law_322 ?_
  refine va_sld hx hb hX hbl hbA hS hi1 dL_law_323 ?_
  refine z_callWi (wc := (wM cI cZ md yth (J bd) (J ro) yrow ymk yrm yst ypc ybu ybn mg sp jn ymd ybg ymm yup yun)) (w1 := (wM cI cZ md k (J bd) (J ro) yrow' ymk' yrm' yst' ypc' ybu' ybn' mg' sp' jn' ymd' ybg' ymm' yup' yun')) (ws := (wA cI cZ cJ ad md ao yth (J bd) (J ro) yrow ymk yrm yst ypc ybu ybn mg sp jn ymd ybg ymm yup yun zk' zm' zb' zs' zr' zu' zt' zf' zg' (J bd) (J ro) zmc' mg' sp' jn' xo')) (ws' := (wA cI cZ cJ ad md ao k (J bd) (J ro) yrow' ymk' yrm' yst' ypc' ybu' ybn' mg' sp' jn' ymd' ybg' ymm' yup' yun' zk' zm' zb' zs' zr' zu' zt' zf' zg' (J bd) (J ro) zmc' mg' sp' jn' xo')) (As := [.int (xs (Int32.toNatClampNeg (x4 + 1)))]) (rest := []) (ci := 3) (q := (RX3, TX3, 18)) ⟨hx, hb, hml, hown, htw⟩ (c_X3_insert l dC dI cI cZ md yth (J bd) (J ro) yrow ymk yrm yst ypc ybu ybn mg sp jn ymd ybg ymm yup yun F (xs (Int32.toNatClampNeg (x4 + 1))) H.size v k yrow' ymk' yrm' yst' ypc' ybu' ybn' mg' sp' jn' ymd' ybg' ymm' yup' yun' hm2) (cwV 1 htw gL_law_X3_insert rfl rfl rfl kv_X3_insert ⟨(Nat.le_of_ble_eq_true rfl), (Nat.le_of_ble_eq_true rfl)⟩) (hK.sub (tys' := [(cI, .int), (cZ, .boolean)]) [0, 1] rfl) hP hD hS hA (spM cI cZ cJ ad md ao yth (J bd) (J ro) yrow ymk yrm yst ypc ybu ybn mg sp jn ymd ybg ymm yup yun k (J bd) (J ro) yrow' ymk' yrm' yst' ypc' ybu' ybn' mg' sp' jn' ymd' ybg' ymm' yup' yun' zk' zm' zb' zs' zr' zu' zt' zf' zg' (J bd) (J ro) zmc' mg' sp' jn' xo') ((paM cI cZ md k (J bd) (J ro) yrow' ymk' yrm' yst' ypc' ybu' ybn' mg' sp' jn' ymd' ybg' ymm' yup' yun').trans (paM cI cZ md yth (J bd) (J ro) yrow ymk yrm yst ypc ybu ybn mg sp jn ymd ybg ymm yup yun).symm) rfl rfl rfl rfl hl.1 rfl (Nat.le_of_ble_eq_true rfl) dL_law_324 ⟨(Nat.le_trans (show (cells + 2) + 0 ≤ cells + 3 by omega) hc), (Nat.le_trans (show (slots + 12) + 0 ≤ slots + 18 by omega) hs)⟩ (fun H locs hP hD hS => ?_)
  have hP : va_P (dC, dI) vwCl (wA cI cZ cJ ad md ao k (J bd) (J ro) yrow' ymk' yrm' yst' ypc' ybu' ybn' mg' sp' jn' ymd' ybg' ymm' yup' yun' zk' zm' zb' zs' zr' zu' zt' zf' zg' (J bd) (J ro) zmc' mg' sp' jn' xo') H := hP
  have hD : va_D (fun q : Nat => s.heap.size ≤ q) (wA cI cZ cJ ad md ao k (J bd) (J ro) yrow' ymk' yrm' yst' ypc' ybu' ybn' mg' sp' jn' ymd' ybg' ymm' yup' yun' zk' zm' zb' zs' zr' zu' zt' zf' zg' (J bd) (J ro) zmc' mg' sp' jn' xo') := hD
  refine lv_istore (lv' := [(6, .int v), (5, .int k), (0, .ref b), (1, .ref (ad 0)), (2, .ref (md 0)), (3, .ref ao), (4, .int x4)]) hx hb dL_law_327 hl (by decide) rfl (fun ls hl => ?_)
  refine lv_aload_n hx hb dL_law_329 rfl (lv_at hl 4 rfl) ?_
  refine z_callRi (As := []) (rest := []) (ci := 3) (q := (RX3, TX3, 18)) (wc := (wM cI cZ md k (J bd) (J ro) yrow' ymk' yrm' yst' ypc' ybu' ybn' mg' sp' jn' ymd' ybg' ymm' yup' yun')) ⟨hx, hb, hml, hown, htw⟩ (c_X3_thrown l dC dI cI cZ md k (J bd) (J ro) yrow' ymk' yrm' yst' ypc' ybu' ybn' mg' sp' jn' ymd' ybg' ymm' yup' yun' F k rfl) (cwV 0 htw gL_law_X3_thrown rfl rfl rfl kv_X3_thrown ⟨(Nat.le_of_ble_eq_true rfl), (Nat.le_of_ble_eq_true rfl)⟩) (hK.sub (tys' := [(cI, .int), (cZ, .boolean)]) [0, 1] rfl) (z_mid (spM cI cZ cJ ad md ao k (J bd) (J ro) yrow' ymk' yrm' yst' ypc' ybu' ybn' mg' sp' jn' ymd' ybg' ymm' yup' yun' k (J bd) (J ro) yrow' ymk' yrm' yst' ypc' ybu' ybn' mg' sp' jn' ymd' ybg' ymm' yup' yun' zk' zm' zb' zs' zr' zu' zt' zf' zg' (J bd) (J ro) zmc' mg' sp' jn' xo') hP) rfl rfl rfl rfl hl.1 rfl (Nat.le_of_ble_eq_true rfl) dL_law_330 ⟨(Nat.le_trans (show (cells + 2) + 0 ≤ cells + 3 by omega) hc), (Nat.le_trans (show (slots + 12) + 0 ≤ slots + 18 by omega) hs)⟩ ?_
  refine lv_iload hx hb dL_law_333 (lv_at hl 1 rfl) ?_
  refine lv_icmp_eq (tgt := 340) hx hb dL_law_335 (by decide) (fun c_335 => ?_) (fun c_335 => absurd rfl c_335)
  refine lv_iload hx hb dL_law_340 (lv_at hl 1 rfl) ?_
  refine lv_if_ne (tgt := 357) hx hb dL_law_342 (by decide) (fun c_342 => ?_) (fun c_342 => ?_)
  · refine lv_goto (tgt := 1199) hx hb dL_law_357 (by decide) ?_
    refine W.widen (k := cells + 3) (n := slots + 18) (by omega) (by omega) ?_
    exact kk H locs ls ⟨K', M', B', S', bd, ro, zk', zm', zb', zs', zr', zu', zt', zf', zg', zmc', mg', sp', jn', xo', k, yrow', ymk', yrm', yst', ypc', ybu', ybn', ymd', ybg', ymm', yup', yun', hP, hD, hST2, hXS2, hYS2⟩ hS (lv_sub hl [2, 3, 4, 5, 6] rfl)
  refine lv_aload_n hx hb dL_law_345 rfl (lv_at hl 5 rfl) ?_
  refine lv_iconst (v := 0) hx hb dL_law_346 (by decide) ?_
  refine va_lald hx hb hK hP 25 2 rfl rfl zoN dL_law_347 ?_
  refine lv_iload hx hb dL_law_348 (lv_at hl 0 rfl) ?_
  refine lv_i2l hx hb dL_law_350 rfl ?_
  refine W.lcmp hx hb dL_law_351 ?_
  refine lv_if_eq (tgt := 357) hx hb dL_law_352 (by decide) (fun c_352 => ?_) (fun c_352 => absurd ((lg_cmp_eq _ _).mpr (h0 c_342)) c_352)
  refine lv_goto (tgt := 1199) hx hb dL_law_357 (by decide) ?_
  refine W.widen (k := cells + 3) (n := slots + 18) (by omega) (by omega) ?_
  exact kk H locs ls ⟨K', M', B', S', bd, ro, zk', zm', zb', zs', zr', zu', zt', zf', zg', zmc', mg', sp', jn', xo', k, yrow', ymk', yrm', yst', ypc', ybu', ybn', ymd', ybg', ymm', yup', yun', hP, hD, hST2, hXS2, hYS2⟩ hS (lv_sub hl [2, 3, 4, 5, 6] rfl)
set_option maxHeartbeats 4000000 in
set_option maxRecDepth 100000 in
theorem law_remove {p : Program} {l : Launch} {e : Env} {s : State} {m : MethodId} {below : List Frame} {meth : Method} {c : Code} {b L : Nat} {xs : Nat → Int32} (C0 : lw_At p s m meth c b L xs) (hl9 : l.stackTraces = false) {dC : Nat → ClassId} {dI : Nat → Nat → Nat} {cI cZ cJ : ClassId} {ad md : Nat → Nat} {ao : Nat} {sa : Nat → Nat} (hK : va_K (dC, dI) vwCl [(cI, .int), (cZ, .boolean), (cJ, .long)] s) (hV : zV sa (fun q : Nat => s.heap.size ≤ q) s s.heap) (hNc : va_Nc (xN 2) (xN 1) s) {x4 : Int32} (hi1 : vp_in (x4 + 1) L) (hi2 : vp_in (x4 + 2) L) (hi3 : vp_in (x4 + 3) L) {cells slots : Nat} (hc : cells + 3 ≤ room_1.cells) (hs : slots + 18 ≤ room_1.slots) {H : Heap} {locs : List Loc} {ls : Array Slot} (hI : zLS (dC, dI) cI cZ cJ ad md ao (fun q : Nat => s.heap.size ≤ q) H) (hS : va_S (fun q : Nat => s.heap.size ≤ q) s.heap H locs) (hl : lv_has ls 8 [(0, .ref b), (1, .ref (ad 0)), (2, .ref (md 0)), (3, .ref ao), (4, .int x4)]) (kk : ∀ (H : Heap) (locs : List Loc) (ls : Array Slot), zLS (dC, dI) cI cZ cJ ad md ao (fun q : Nat => s.heap.size ≤ q) H → va_S (fun q : Nat => s.heap.size ≤ q) s.heap H locs → lv_has ls 8 [(0, .ref b), (1, .ref (ad 0)), (2, .ref (md 0)), (3, .ref ao), (4, .int x4)] → W p l e room_1 s m #[Value.ref b] below meth c H locs (cells + 3) (slots + 18) (lw_Z below #[Value.ref b] s) (F0 m 1199 ls [])) : W p l e room_1 s m #[Value.ref b] below meth c H locs cells slots (lw_Z below #[Value.ref b] s) (F0 m 360 ls []) := by
  obtain ⟨hx, hb, hr, hml, hown, hts, hX, hbl, hlocks, hgv⟩ := C0
  have hown : s.vm.findClass RL = some m.cls := hown
  have htw : ∀ w ∈ wsL_law, w.before #[Value.ref b] s = true := fun w h => hts w (wsL_law_in w h)
  have hA : ∀ q : Nat, s.heap.size ≤ q → (fun q : Nat => s.heap.size ≤ q) q := fun _ h => h
  have hbA : ¬ (fun q : Nat => s.heap.size ≤ q) b := Nat.not_le.mpr hbl
  obtain ⟨K, M, B, S, bd, ro, zk, zm, zb, zs, zr, zu, zt, zf, zg, zmc, mg, sp, jn, xo, yth, yrow, ymk, yrm, yst, ypc, ybu, ybn, ymd, ybg, ymm, yup, yun, hP, hD, hST, hXS, hYS⟩ := hI
  obtain ⟨F, hF⟩ : ∃ F : Nat, 2000 ≤ F := ⟨2000, Nat.le_refl _⟩
  refine lv_aload_n hx hb dL_law_360 rfl (lv_at hl 1 rfl) ?_
  refine lv_aload_n hx hb dL_law_361 rfl (lv_at hl 0 rfl) ?_
  refine lv_iload hx hb dL_law_362 (lv_at hl 4 rfl) ?_
  refine lv_iconst (v := 1) hx hb dL_law_364 (by decide) ?_
  refine lv_iadd hx hb dL_law_365 ?_
  refine va_sld hx hb hX hbl hbA hS hi1 dL_law_366 ?_
  refine lv_aload_n hx hb dL_law_367 rfl (lv_at hl 3 rfl) ?_
  obtain ⟨k, v, M', B', zm', zb', zmc', xo', ymk', ybu', ybn', hm1, hm2, h0, hST2, hXS2, hYS2⟩ := la_remove (F := F) (zf := zf) (zg := zg) (mg := mg) (sp := sp) (jn := jn) (ymm := ymm) hF yth ymd ybg yup yun xo hST hXS hYS (xs (Int32.toNatClampNeg (x4 + 1)))
  refine z_hSi (wc := (wB cI cJ ad ao zk zm zb zs zr zu zt zf zg (J bd) (J ro) zmc mg sp jn xo)) (w1 := (wB cI cJ ad ao zk zm' zb' zs zr zu zt zf zg (J bd) (J ro) zmc' mg sp jn xo')) (ws := (wA cI cZ cJ ad md ao yth (J bd) (J ro) yrow ymk yrm yst ypc ybu ybn mg sp jn ymd ybg ymm yup yun zk zm zb zs zr zu zt zf zg (J bd) (J ro) zmc mg sp jn xo)) (ws' := (wA cI cZ cJ ad md ao yth (J bd) (J ro) yrow ymk yrm yst ypc ybu ybn mg sp jn ymd ybg ymm yup yun zk zm' zb' zs zr zu zt zf zg (J bd) (J ro) zmc' mg sp jn xo')) (As := [.ref (ad 0), .int (xs (Int32.toNatClampNeg (x4 + 1))), .ref ao]) (rest := []) ⟨hx, hb, hml, hown, htw⟩ (c_L_remove l dC dI cI cJ ad ao zk zm zb zs zr zu zt zf zg (J bd) (J ro) zmc mg sp jn xo F (xs (Int32.toNatClampNeg (x4 + 1))) H.size sa hl9 k zm' zb' zmc' xo' hm1) (vx_cwSW 3 htw gL_law_L_remove rfl rfl rfl (by decide +kernel) ⟨(Nat.le_of_ble_eq_true rfl), (Nat.le_of_ble_eq_true rfl)⟩) hV hNc (hK.sub (tys' := [(cI, .int), (cJ, .long)]) [0, 2] rfl) hP hD hS hA (spB cI cZ cJ ad md ao yth (J bd) (J ro) yrow ymk yrm yst ypc ybu ybn mg sp jn ymd ybg ymm yup yun zk zm zb zs zr zu zt zf zg (J bd) (J ro) zmc mg sp jn zk zm' zb' zs zr zu zt zf zg (J bd) (J ro) zmc' mg sp jn xo xo') ((paB cI cJ ad ao zk zm' zb' zs zr zu zt zf zg (J bd) (J ro) zmc' mg sp jn xo').trans (paB cI cJ ad ao zk zm zb zs zr zu zt zf zg (J bd) (J ro) zmc mg sp jn xo).symm) rfl hl.1 rfl (Nat.le_of_ble_eq_true rfl) dL_law_368 ⟨(Nat.le_trans (show cells + 1 ≤ cells + 3 by omega) hc), (Nat.le_trans (show slots + 6 ≤ slots + 18 by omega) hs)⟩ (fun H locs hP hD hS => ?_)
  have hP : va_P (dC, dI) vwCl (wA cI cZ cJ ad md ao yth (J bd) (J ro) yrow ymk yrm yst ypc ybu ybn mg sp jn ymd ybg ymm yup yun zk zm' zb' zs zr zu zt zf zg (J bd) (J ro) zmc' mg sp jn xo') H := hP
  have hD : va_D (fun q : Nat => s.heap.size ≤ q) (wA cI cZ cJ ad md ao yth (J bd) (J ro) yrow ymk yrm yst ypc ybu ybn mg sp jn ymd ybg ymm yup yun zk zm' zb' zs zr zu zt zf zg (J bd) (J ro) zmc' mg sp jn xo') := hD
  refine lv_istore (lv' := [(5, .int k), (0, .ref b), (1, .ref (ad 0)), (2, .ref (md 0)), (3, .ref ao), (4, .int x4)]) hx hb dL_law_371 hl (by decide) rfl (fun ls hl => ?_)
  refine lv_aload_n hx hb dL_law_373 rfl (lv_at hl 3 rfl) ?_
  refine lv_aload_n hx hb dL_law_374 rfl (lv_at hl 1 rfl) ?_
  refine lv_iload hx hb dL_law_375 (lv_at hl 5 rfl) ?_
  refine lv_iconst (v := 1) hx hb dL_law_377 (by decide) ?_
  refine lv_iadd hx hb dL_law_378 ?_
  refine va_sld hx hb hX hbl hbA hS hi1 dL_law_379 ?_
  refine z_callWi (wc := (wM cI cZ md yth (J bd) (J ro) yrow ymk yrm yst ypc ybu ybn mg sp jn ymd ybg ymm yup yun)) (w1 := (wM cI cZ md k (J bd) (J ro) yrow ymk' yrm yst ypc ybu' ybn' mg sp jn ymd ybg ymm yup yun)) (ws := (wA cI cZ cJ ad md ao yth (J bd) (J ro) yrow ymk yrm yst ypc ybu ybn mg sp jn ymd ybg ymm yup yun zk zm' zb' zs zr zu zt zf zg (J bd) (J ro) zmc' mg sp jn xo')) (ws' := (wA cI cZ cJ ad md ao k (J bd) (J ro) yrow ymk' yrm yst ypc ybu' ybn' mg sp jn ymd ybg ymm yup yun zk zm' zb' zs zr zu zt zf zg (J bd) (J ro) zmc' mg sp jn xo')) (As := [.int (xs (Int32.toNatClampNeg (x4 + 1)))]) (rest := []) (ci := 3) (q := (RX3, TX3, 18)) ⟨hx, hb, hml, hown, htw⟩ (c_X3_remove l dC dI cI cZ md yth (J bd) (J ro) yrow ymk yrm yst ypc ybu ybn mg sp jn ymd ybg ymm yup yun F (xs (Int32.toNatClampNeg (x4 + 1))) H.size v k ymk' ybu' ybn' hm2) (cwV 1 htw gL_law_X3_remove rfl rfl rfl kv_X3_remove ⟨(Nat.le_of_ble_eq_true rfl), (Nat.le_of_ble_eq_true rfl)⟩) (hK.sub (tys' := [(cI, .int), (cZ, .boolean)]) [0, 1] rfl) hP hD hS hA (spM cI cZ cJ ad md ao yth (J bd) (J ro) yrow ymk yrm yst ypc ybu ybn mg sp jn ymd ybg ymm yup yun k (J bd) (J ro) yrow ymk' yrm yst ypc ybu' ybn' mg sp jn ymd ybg ymm yup yun zk zm' zb' zs zr zu zt zf zg (J bd) (J ro) zmc' mg sp jn xo') ((paM cI cZ md k (J bd) (J ro) yrow ymk' yrm yst ypc ybu' ybn' mg sp jn ymd ybg ymm yup yun).trans (paM cI cZ md yth (J bd) (J ro) yrow ymk yrm yst ypc ybu ybn mg sp jn ymd ybg ymm yup yun).symm) rfl rfl rfl rfl hl.1 rfl (Nat.le_of_ble_eq_true rfl) dL_law_380 ⟨(Nat.le_trans (show (cells + 1) + 0 ≤ cells + 3 by omega) hc), (Nat.le_trans (show (slots + 6) + 0 ≤ slots + 18 by omega) hs)⟩ (fun H locs hP hD hS => ?_)
  have hP : va_P (dC, dI) vwCl (wA cI cZ cJ ad md ao k (J bd) (J ro) yrow ymk' yrm yst ypc ybu' ybn' mg sp jn ymd ybg ymm yup yun zk zm' zb' zs zr zu zt zf zg (J bd) (J ro) zmc' mg sp jn xo') H := hP
  have hD : va_D (fun q : Nat => s.heap.size ≤ q) (wA cI cZ cJ ad md ao k (J bd) (J ro) yrow ymk' yrm yst ypc ybu' ybn' mg sp jn ymd ybg ymm yup yun zk zm' zb' zs zr zu zt zf zg (J bd) (J ro) zmc' mg sp jn xo') := hD
  refine lv_istore (lv' := [(6, .int v), (5, .int k), (0, .ref b), (1, .ref (ad 0)), (2, .ref (md 0)), (3, .ref ao), (4, .int x4)]) hx hb dL_law_383 hl (by decide) rfl (fun ls hl => ?_)
  refine lv_aload_n hx hb dL_law_385 rfl (lv_at hl 4 rfl) ?_
  refine z_callRi (As := []) (rest := []) (ci := 3) (q := (RX3, TX3, 18)) (wc := (wM cI cZ md k (J bd) (J ro) yrow ymk' yrm yst ypc ybu' ybn' mg sp jn ymd ybg ymm yup yun)) ⟨hx, hb, hml, hown, htw⟩ (c_X3_thrown l dC dI cI cZ md k (J bd) (J ro) yrow ymk' yrm yst ypc ybu' ybn' mg sp jn ymd ybg ymm yup yun F k rfl) (cwV 0 htw gL_law_X3_thrown rfl rfl rfl kv_X3_thrown ⟨(Nat.le_of_ble_eq_true rfl), (Nat.le_of_ble_eq_true rfl)⟩) (hK.sub (tys' := [(cI, .int), (cZ, .boolean)]) [0, 1] rfl) (z_mid (spM cI cZ cJ ad md ao k (J bd) (J ro) yrow ymk' yrm yst ypc ybu' ybn' mg sp jn ymd ybg ymm yup yun k (J bd) (J ro) yrow ymk' yrm yst ypc ybu' ybn' mg sp jn ymd ybg ymm yup yun zk zm' zb' zs zr zu zt zf zg (J bd) (J ro) zmc' mg sp jn xo') hP) rfl rfl rfl rfl hl.1 rfl (Nat.le_of_ble_eq_true rfl) dL_law_386 ⟨(Nat.le_trans (show (cells + 1) + 0 ≤ cells + 3 by omega) hc), (Nat.le_trans (show (slots + 6) + 0 ≤ slots + 18 by omega) hs)⟩ ?_
  refine lv_iload hx hb dL_law_389 (lv_at hl 1 rfl) ?_
  refine lv_icmp_eq (tgt := 396) hx hb dL_law_391 (by decide) (fun c_391 => ?_) (fun c_391 => absurd rfl c_391)
  refine lv_iload hx hb dL_law_396 (lv_at hl 1 rfl) ?_
  refine lv_if_ne (tgt := 413) hx hb dL_law_398 (by decide) (fun c_398 => ?_) (fun c_398 => ?_)
  · refine lv_goto (tgt := 1199) hx hb dL_law_413 (by decide) ?_
    refine W.widen (k := cells + 3) (n := slots + 18) (by omega) (by omega) ?_
    exact kk H locs ls ⟨K, M', B', S, bd, ro, zk, zm', zb', zs, zr, zu, zt, zf, zg, zmc', mg, sp, jn, xo', k, yrow, ymk', yrm, yst, ypc, ybu', ybn', ymd, ybg, ymm, yup, yun, hP, hD, hST2, hXS2, hYS2⟩ hS (lv_sub hl [2, 3, 4, 5, 6] rfl)
  refine lv_aload_n hx hb dL_law_401 rfl (lv_at hl 5 rfl) ?_
  refine lv_iconst (v := 0) hx hb dL_law_402 (by decide) ?_
  refine va_lald hx hb hK hP 25 2 rfl rfl zoN dL_law_403 ?_
  refine lv_iload hx hb dL_law_404 (lv_at hl 0 rfl) ?_
  refine lv_i2l hx hb dL_law_406 rfl ?_
  refine W.lcmp hx hb dL_law_407 ?_
  refine lv_if_eq (tgt := 413) hx hb dL_law_408 (by decide) (fun c_408 => ?_) (fun c_408 => absurd ((lg_cmp_eq _ _).mpr (h0 c_398)) c_408)
  refine lv_goto (tgt := 1199) hx hb dL_law_413 (by decide) ?_
  refine W.widen (k := cells + 3) (n := slots + 18) (by omega) (by omega) ?_
  exact kk H locs ls ⟨K, M', B', S, bd, ro, zk, zm', zb', zs, zr, zu, zt, zf, zg, zmc', mg, sp, jn, xo', k, yrow, ymk', yrm, yst, ypc, ybu', ybn', ymd, ybg, ymm, yup, yun, hP, hD, hST2, hXS2, hYS2⟩ hS (lv_sub hl [2, 3, 4, 5, 6] rfl)
