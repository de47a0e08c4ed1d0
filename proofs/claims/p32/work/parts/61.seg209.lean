set_option maxHeartbeats 8000000 in
set_option maxRecDepth 100000 in
theorem s_L_seg209 {p : Program} {l : Launch} {e : Env} {s : State} {m : MethodId} {below : List Frame} {meth : Method} {c : Code} {b L : Nat} {xs : Nat → Int32} (C0 : lw_At p s m meth c b L xs) (hl9 : l.stackTraces = false) {dC : Nat → ClassId} {dI : Nat → Nat → Nat} (cI : ClassId) (aa : Nat → Nat) (ad : Nat → Nat) {sa : Nat → Nat} {A : Nat → Prop} (hA : ∀ q : Nat, s.heap.size ≤ q → A q) (hK : va_K (dC, dI) vwCl [(cI, .int)] s) (hV : zV sa A s s.heap) (hNc : zNcs s) (vm : Nat → Int32) (vr : Nat → Int32) (vh : Nat → Int32) (vl : Nat → Int32) (vq : Nat → Int32) (zk : zN) (zm : zN) (zb : zN) (zs : zN) (zr : zN) (zu : zN) (zt : zT) (zf : zN) (zg : zN) (zbd : Int32) (zro : Int32) (zmc : Int32) (zmg : Int32) (zsp : Int32) (zjn : Int32) (F : Nat) (x7 : Int32) (x8 : Int32) (x9 : Int32) (x10 : Int32) (x11 : Int32) (x12 : Int32) (z : Int32 ⊕ ((Nat → Int32) × (Nat → Int32) × (Nat → Int32) × (Nat → Int32) × zN × zN × zN × zN × zN × zN × zT × zN × zN × Int32 × Int32 × Int32 × Int32 × Int32 × Int32) ⊕ ((Nat → Int32) × (Nat → Int32) × (Nat → Int32) × (Nat → Int32) × zN × zN × zN × zN × zN × zN × zT × zN × zN × Int32 × Int32 × Int32 × Int32 × Int32 × Int32)) (hm : L_seg209 F vm vr vh vq zk zm zb zs zr zu zt zf zg zbd zro zmc zmg zsp zjn x8 x10 x11 = some z) (hz : ∀ v, z ≠ Sum.inl v) {cells slots : Nat} (hcc : cells + 4 ≤ room_1.cells) (hss : slots + 24 ≤ room_1.slots) {H : Heap} {locs : List Loc} {ls : Array Slot} (hP : va_P (dC, dI) vwCl (wQ cI aa ad vm vr vh vl vq zk zm zb zs zr zu zt zf zg zbd zro zmc zmg zsp zjn) H) (hD : va_D A (wQ cI aa ad vm vr vh vl vq zk zm zb zs zr zu zt zf zg zbd zro zmc zmg zsp zjn)) (hS : va_S A s.heap H locs) (hl : lv_has ls 19 [(0, .ref b), (1, .ref (ad 0)), (2, .ref (aa 1)), (3, .ref (aa 0)), (4, .ref (aa 2)), (5, .ref (aa 3)), (6, .ref (aa 4)), (7, .int x7), (8, .int x8), (9, .int x9), (10, .int x10), (11, .int x11), (12, .int x12)]) (K_1028 : ∀ (u_vm : Nat → Int32), ∀ (u_vr : Nat → Int32), ∀ (u_vh : Nat → Int32), ∀ (u_vq : Nat → Int32), ∀ (u_zk : zN), ∀ (u_zm : zN), ∀ (u_zb : zN), ∀ (u_zs : zN), ∀ (u_zr : zN), ∀ (u_zu : zN), ∀ (u_zt : zT), ∀ (u_zf : zN), ∀ (u_zg : zN), ∀ (u_zbd : Int32), ∀ (u_zro : Int32), ∀ (u_zmc : Int32), ∀ (u_zmg : Int32), ∀ (u_zsp : Int32), ∀ (u_zjn : Int32), z = Sum.inr (Sum.inl (u_vm, u_vr, u_vh, u_vq, u_zk, u_zm, u_zb, u_zs, u_zr, u_zu, u_zt, u_zf, u_zg, u_zbd, u_zro, u_zmc, u_zmg, u_zsp, u_zjn)) → ∀ (H : Heap) (locs : List Loc), va_P (dC, dI) vwCl (wQ cI aa ad u_vm u_vr u_vh vl u_vq u_zk u_zm u_zb u_zs u_zr u_zu u_zt u_zf u_zg u_zbd u_zro u_zmc u_zmg u_zsp u_zjn) H → va_D A (wQ cI aa ad u_vm u_vr u_vh vl u_vq u_zk u_zm u_zb u_zs u_zr u_zu u_zt u_zf u_zg u_zbd u_zro u_zmc u_zmg u_zsp u_zjn) → va_S A s.heap H locs → ∀ (ls : Array Slot), lv_has ls 19 [(0, .ref b), (1, .ref (ad 0)), (2, .ref (aa 1)), (3, .ref (aa 0)), (4, .ref (aa 2)), (5, .ref (aa 3)), (6, .ref (aa 4)), (7, .int x7), (8, .int x8), (11, .int x11), (12, .int x12)] → W p l e room_1 s m #[Value.ref b] below meth c H locs (cells + 4) (slots + 24) (lw_Z below #[Value.ref b] s) (F0 m 1028 ls [])) (K_1188 : ∀ (u_vm : Nat → Int32), ∀ (u_vr : Nat → Int32), ∀ (u_vh : Nat → Int32), ∀ (u_vq : Nat → Int32), ∀ (u_zk : zN), ∀ (u_zm : zN), ∀ (u_zb : zN), ∀ (u_zs : zN), ∀ (u_zr : zN), ∀ (u_zu : zN), ∀ (u_zt : zT), ∀ (u_zf : zN), ∀ (u_zg : zN), ∀ (u_zbd : Int32), ∀ (u_zro : Int32), ∀ (u_zmc : Int32), ∀ (u_zmg : Int32), ∀ (u_zsp : Int32), ∀ (u_zjn : Int32), z = Sum.inr (Sum.inr (u_vm, u_vr, u_vh, u_vq, u_zk, u_zm, u_zb, u_zs, u_zr, u_zu, u_zt, u_zf, u_zg, u_zbd, u_zro, u_zmc, u_zmg, u_zsp, u_zjn)) → ∀ (H : Heap) (locs : List Loc), va_P (dC, dI) vwCl (wQ cI aa ad u_vm u_vr u_vh vl u_vq u_zk u_zm u_zb u_zs u_zr u_zu u_zt u_zf u_zg u_zbd u_zro u_zmc u_zmg u_zsp u_zjn) H → va_D A (wQ cI aa ad u_vm u_vr u_vh vl u_vq u_zk u_zm u_zb u_zs u_zr u_zu u_zt u_zf u_zg u_zbd u_zro u_zmc u_zmg u_zsp u_zjn) → va_S A s.heap H locs → ∀ (ls : Array Slot), lv_has ls 19 [(0, .ref b), (1, .ref (ad 0)), (2, .ref (aa 1)), (3, .ref (aa 0)), (4, .ref (aa 2)), (5, .ref (aa 3)), (6, .ref (aa 4)), (7, .int x7)] → W p l e room_1 s m #[Value.ref b] below meth c H locs (cells + 4) (slots + 24) (lw_Z below #[Value.ref b] s) (F0 m 1188 ls [])) : W p l e room_1 s m #[Value.ref b] below meth c H locs (cells + 0) (slots + 0) (lw_Z below #[Value.ref b] s) (F0 m 209 ls []) := by
  obtain ⟨hx, hb, hr, hml, hown, hts, hX, hbl, hlocks, hgv⟩ := id C0
  have hown : s.vm.findClass RL = some m.cls := hown
  have htw : ∀ w ∈ wsL_law, w.before #[Value.ref b] s = true := fun w h => hts w (wsL_law_in w h)
  have zw0 := htw (.constant RL 145 (1000001)) (List.mem_append_left _ (List.mem_append_left _ (List.mem_append_left _ (List.mem_append_left _ (List.mem_append_left _ (List.mem_of_getElem? (i := 4) rfl))))))
  refine lv_iload hx hb dL_law_209 (lv_at hl 10 rfl) ?_
  obtain ⟨z_229, hq_229, hm⟩ := ob hm
  have J_229 : ∀ (y229 : Int32), z_229 = y229 → W p l e room_1 s m #[Value.ref b] below meth c H locs (cells + 0) (slots + 0) (lw_Z below #[Value.ref b] s) (F0 m 229 ls [.int y229]) := by
    intro y229 ez
    rw [ez] at hm
    refine lv_istore (lv' := [(13, .int y229), (0, .ref b), (1, .ref (ad 0)), (2, .ref (aa 1)), (3, .ref (aa 0)), (4, .ref (aa 2)), (5, .ref (aa 3)), (6, .ref (aa 4)), (7, .int x7), (8, .int x8), (9, .int x9), (10, .int x10), (11, .int x11), (12, .int x12)]) hx hb dL_law_229 hl (by decide) rfl (fun ls hl => ?_)
    refine lv_iconst (v := 1) hx hb dL_law_231 (by decide) ?_
    refine lv_iload hx hb dL_law_232 (lv_at hl 9 rfl) ?_
    refine lv_bipush (v := 8) hx hb dL_law_234 (by decide) ?_
    refine lv_ishr hx hb dL_law_236 ?_
    refine lv_iload hx hb dL_law_237 (lv_at hl 9 rfl) ?_
    refine lv_bipush (v := 12) hx hb dL_law_239 (by decide) ?_
    refine lv_ishr hx hb dL_law_241 ?_
    refine lv_iconst (v := 2) hx hb dL_law_242 (by decide) ?_
    obtain ⟨r243, h_243, hm⟩ := ob hm
    refine z_callSi (As := [.int (x8 >>> (12 &&& 31)), .int 2]) (rest := [.int (x8 >>> (8 &&& 31)), .int 1]) ⟨hx, hb, hml, hown, htw⟩ (c_L_low l dC dI F (x8 >>> (12 &&& 31)) 2 r243 h_243) (va_cwS 2 htw gL_law_L_low rfl rfl rfl ks_L_low ⟨Nat.le_of_ble_eq_true rfl, Nat.le_of_ble_eq_true rfl⟩) (hK.sub (tys' := []) [] rfl) z_P0 rfl hl.1 rfl (Nat.le_of_ble_eq_true rfl) dL_law_243 ⟨Nat.le_trans (show cells + 0 + 0 ≤ cells + 4 by omega) hcc, Nat.le_trans (show slots + 0 + 0 ≤ slots + 24 by omega) hss⟩ ?_
    obtain ⟨y255, e_y255⟩ : ∃ y : Int32, y = (if r243 = 0 then 3 else 40) := ⟨_, rfl⟩
    have hm := bnd_e hm e_y255
    have J_255 : W p l e room_1 s m #[Value.ref b] below meth c H locs (cells + 0) (slots + 0) (lw_Z below #[Value.ref b] s) (F0 m 255 ls [.int y255, .int (x8 >>> (8 &&& 31)), .int 1]) := by
      obtain ⟨r255, h_255, hm⟩ := ob hm
      refine z_callSi (As := [.int (x8 >>> (8 &&& 31)), .int y255]) (rest := [.int 1]) ⟨hx, hb, hml, hown, htw⟩ (c_L_low l dC dI F (x8 >>> (8 &&& 31)) y255 r255 h_255) (va_cwS 2 htw gL_law_L_low rfl rfl rfl ks_L_low ⟨Nat.le_of_ble_eq_true rfl, Nat.le_of_ble_eq_true rfl⟩) (hK.sub (tys' := []) [] rfl) z_P0 rfl hl.1 rfl (Nat.le_of_ble_eq_true rfl) dL_law_255 ⟨Nat.le_trans (show cells + 0 + 0 ≤ cells + 4 by omega) hcc, Nat.le_trans (show slots + 0 + 0 ≤ slots + 24 by omega) hss⟩ ?_
      refine lv_iadd hx hb dL_law_258 ?_
      refine lv_topi (fun x14 e_x14 => ?_)
      have hm := bnd_e hm e_x14
      refine lv_istore (lv' := [(14, .int x14), (13, .int y229), (0, .ref b), (1, .ref (ad 0)), (2, .ref (aa 1)), (3, .ref (aa 0)), (4, .ref (aa 2)), (5, .ref (aa 3)), (6, .ref (aa 4)), (7, .int x7), (8, .int x8), (9, .int x9), (10, .int x10), (11, .int x11), (12, .int x12)]) hx hb dL_law_259 hl (by decide) rfl (fun ls hl => ?_)
      refine lv_iload hx hb dL_law_261 (lv_at hl 13 rfl) ?_
      refine lv_iconst (v := 1) hx hb dL_law_263 (by decide) ?_
      refine lv_iadd hx hb dL_law_264 ?_
      refine lv_iload hx hb dL_law_265 (lv_at hl 10 rfl) ?_
      refine lv_bipush (v := 16) hx hb dL_law_267 (by decide) ?_
      refine lv_ishr hx hb dL_law_269 ?_
      refine lv_bipush (v := 9) hx hb dL_law_270 (by decide) ?_
      obtain ⟨r272, h_272, hm⟩ := ob hm
      refine z_callSi (As := [.int (x8 >>> (16 &&& 31)), .int 9]) (rest := [.int (x11 + 1)]) ⟨hx, hb, hml, hown, htw⟩ (c_L_low l dC dI F (x8 >>> (16 &&& 31)) 9 r272 h_272) (va_cwS 2 htw gL_law_L_low rfl rfl rfl ks_L_low ⟨Nat.le_of_ble_eq_true rfl, Nat.le_of_ble_eq_true rfl⟩) (hK.sub (tys' := []) [] rfl) z_P0 rfl hl.1 rfl (Nat.le_of_ble_eq_true rfl) dL_law_272 ⟨Nat.le_trans (show cells + 0 + 0 ≤ cells + 4 by omega) hcc, Nat.le_trans (show slots + 0 + 0 ≤ slots + 24 by omega) hss⟩ ?_
      refine lv_iadd hx hb dL_law_275 ?_
      refine lv_topi (fun x15 e_x15 => ?_)
      have hm := bnd_e hm e_x15
      refine lv_istore (lv' := [(15, .int x15), (14, .int x14), (13, .int y229), (0, .ref b), (1, .ref (ad 0)), (2, .ref (aa 1)), (3, .ref (aa 0)), (4, .ref (aa 2)), (5, .ref (aa 3)), (6, .ref (aa 4)), (7, .int x7), (8, .int x8), (9, .int x9), (10, .int x10), (11, .int x11), (12, .int x12)]) hx hb dL_law_276 hl (by decide) rfl (fun ls hl => ?_)
      refine lv_aload hx hb dL_law_278 (lv_at hl 9 rfl) ?_
      refine lv_iconst (v := 0) hx hb dL_law_280 (by decide) ?_
      obtain ⟨c_281, hm⟩ := ck hm
      refine va_iald hx hb hK hP 4 0 rfl rfl c_281 dL_law_281 ?_
      refine lv_aload hx hb dL_law_282 (lv_at hl 9 rfl) ?_
      refine lv_iconst (v := 1) hx hb dL_law_284 (by decide) ?_
      obtain ⟨c_285, hm⟩ := ck hm
      refine va_iald hx hb hK hP 4 0 rfl rfl c_285 dL_law_285 ?_
      refine lv_iadd hx hb dL_law_286 ?_
      refine lv_iload hx hb dL_law_287 (lv_at hl 2 rfl) ?_
      refine lv_iadd hx hb dL_law_289 ?_
      refine lv_bipush (v := 60) hx hb dL_law_290 (by decide) ?_
      refine lv_icmp_le (tgt := 298) hx hb dL_law_292 (by decide) (fun c_292 => ?_) (fun c_292 => ?_)
      · have hm := it_t hm c_292
        refine lv_iconst (v := 0) hx hb dL_law_298 (by decide) ?_
        refine lv_istore (lv' := [(16, .int 0), (15, .int x15), (14, .int x14), (13, .int y229), (0, .ref b), (1, .ref (ad 0)), (2, .ref (aa 1)), (3, .ref (aa 0)), (4, .ref (aa 2)), (5, .ref (aa 3)), (6, .ref (aa 4)), (7, .int x7), (8, .int x8), (9, .int x9), (10, .int x10), (11, .int x11), (12, .int x12)]) hx hb dL_law_299 hl (by decide) rfl (fun ls hl => ?_)
        obtain ⟨z_301, hq_301, hm⟩ := ob hm
        have K_301 : ∀ (vmx301 : Nat → Int32), ∀ (vrx301 : Nat → Int32), ∀ (vhx301 : Nat → Int32), ∀ (vqx301 : Nat → Int32), z_301 = (vmx301, vrx301, vhx301, vqx301) → ∀ (H : Heap) (locs : List Loc), va_P (dC, dI) vwCl (wQ cI aa ad vmx301 vrx301 vhx301 vl vqx301 zk zm zb zs zr zu zt zf zg zbd zro zmc zmg zsp zjn) H → va_D A (wQ cI aa ad vmx301 vrx301 vhx301 vl vqx301 zk zm zb zs zr zu zt zf zg zbd zro zmc zmg zsp zjn) → va_S A s.heap H locs → ∀ (ls : Array Slot), lv_has ls 19 [(15, .int x15), (14, .int x14), (13, .int y229), (0, .ref b), (1, .ref (ad 0)), (2, .ref (aa 1)), (3, .ref (aa 0)), (4, .ref (aa 2)), (5, .ref (aa 3)), (6, .ref (aa 4)), (7, .int x7), (8, .int x8), (10, .int x10), (11, .int x11), (12, .int x12)] → W p l e room_1 s m #[Value.ref b] below meth c H locs (cells + 0) (slots + 0) (lw_Z below #[Value.ref b] s) (F0 m 402 ls []) := by
          intro vmx301 vrx301 vhx301 vqx301 ez H locs hP hD hS ls hl
          rw [ez] at hm
          refine lv_iload hx hb dL_law_402 (lv_at hl 12 rfl) ?_
          obtain ⟨z_426, hq_426, hm⟩ := ob hm
          have J_426 : ∀ (y426 : Int32), ∀ (zkj426 : zN), ∀ (zmj426 : zN), ∀ (zsj426 : zN), ∀ (zrj426 : zN), ∀ (zuj426 : zN), ∀ (ztj426 : zT), z_426 = (y426, zkj426, zmj426, zsj426, zrj426, zuj426, ztj426) → ∀ (H : Heap) (locs : List Loc), va_P (dC, dI) vwCl (wQ cI aa ad vmx301 vrx301 vhx301 vl vqx301 zkj426 zmj426 zb zsj426 zrj426 zuj426 ztj426 zf zg zbd zro zmc zmg zsp zjn) H → va_D A (wQ cI aa ad vmx301 vrx301 vhx301 vl vqx301 zkj426 zmj426 zb zsj426 zrj426 zuj426 ztj426 zf zg zbd zro zmc zmg zsp zjn) → va_S A s.heap H locs → W p l e room_1 s m #[Value.ref b] below meth c H locs (cells + 0) (slots + 0) (lw_Z below #[Value.ref b] s) (F0 m 426 ls [.int y426]) := by
            intro y426 zkj426 zmj426 zsj426 zrj426 zuj426 ztj426 ez H locs hP hD hS
            rw [ez] at hm
            refine lv_istore (lv' := [(16, .int y426), (15, .int x15), (14, .int x14), (13, .int y229), (0, .ref b), (1, .ref (ad 0)), (2, .ref (aa 1)), (3, .ref (aa 0)), (4, .ref (aa 2)), (5, .ref (aa 3)), (6, .ref (aa 4)), (7, .int x7), (8, .int x8), (10, .int x10), (11, .int x11), (12, .int x12)]) hx hb dL_law_426 hl (by decide) rfl (fun ls hl => ?_)
            refine lv_iload hx hb dL_law_428 (lv_at hl 0 rfl) ?_
            refine lv_aload_n hx hb dL_law_430 rfl (lv_at hl 5 rfl) ?_
            obtain ⟨r431, h_431, hm⟩ := ob hm
            refine z_callRi (As := []) (rest := [.int y426]) (ci := 2) (q := (RX2, TX2, 15)) ⟨hx, hb, hml, hown, htw⟩ (c_X2_pieces l dC dI cI ad zkj426 zmj426 zb zsj426 zrj426 zuj426 ztj426 zf zg zbd zro zmc zmg zsp zjn F r431 h_431) (cwV 0 htw gL_law_X2_pieces rfl rfl rfl kv_X2_pieces ⟨Nat.le_of_ble_eq_true rfl, Nat.le_of_ble_eq_true rfl⟩) hK (z_mid (pjQ_L cI aa ad vmx301 vrx301 vhx301 vl vqx301 zkj426 zmj426 zb zsj426 zrj426 zuj426 ztj426 zf zg zbd zro zmc zmg zsp zjn zkj426 zmj426 zb zsj426 zrj426 zuj426 ztj426 zf zg zbd zro zmc zmg zsp zjn) hP) rfl rfl rfl rfl hl.1 rfl (Nat.le_of_ble_eq_true rfl) dL_law_431 ⟨Nat.le_trans (show cells + 0 + 0 ≤ cells + 4 by omega) hcc, Nat.le_trans (show slots + 0 + 0 ≤ slots + 24 by omega) hss⟩ ?_
            refine lv_icmp_ne (tgt := 461) hx hb dL_law_434 (by decide) (fun c_434 => ?_) (fun c_434 => ?_)
            · have hm := it_f hm c_434
              refine lv_iconst (v := 0) hx hb dL_law_461 (by decide) ?_
              exact absurd (o2 hm) (hz _)
            · have hm := it_t hm c_434
              refine lv_aload_n hx hb dL_law_437 rfl (lv_at hl 5 rfl) ?_
              refine lv_iconst (v := 0) hx hb dL_law_438 (by decide) ?_
              refine lv_iload hx hb dL_law_439 (lv_at hl 1 rfl) ?_
              refine lv_iconst (v := 0) hx hb dL_law_441 (by decide) ?_
              obtain ⟨⟨r442, zk442, zm442, zb442, zs442, zr442, zu442, zt442, zf442, zg442, zbd442, zro442, zmc442, zmg442, zsp442, zjn442⟩, h_442, hm⟩ := ob hm
              refine z_hSi (wc := (wL cI ad zkj426 zmj426 zb zsj426 zrj426 zuj426 ztj426 zf zg zbd zro zmc zmg zsp zjn)) (w1 := (wL cI ad zk442 zm442 zb442 zs442 zr442 zu442 zt442 zf442 zg442 zbd442 zro442 zmc442 zmg442 zsp442 zjn442)) (ws := (wQ cI aa ad vmx301 vrx301 vhx301 vl vqx301 zkj426 zmj426 zb zsj426 zrj426 zuj426 ztj426 zf zg zbd zro zmc zmg zsp zjn)) (ws' := (wQ cI aa ad vmx301 vrx301 vhx301 vl vqx301 zk442 zm442 zb442 zs442 zr442 zu442 zt442 zf442 zg442 zbd442 zro442 zmc442 zmg442 zsp442 zjn442)) (As := [.ref (ad 0), .int 0, .int x15, .int 0]) (rest := []) ⟨hx, hb, hml, hown, htw⟩ (c_L_refused l dC dI cI ad zkj426 zmj426 zb zsj426 zrj426 zuj426 ztj426 zf zg zbd zro zmc zmg zsp zjn F 0 x15 0 H.size sa hl9 r442 zk442 zm442 zb442 zs442 zr442 zu442 zt442 zf442 zg442 zbd442 zro442 zmc442 zmg442 zsp442 zjn442 h_442) (vx_cwSW 4 htw gL_law_L_refused rfl rfl rfl (by decide +kernel) ⟨Nat.le_of_ble_eq_true rfl, Nat.le_of_ble_eq_true rfl⟩) hV hNc hK hP hD hS hA (pjQ_L cI aa ad vmx301 vrx301 vhx301 vl vqx301 zkj426 zmj426 zb zsj426 zrj426 zuj426 ztj426 zf zg zbd zro zmc zmg zsp zjn zk442 zm442 zb442 zs442 zr442 zu442 zt442 zf442 zg442 zbd442 zro442 zmc442 zmg442 zsp442 zjn442) ((paL cI ad zk442 zm442 zb442 zs442 zr442 zu442 zt442 zf442 zg442 zbd442 zro442 zmc442 zmg442 zsp442 zjn442).trans (paL cI ad zkj426 zmj426 zb zsj426 zrj426 zuj426 ztj426 zf zg zbd zro zmc zmg zsp zjn).symm) rfl hl.1 rfl (Nat.le_of_ble_eq_true rfl) dL_law_442 ⟨Nat.le_trans (show cells + 0 + 2 ≤ cells + 4 by omega) hcc, Nat.le_trans (show slots + 0 + 12 ≤ slots + 24 by omega) hss⟩ (fun H locs hP hD hS => ?_)
              refine lv_iconst (v := 2) hx hb dL_law_445 (by decide) ?_
              refine lv_icmp_ne (tgt := 461) hx hb dL_law_446 (by decide) (fun c_446 => ?_) (fun c_446 => ?_)
              · have hm := it_f hm c_446
                refine lv_iconst (v := 0) hx hb dL_law_461 (by decide) ?_
                exact absurd (o2 hm) (hz _)
              · have hm := it_t hm c_446
                refine lv_aload_n hx hb dL_law_449 rfl (lv_at hl 5 rfl) ?_
                refine lv_iconst (v := 0) hx hb dL_law_450 (by decide) ?_
                refine lv_ldc hx hb hown zw0 dL_law_451 ?_
                refine lv_iconst (v := 0) hx hb dL_law_453 (by decide) ?_
                obtain ⟨⟨r454, zk454, zm454, zb454, zs454, zr454, zu454, zt454, zf454, zg454, zbd454, zro454, zmc454, zmg454, zsp454, zjn454⟩, h_454, hm⟩ := ob hm
                refine z_hSi (wc := (wL cI ad zk442 zm442 zb442 zs442 zr442 zu442 zt442 zf442 zg442 zbd442 zro442 zmc442 zmg442 zsp442 zjn442)) (w1 := (wL cI ad zk454 zm454 zb454 zs454 zr454 zu454 zt454 zf454 zg454 zbd454 zro454 zmc454 zmg454 zsp454 zjn454)) (ws := (wQ cI aa ad vmx301 vrx301 vhx301 vl vqx301 zk442 zm442 zb442 zs442 zr442 zu442 zt442 zf442 zg442 zbd442 zro442 zmc442 zmg442 zsp442 zjn442)) (ws' := (wQ cI aa ad vmx301 vrx301 vhx301 vl vqx301 zk454 zm454 zb454 zs454 zr454 zu454 zt454 zf454 zg454 zbd454 zro454 zmc454 zmg454 zsp454 zjn454)) (As := [.ref (ad 0), .int 0, .int 1000001, .int 0]) (rest := []) ⟨hx, hb, hml, hown, htw⟩ (c_L_refused l dC dI cI ad zk442 zm442 zb442 zs442 zr442 zu442 zt442 zf442 zg442 zbd442 zro442 zmc442 zmg442 zsp442 zjn442 F 0 1000001 0 H.size sa hl9 r454 zk454 zm454 zb454 zs454 zr454 zu454 zt454 zf454 zg454 zbd454 zro454 zmc454 zmg454 zsp454 zjn454 h_454) (vx_cwSW 4 htw gL_law_L_refused rfl rfl rfl (by decide +kernel) ⟨Nat.le_of_ble_eq_true rfl, Nat.le_of_ble_eq_true rfl⟩) hV hNc hK hP hD hS hA (pjQ_L cI aa ad vmx301 vrx301 vhx301 vl vqx301 zk442 zm442 zb442 zs442 zr442 zu442 zt442 zf442 zg442 zbd442 zro442 zmc442 zmg442 zsp442 zjn442 zk454 zm454 zb454 zs454 zr454 zu454 zt454 zf454 zg454 zbd454 zro454 zmc454 zmg454 zsp454 zjn454) ((paL cI ad zk454 zm454 zb454 zs454 zr454 zu454 zt454 zf454 zg454 zbd454 zro454 zmc454 zmg454 zsp454 zjn454).trans (paL cI ad zk442 zm442 zb442 zs442 zr442 zu442 zt442 zf442 zg442 zbd442 zro442 zmc442 zmg442 zsp442 zjn442).symm) rfl hl.1 rfl (Nat.le_of_ble_eq_true rfl) dL_law_454 ⟨Nat.le_trans (show cells + 2 + 2 ≤ cells + 4 by omega) hcc, Nat.le_trans (show slots + 12 + 12 ≤ slots + 24 by omega) hss⟩ (fun H locs hP hD hS => ?_)
                refine lv_iconst (v := 1) hx hb dL_law_457 (by decide) ?_
                refine lv_icmp_eq (tgt := 463) hx hb dL_law_458 (by decide) (fun c_458 => ?_) (fun c_458 => ?_)
                · have hm := it_t hm c_458
                  refine lv_goto (tgt := 1028) hx hb dL_law_463 (by decide) ?_
                  exact K_1028 vmx301 vrx301 vhx301 vqx301 zk454 zm454 zb454 zs454 zr454 zu454 zt454 zf454 zg454 zbd454 zro454 zmc454 zmg454 zsp454 zjn454 (o2 hm) _ _ hP hD hS _ (lv_sub hl [4, 5, 6, 7, 8, 9, 10, 11, 12, 14, 15] rfl)
                · have hm := it_f hm c_458
                  refine lv_iconst (v := 0) hx hb dL_law_461 (by decide) ?_
                  exact absurd (o2 hm) (hz _)
          have hm := hq_426
          refine lv_if_ne (tgt := 416) hx hb dL_law_404 (by decide) (fun c_404 => ?_) (fun c_404 => ?_)
          · have hm := it_f hm c_404
            refine lv_aload_n hx hb dL_law_416 rfl (lv_at hl 4 rfl) ?_
            refine lv_iload hx hb dL_law_417 (lv_at hl 0 rfl) ?_
            refine lv_iload hx hb dL_law_419 (lv_at hl 1 rfl) ?_
            refine lv_iload hx hb dL_law_421 (lv_at hl 2 rfl) ?_
            obtain ⟨⟨r423, zk423, zm423, zs423, zr423, zu423, zt423⟩, h_423, hm⟩ := ob hm
            have h_423 := nz_e h_423
            refine z_callWi (wc := (wL cI ad zk zm zb zs zr zu zt zf zg zbd zro zmc zmg zsp zjn)) (w1 := (wL cI ad zk423 zm423 zb zs423 zr423 zu423 zt423 zf zg zbd zro zmc zmg zsp zjn)) (ws := (wQ cI aa ad vmx301 vrx301 vhx301 vl vqx301 zk zm zb zs zr zu zt zf zg zbd zro zmc zmg zsp zjn)) (ws' := (wQ cI aa ad vmx301 vrx301 vhx301 vl vqx301 zk423 zm423 zb zs423 zr423 zu423 zt423 zf zg zbd zro zmc zmg zsp zjn)) (As := [.int x15, .int x14, .int y229]) (rest := []) (ci := 2) (q := (RX2, TX2, 15)) ⟨hx, hb, hml, hown, htw⟩ (n_X2_appendMany l dC dI cI ad zk zm zb zs zr zu zt zf zg zbd zro zmc zmg zsp zjn F x15 x14 y229 H.size r423 zk423 zm423 zs423 zr423 zu423 zt423 h_423) (cwV 3 htw gL_law_X2_appendMany rfl rfl rfl kv_X2_appendMany ⟨Nat.le_of_ble_eq_true rfl, Nat.le_of_ble_eq_true rfl⟩) hK hP hD hS hA (pjQ_L cI aa ad vmx301 vrx301 vhx301 vl vqx301 zk zm zb zs zr zu zt zf zg zbd zro zmc zmg zsp zjn zk423 zm423 zb zs423 zr423 zu423 zt423 zf zg zbd zro zmc zmg zsp zjn) ((paL cI ad zk423 zm423 zb zs423 zr423 zu423 zt423 zf zg zbd zro zmc zmg zsp zjn).trans (paL cI ad zk zm zb zs zr zu zt zf zg zbd zro zmc zmg zsp zjn).symm) rfl rfl rfl rfl hl.1 rfl (Nat.le_of_ble_eq_true rfl) dL_law_423 ⟨Nat.le_trans (show cells + 0 + 0 ≤ cells + 4 by omega) hcc, Nat.le_trans (show slots + 0 + 0 ≤ slots + 24 by omega) hss⟩ (fun H locs hP hD hS => ?_)
            exact J_426 r423 zk423 zm423 zs423 zr423 zu423 zt423 (o2 hm) _ _ hP hD hS
          · have hm := it_t hm c_404
            refine lv_aload_n hx hb dL_law_407 rfl (lv_at hl 4 rfl) ?_
            refine lv_iload hx hb dL_law_408 (lv_at hl 0 rfl) ?_
            obtain ⟨⟨r410, zk410, zm410, zs410, zr410, zu410, zt410⟩, h_410, hm⟩ := ob hm
            have h_410 := nz_e h_410
            refine z_callWi (wc := (wL cI ad zk zm zb zs zr zu zt zf zg zbd zro zmc zmg zsp zjn)) (w1 := (wL cI ad zk410 zm410 zb zs410 zr410 zu410 zt410 zf zg zbd zro zmc zmg zsp zjn)) (ws := (wQ cI aa ad vmx301 vrx301 vhx301 vl vqx301 zk zm zb zs zr zu zt zf zg zbd zro zmc zmg zsp zjn)) (ws' := (wQ cI aa ad vmx301 vrx301 vhx301 vl vqx301 zk410 zm410 zb zs410 zr410 zu410 zt410 zf zg zbd zro zmc zmg zsp zjn)) (As := [.int x15]) (rest := []) (ci := 2) (q := (RX2, TX2, 15)) ⟨hx, hb, hml, hown, htw⟩ (n_X2_append l dC dI cI ad zk zm zb zs zr zu zt zf zg zbd zro zmc zmg zsp zjn F x15 H.size r410 zk410 zm410 zs410 zr410 zu410 zt410 h_410) (cwV 1 htw gL_law_X2_append rfl rfl rfl kv_X2_append ⟨Nat.le_of_ble_eq_true rfl, Nat.le_of_ble_eq_true rfl⟩) hK hP hD hS hA (pjQ_L cI aa ad vmx301 vrx301 vhx301 vl vqx301 zk zm zb zs zr zu zt zf zg zbd zro zmc zmg zsp zjn zk410 zm410 zb zs410 zr410 zu410 zt410 zf zg zbd zro zmc zmg zsp zjn) ((paL cI ad zk410 zm410 zb zs410 zr410 zu410 zt410 zf zg zbd zro zmc zmg zsp zjn).trans (paL cI ad zk zm zb zs zr zu zt zf zg zbd zro zmc zmg zsp zjn).symm) rfl rfl rfl rfl hl.1 rfl (Nat.le_of_ble_eq_true rfl) dL_law_410 ⟨Nat.le_trans (show cells + 0 + 0 ≤ cells + 4 by omega) hcc, Nat.le_trans (show slots + 0 + 0 ≤ slots + 24 by omega) hss⟩ (fun H locs hP hD hS => ?_)
            refine lv_goto (tgt := 426) hx hb dL_law_413 (by decide) ?_
            exact J_426 r410 zk410 zm410 zs410 zr410 zu410 zt410 (o2 hm) _ _ hP hD hS
        have L_301 : ∀ (n : Nat) (x16 : Int32) (vml301 : Nat → Int32) (vrl301 : Nat → Int32) (vhl301 : Nat → Int32) (vql301 : Nat → Int32), L_seg209_L301 F y229 x14 x15 n x16 vml301 vrl301 vhl301 vql301 = some z_301 → ∀ (H : Heap) (locs : List Loc), va_P (dC, dI) vwCl (wQ cI aa ad vml301 vrl301 vhl301 vl vql301 zk zm zb zs zr zu zt zf zg zbd zro zmc zmg zsp zjn) H → va_D A (wQ cI aa ad vml301 vrl301 vhl301 vl vql301 zk zm zb zs zr zu zt zf zg zbd zro zmc zmg zsp zjn) → va_S A s.heap H locs → ∀ (ls : Array Slot), lv_has ls 19 [(16, .int x16), (15, .int x15), (14, .int x14), (13, .int y229), (0, .ref b), (1, .ref (ad 0)), (2, .ref (aa 1)), (3, .ref (aa 0)), (4, .ref (aa 2)), (5, .ref (aa 3)), (6, .ref (aa 4)), (7, .int x7), (8, .int x8), (10, .int x10), (11, .int x11), (12, .int x12)] → W p l e room_1 s m #[Value.ref b] below meth c H locs (cells + 0) (slots + 0) (lw_Z below #[Value.ref b] s) (F0 m 301 ls []) := by
          intro n
          induction n with
          | zero => intro x16 vml301 vrl301 vhl301 vql301 hm; cases hm
          | succ n ih_301 =>
            intro x16 vml301 vrl301 vhl301 vql301 hm H locs hP hD hS ls hl
            refine lv_iload hx hb dL_law_301 (lv_at hl 0 rfl) ?_
            refine lv_iload hx hb dL_law_303 (lv_at hl 3 rfl) ?_
            refine lv_icmp_ge (tgt := 402) hx hb dL_law_305 (by decide) (fun c_305 => ?_) (fun c_305 => ?_)
            · have hm := it_t hm c_305
              exact K_301 vml301 vrl301 vhl301 vql301 (o2 hm) _ _ hP hD hS _ (lv_sub hl [1, 2, 3, 4, 5, 6, 7, 8, 9, 10, 11, 12, 13, 14, 15] rfl)
            · have hm := it_f hm c_305
              refine lv_aload hx hb dL_law_308 (lv_at hl 10 rfl) ?_
              refine lv_iconst (v := 0) hx hb dL_law_310 (by decide) ?_
              obtain ⟨c_311, hm⟩ := ck hm
              refine va_iald hx hb hK hP 4 0 rfl rfl c_311 dL_law_311 ?_
              refine lv_topi (fun x17 e_x17 => ?_)
              have hm := bnd_e hm e_x17
              refine lv_istore (lv' := [(17, .int x17), (16, .int x16), (15, .int x15), (14, .int x14), (13, .int y229), (0, .ref b), (1, .ref (ad 0)), (2, .ref (aa 1)), (3, .ref (aa 0)), (4, .ref (aa 2)), (5, .ref (aa 3)), (6, .ref (aa 4)), (7, .int x7), (8, .int x8), (10, .int x10), (11, .int x11), (12, .int x12)]) hx hb dL_law_312 hl (by decide) rfl (fun ls hl => ?_)
              refine lv_aload_n hx hb dL_law_314 rfl (lv_at hl 7 rfl) ?_
              refine lv_iload hx hb dL_law_315 (lv_at hl 0 rfl) ?_
              refine lv_iload hx hb dL_law_317 (lv_at hl 2 rfl) ?_
              refine lv_iload hx hb dL_law_319 (lv_at hl 3 rfl) ?_
              refine lv_iload hx hb dL_law_321 (lv_at hl 1 rfl) ?_
              refine lv_imul hx hb dL_law_323 ?_
              refine lv_iadd hx hb dL_law_324 ?_
              obtain ⟨c_325, hm⟩ := ck hm
              refine va_iast hx hb hK hP hD hS 1 0 rfl rfl c_325 dL_law_325 (fun H locs hP hD hS => ?_)
              have hP : va_P (dC, dI) vwCl (wQ cI aa ad vml301 (upd vrl301 (Int32.toNatClampNeg x17) (x15 + (x14 * x16))) vhl301 vl vql301 zk zm zb zs zr zu zt zf zg zbd zro zmc zmg zsp zjn) H := hP
              have hD : va_D A (wQ cI aa ad vml301 (upd vrl301 (Int32.toNatClampNeg x17) (x15 + (x14 * x16))) vhl301 vl vql301 zk zm zb zs zr zu zt zf zg zbd zro zmc zmg zsp zjn) := hD
              refine lv_aload_n hx hb dL_law_326 rfl (lv_at hl 8 rfl) ?_
              refine lv_iload hx hb dL_law_327 (lv_at hl 0 rfl) ?_
              refine lv_iconst (v := 0) hx hb dL_law_329 (by decide) ?_
              obtain ⟨c_330, hm⟩ := ck hm
              refine va_iast hx hb hK hP hD hS 0 0 rfl rfl c_330 dL_law_330 (fun H locs hP hD hS => ?_)
              have hP : va_P (dC, dI) vwCl (wQ cI aa ad (upd vml301 (Int32.toNatClampNeg x17) 0) (upd vrl301 (Int32.toNatClampNeg x17) (x15 + (x14 * x16))) vhl301 vl vql301 zk zm zb zs zr zu zt zf zg zbd zro zmc zmg zsp zjn) H := hP
              have hD : va_D A (wQ cI aa ad (upd vml301 (Int32.toNatClampNeg x17) 0) (upd vrl301 (Int32.toNatClampNeg x17) (x15 + (x14 * x16))) vhl301 vl vql301 zk zm zb zs zr zu zt zf zg zbd zro zmc zmg zsp zjn) := hD
              refine lv_aload hx hb dL_law_331 (lv_at hl 11 rfl) ?_
              refine lv_iconst (v := 0) hx hb dL_law_333 (by decide) ?_
              refine lv_iload hx hb dL_law_334 (lv_at hl 0 rfl) ?_
              refine lv_iconst (v := 1) hx hb dL_law_336 (by decide) ?_
              refine lv_iadd hx hb dL_law_337 ?_
              obtain ⟨c_338, hm⟩ := ck hm
              refine va_iast hx hb hK hP hD hS 4 0 rfl rfl c_338 dL_law_338 (fun H locs hP hD hS => ?_)
              have hP : va_P (dC, dI) vwCl (wQ cI aa ad (upd vml301 (Int32.toNatClampNeg x17) 0) (upd vrl301 (Int32.toNatClampNeg x17) (x15 + (x14 * x16))) vhl301 vl (upd vql301 (Int32.toNatClampNeg 0) (x17 + 1)) zk zm zb zs zr zu zt zf zg zbd zro zmc zmg zsp zjn) H := hP
              have hD : va_D A (wQ cI aa ad (upd vml301 (Int32.toNatClampNeg x17) 0) (upd vrl301 (Int32.toNatClampNeg x17) (x15 + (x14 * x16))) vhl301 vl (upd vql301 (Int32.toNatClampNeg 0) (x17 + 1)) zk zm zb zs zr zu zt zf zg zbd zro zmc zmg zsp zjn) := hD
              refine lv_iload hx hb dL_law_339 (lv_at hl 0 rfl) ?_
              refine lv_iconst (v := 1) hx hb dL_law_341 (by decide) ?_
              refine lv_isub hx hb dL_law_342 ?_
              refine lv_topi (fun x18 e_x18 => ?_)
              have hm := bnd_e hm e_x18
              refine lv_istore (lv' := [(18, .int x18), (17, .int x17), (16, .int x16), (15, .int x15), (14, .int x14), (13, .int y229), (0, .ref b), (1, .ref (ad 0)), (2, .ref (aa 1)), (3, .ref (aa 0)), (4, .ref (aa 2)), (5, .ref (aa 3)), (6, .ref (aa 4)), (7, .int x7), (8, .int x8), (10, .int x10), (11, .int x11), (12, .int x12)]) hx hb dL_law_343 hl (by decide) rfl (fun ls hl => ?_)
              obtain ⟨z_345, hq_345, hm⟩ := ob hm
              have K_345 : ∀ (x18_3 : Int32), z_345 = x18_3 → ∀ (ls : Array Slot), lv_has ls 19 [(18, .int x18_3), (17, .int x17), (16, .int x16), (15, .int x15), (14, .int x14), (13, .int y229), (0, .ref b), (1, .ref (ad 0)), (2, .ref (aa 1)), (3, .ref (aa 0)), (4, .ref (aa 2)), (5, .ref (aa 3)), (6, .ref (aa 4)), (7, .int x7), (8, .int x8), (10, .int x10), (11, .int x11), (12, .int x12)] → W p l e room_1 s m #[Value.ref b] below meth c H locs (cells + 0) (slots + 0) (lw_Z below #[Value.ref b] s) (F0 m 364 ls []) := by
                intro x18_3 ez ls hl
                rw [ez] at hm
                refine lv_aload hx hb dL_law_364 (lv_at hl 10 rfl) ?_
                refine lv_iload hx hb dL_law_366 (lv_at hl 1 rfl) ?_
                refine lv_iload hx hb dL_law_368 (lv_at hl 0 rfl) ?_
                refine lv_if_lt (tgt := 390) hx hb dL_law_370 (by decide) (fun c_370 => ?_) (fun c_370 => ?_)
                · have hm := it_t hm c_370
                  refine lv_iconst (v := 1) hx hb dL_law_390 (by decide) ?_
                  refine lv_goto (tgt := 395) hx hb dL_law_391 (by decide) ?_
                  obtain ⟨c_395, hm⟩ := ck hm
                  refine va_iast hx hb hK hP hD hS 2 0 rfl rfl c_395 dL_law_395 (fun H locs hP hD hS => ?_)
                  have hP : va_P (dC, dI) vwCl (wQ cI aa ad (upd vml301 (Int32.toNatClampNeg x17) 0) (upd vrl301 (Int32.toNatClampNeg x17) (x15 + (x14 * x16))) (upd vhl301 (Int32.toNatClampNeg x17) 1) vl (upd vql301 (Int32.toNatClampNeg 0) (x17 + 1)) zk zm zb zs zr zu zt zf zg zbd zro zmc zmg zsp zjn) H := hP
                  have hD : va_D A (wQ cI aa ad (upd vml301 (Int32.toNatClampNeg x17) 0) (upd vrl301 (Int32.toNatClampNeg x17) (x15 + (x14 * x16))) (upd vhl301 (Int32.toNatClampNeg x17) 1) vl (upd vql301 (Int32.toNatClampNeg 0) (x17 + 1)) zk zm zb zs zr zu zt zf zg zbd zro zmc zmg zsp zjn) := hD
                  obtain ⟨x16_1, e_x16_1⟩ : ∃ y : Int32, y = x16 + 1 := ⟨_, rfl⟩
                  have hm := bnd_e hm e_x16_1
                  refine lv_iinc (v := x16_1) (lv' := [(16, .int x16_1), (18, .int x18_3), (17, .int x17), (15, .int x15), (14, .int x14), (13, .int y229), (0, .ref b), (1, .ref (ad 0)), (2, .ref (aa 1)), (3, .ref (aa 0)), (4, .ref (aa 2)), (5, .ref (aa 3)), (6, .ref (aa 4)), (7, .int x7), (8, .int x8), (10, .int x10), (11, .int x11), (12, .int x12)]) hx hb dL_law_396 hl (k := 2) rfl (by rw [e_x16_1]; rfl) (by decide) rfl (fun ls hl => ?_)
                  refine lv_goto (tgt := 301) hx hb dL_law_399 (by decide) ?_
                  exact ih_301 x16_1 (upd vml301 (Int32.toNatClampNeg x17) 0) (upd vrl301 (Int32.toNatClampNeg x17) (x15 + (x14 * x16))) (upd vhl301 (Int32.toNatClampNeg x17) 1) (upd vql301 (Int32.toNatClampNeg 0) (x17 + 1)) hm _ _ hP hD hS _ (lv_sub hl [0, 3, 4, 5, 6, 7, 8, 9, 10, 11, 12, 13, 14, 15, 16, 17] rfl)
                · have hm := it_f hm c_370
                  refine lv_aload_n hx hb dL_law_373 rfl (lv_at hl 8 rfl) ?_
                  refine lv_iload hx hb dL_law_374 (lv_at hl 0 rfl) ?_
                  refine lv_iload hx hb dL_law_376 (lv_at hl 1 rfl) ?_
                  refine lv_iconst (v := 1) hx hb dL_law_378 (by decide) ?_
                  refine lv_iadd hx hb dL_law_379 ?_
                  refine lv_aload hx hb dL_law_380 (lv_at hl 12 rfl) ?_
                  refine lv_iconst (v := 2) hx hb dL_law_382 (by decide) ?_
                  obtain ⟨c_383, hm⟩ := ck hm
                  refine va_iald hx hb hK hP 4 0 rfl rfl c_383 dL_law_383 ?_
                  obtain ⟨r384, h_384, hm⟩ := ob hm
                  refine z_callSi (As := [.ref (aa 1), .int x18_3, .int (x17 + 1), .int ((upd vql301 (Int32.toNatClampNeg 0) (x17 + 1)) (Int32.toNatClampNeg 2))]) (rest := [.int x17, .ref (aa 2)]) ⟨hx, hb, hml, hown, htw⟩ (c_L_fits l dC dI cI (aa 1) 64 (upd vrl301 (Int32.toNatClampNeg x17) (x15 + (x14 * x16))) F x18_3 (x17 + 1) ((upd vql301 (Int32.toNatClampNeg 0) (x17 + 1)) (Int32.toNatClampNeg 2)) r384 h_384) (va_cwS 4 htw gL_law_L_fits rfl rfl rfl ks_L_fits ⟨Nat.le_of_ble_eq_true rfl, Nat.le_of_ble_eq_true rfl⟩) hK (z_mid (pjQ_1vr cI aa ad (upd vml301 (Int32.toNatClampNeg x17) 0) (upd vrl301 (Int32.toNatClampNeg x17) (x15 + (x14 * x16))) vhl301 vl (upd vql301 (Int32.toNatClampNeg 0) (x17 + 1)) zk zm zb zs zr zu zt zf zg zbd zro zmc zmg zsp zjn (upd vrl301 (Int32.toNatClampNeg x17) (x15 + (x14 * x16)))) hP) rfl hl.1 rfl (Nat.le_of_ble_eq_true rfl) dL_law_384 ⟨Nat.le_trans (show cells + 0 + 0 ≤ cells + 4 by omega) hcc, Nat.le_trans (show slots + 0 + 0 ≤ slots + 24 by omega) hss⟩ ?_
                  refine lv_if_ne (tgt := 394) hx hb dL_law_387 (by decide) (fun c_387 => ?_) (fun c_387 => ?_)
                  · have hm := it_f hm c_387
                    refine lv_iconst (v := 0) hx hb dL_law_394 (by decide) ?_
                    obtain ⟨c_395, hm⟩ := ck hm
                    refine va_iast hx hb hK hP hD hS 2 0 rfl rfl c_395 dL_law_395 (fun H locs hP hD hS => ?_)
                    have hP : va_P (dC, dI) vwCl (wQ cI aa ad (upd vml301 (Int32.toNatClampNeg x17) 0) (upd vrl301 (Int32.toNatClampNeg x17) (x15 + (x14 * x16))) (upd vhl301 (Int32.toNatClampNeg x17) 0) vl (upd vql301 (Int32.toNatClampNeg 0) (x17 + 1)) zk zm zb zs zr zu zt zf zg zbd zro zmc zmg zsp zjn) H := hP
                    have hD : va_D A (wQ cI aa ad (upd vml301 (Int32.toNatClampNeg x17) 0) (upd vrl301 (Int32.toNatClampNeg x17) (x15 + (x14 * x16))) (upd vhl301 (Int32.toNatClampNeg x17) 0) vl (upd vql301 (Int32.toNatClampNeg 0) (x17 + 1)) zk zm zb zs zr zu zt zf zg zbd zro zmc zmg zsp zjn) := hD
                    obtain ⟨x16_2, e_x16_2⟩ : ∃ y : Int32, y = x16 + 1 := ⟨_, rfl⟩
                    have hm := bnd_e hm e_x16_2
                    refine lv_iinc (v := x16_2) (lv' := [(16, .int x16_2), (18, .int x18_3), (17, .int x17), (15, .int x15), (14, .int x14), (13, .int y229), (0, .ref b), (1, .ref (ad 0)), (2, .ref (aa 1)), (3, .ref (aa 0)), (4, .ref (aa 2)), (5, .ref (aa 3)), (6, .ref (aa 4)), (7, .int x7), (8, .int x8), (10, .int x10), (11, .int x11), (12, .int x12)]) hx hb dL_law_396 hl (k := 2) rfl (by rw [e_x16_2]; rfl) (by decide) rfl (fun ls hl => ?_)
                    refine lv_goto (tgt := 301) hx hb dL_law_399 (by decide) ?_
                    exact ih_301 x16_2 (upd vml301 (Int32.toNatClampNeg x17) 0) (upd vrl301 (Int32.toNatClampNeg x17) (x15 + (x14 * x16))) (upd vhl301 (Int32.toNatClampNeg x17) 0) (upd vql301 (Int32.toNatClampNeg 0) (x17 + 1)) hm _ _ hP hD hS _ (lv_sub hl [0, 3, 4, 5, 6, 7, 8, 9, 10, 11, 12, 13, 14, 15, 16, 17] rfl)
                  · have hm := it_t hm c_387
                    refine lv_iconst (v := 1) hx hb dL_law_390 (by decide) ?_
                    refine lv_goto (tgt := 395) hx hb dL_law_391 (by decide) ?_
                    obtain ⟨c_395, hm⟩ := ck hm
                    refine va_iast hx hb hK hP hD hS 2 0 rfl rfl c_395 dL_law_395 (fun H locs hP hD hS => ?_)
                    have hP : va_P (dC, dI) vwCl (wQ cI aa ad (upd vml301 (Int32.toNatClampNeg x17) 0) (upd vrl301 (Int32.toNatClampNeg x17) (x15 + (x14 * x16))) (upd vhl301 (Int32.toNatClampNeg x17) 1) vl (upd vql301 (Int32.toNatClampNeg 0) (x17 + 1)) zk zm zb zs zr zu zt zf zg zbd zro zmc zmg zsp zjn) H := hP
                    have hD : va_D A (wQ cI aa ad (upd vml301 (Int32.toNatClampNeg x17) 0) (upd vrl301 (Int32.toNatClampNeg x17) (x15 + (x14 * x16))) (upd vhl301 (Int32.toNatClampNeg x17) 1) vl (upd vql301 (Int32.toNatClampNeg 0) (x17 + 1)) zk zm zb zs zr zu zt zf zg zbd zro zmc zmg zsp zjn) := hD
                    obtain ⟨x16_3, e_x16_3⟩ : ∃ y : Int32, y = x16 + 1 := ⟨_, rfl⟩
                    have hm := bnd_e hm e_x16_3
                    refine lv_iinc (v := x16_3) (lv' := [(16, .int x16_3), (18, .int x18_3), (17, .int x17), (15, .int x15), (14, .int x14), (13, .int y229), (0, .ref b), (1, .ref (ad 0)), (2, .ref (aa 1)), (3, .ref (aa 0)), (4, .ref (aa 2)), (5, .ref (aa 3)), (6, .ref (aa 4)), (7, .int x7), (8, .int x8), (10, .int x10), (11, .int x11), (12, .int x12)]) hx hb dL_law_396 hl (k := 2) rfl (by rw [e_x16_3]; rfl) (by decide) rfl (fun ls hl => ?_)
                    refine lv_goto (tgt := 301) hx hb dL_law_399 (by decide) ?_
                    exact ih_301 x16_3 (upd vml301 (Int32.toNatClampNeg x17) 0) (upd vrl301 (Int32.toNatClampNeg x17) (x15 + (x14 * x16))) (upd vhl301 (Int32.toNatClampNeg x17) 1) (upd vql301 (Int32.toNatClampNeg 0) (x17 + 1)) hm _ _ hP hD hS _ (lv_sub hl [0, 3, 4, 5, 6, 7, 8, 9, 10, 11, 12, 13, 14, 15, 16, 17] rfl)
              have L_345 : ∀ (n : Nat) (x18_1 : Int32), L_seg209_L345 vhl301 n x18_1 = some z_345 → ∀ (ls : Array Slot), lv_has ls 19 [(18, .int x18_1), (17, .int x17), (16, .int x16), (15, .int x15), (14, .int x14), (13, .int y229), (0, .ref b), (1, .ref (ad 0)), (2, .ref (aa 1)), (3, .ref (aa 0)), (4, .ref (aa 2)), (5, .ref (aa 3)), (6, .ref (aa 4)), (7, .int x7), (8, .int x8), (10, .int x10), (11, .int x11), (12, .int x12)] → W p l e room_1 s m #[Value.ref b] below meth c H locs (cells + 0) (slots + 0) (lw_Z below #[Value.ref b] s) (F0 m 345 ls []) := by
                intro n
                induction n with
                | zero => intro x18_1 hm; cases hm
                | succ n ih_345 =>
                  intro x18_1 hm ls hl
                  refine lv_iload hx hb dL_law_345 (lv_at hl 0 rfl) ?_
                  refine lv_if_le (tgt := 364) hx hb dL_law_347 (by decide) (fun c_347 => ?_) (fun c_347 => ?_)
                  · have hm := it_t hm c_347
                    exact K_345 x18_1 (o2 hm) _ (lv_sub hl [0, 1, 2, 3, 4, 5, 6, 7, 8, 9, 10, 11, 12, 13, 14, 15, 16, 17] rfl)
                  · have hm := it_f hm c_347
                    refine lv_aload hx hb dL_law_350 (lv_at hl 10 rfl) ?_
                    refine lv_iload hx hb dL_law_352 (lv_at hl 0 rfl) ?_
                    obtain ⟨c_354, hm⟩ := ck hm
                    refine va_iald hx hb hK hP 2 0 rfl rfl c_354 dL_law_354 ?_
                    refine lv_if_ne (tgt := 364) hx hb dL_law_355 (by decide) (fun c_355 => ?_) (fun c_355 => ?_)
                    · have hm := it_f hm c_355
                      exact K_345 x18_1 (o2 hm) _ (lv_sub hl [0, 1, 2, 3, 4, 5, 6, 7, 8, 9, 10, 11, 12, 13, 14, 15, 16, 17] rfl)
                    · have hm := it_t hm c_355
                      obtain ⟨x18_2, e_x18_2⟩ : ∃ y : Int32, y = x18_1 + (-1) := ⟨_, rfl⟩
                      have hm := bnd_e hm e_x18_2
                      refine lv_iinc (v := x18_2) (lv' := [(18, .int x18_2), (17, .int x17), (16, .int x16), (15, .int x15), (14, .int x14), (13, .int y229), (0, .ref b), (1, .ref (ad 0)), (2, .ref (aa 1)), (3, .ref (aa 0)), (4, .ref (aa 2)), (5, .ref (aa 3)), (6, .ref (aa 4)), (7, .int x7), (8, .int x8), (10, .int x10), (11, .int x11), (12, .int x12)]) hx hb dL_law_358 hl (k := 0) rfl (by rw [e_x18_2]; rfl) (by decide) rfl (fun ls hl => ?_)
                      refine lv_goto (tgt := 345) hx hb dL_law_361 (by decide) ?_
                      exact ih_345 x18_2 hm _ (lv_sub hl [0, 1, 2, 3, 4, 5, 6, 7, 8, 9, 10, 11, 12, 13, 14, 15, 16, 17] rfl)
              exact L_345 F x18 hq_345 _ (lv_sub hl [0, 1, 2, 3, 4, 5, 6, 7, 8, 9, 10, 11, 12, 13, 14, 15, 16, 17] rfl)
        exact L_301 F 0 vm vr vh vq hq_301 _ _ hP hD hS _ (lv_sub hl [0, 1, 2, 3, 4, 5, 6, 7, 8, 9, 10, 11, 12, 14, 15, 16] rfl)
      · have hm := it_f hm c_292
        refine lv_goto (tgt := 1188) hx hb dL_law_295 (by decide) ?_
        refine W.widen (k := (cells + 4)) (n := (slots + 24)) (by omega) (by omega) ?_
        exact K_1188 vm vr vh vq zk zm zb zs zr zu zt zf zg zbd zro zmc zmg zsp zjn (o2 hm) _ _ hP hD hS _ (lv_sub hl [3, 4, 5, 6, 7, 8, 9, 10] rfl)
    refine lv_if_ne (tgt := 253) hx hb dL_law_246 (by decide) (fun c_246 => ?_) (fun c_246 => ?_)
    · refine lv_bipush (v := 40) hx hb dL_law_253 (by decide) ?_
      have e9 : y255 = 40 := by rw [e_y255, if_neg c_246]
      rw [e9] at J_255
      exact J_255
    · refine lv_iconst (v := 3) hx hb dL_law_249 (by decide) ?_
      refine lv_goto (tgt := 255) hx hb dL_law_250 (by decide) ?_
      have e9 : y255 = 3 := by rw [e_y255, if_pos c_246]
      rw [e9] at J_255
      exact J_255
  have hm := hq_229
  refine lv_if_ne (tgt := 218) hx hb dL_law_211 (by decide) (fun c_211 => ?_) (fun c_211 => ?_)
  · have hm := it_f hm c_211
    refine lv_iconst (v := 1) hx hb dL_law_218 (by decide) ?_
    refine lv_iload hx hb dL_law_219 (lv_at hl 8 rfl) ?_
    refine lv_iconst (v := 4) hx hb dL_law_221 (by decide) ?_
    refine lv_ishr hx hb dL_law_222 ?_
    refine lv_bipush (v := 10) hx hb dL_law_223 (by decide) ?_
    obtain ⟨r225, h_225, hm⟩ := ob hm
    refine z_callSi (As := [.int (x8 >>> (4 &&& 31)), .int 10]) (rest := [.int 1]) ⟨hx, hb, hml, hown, htw⟩ (c_L_low l dC dI F (x8 >>> (4 &&& 31)) 10 r225 h_225) (va_cwS 2 htw gL_law_L_low rfl rfl rfl ks_L_low ⟨Nat.le_of_ble_eq_true rfl, Nat.le_of_ble_eq_true rfl⟩) (hK.sub (tys' := []) [] rfl) z_P0 rfl hl.1 rfl (Nat.le_of_ble_eq_true rfl) dL_law_225 ⟨Nat.le_trans (show cells + 0 + 0 ≤ cells + 4 by omega) hcc, Nat.le_trans (show slots + 0 + 0 ≤ slots + 24 by omega) hss⟩ ?_
    refine lv_iadd hx hb dL_law_228 ?_
    exact J_229 (1 + r225) (o2 hm)
  · have hm := it_t hm c_211
    refine lv_iconst (v := 1) hx hb dL_law_214 (by decide) ?_
    refine lv_goto (tgt := 229) hx hb dL_law_215 (by decide) ?_
    exact J_229 1 (o2 hm)
