set_option maxHeartbeats 8000000 in
set_option maxRecDepth 100000 in
theorem s_L_seg473 {p : Program} {l : Launch} {e : Env} {s : State} {m : MethodId} {below : List Frame} {meth : Method} {c : Code} {b L : Nat} {xs : Nat → Int32} (C0 : lw_At p s m meth c b L xs) (hl9 : l.stackTraces = false) {dC : Nat → ClassId} {dI : Nat → Nat → Nat} (cI : ClassId) (aa : Nat → Nat) (ad : Nat → Nat) {sa : Nat → Nat} {A : Nat → Prop} (hA : ∀ q : Nat, s.heap.size ≤ q → A q) (hK : va_K (dC, dI) vwCl [(cI, .int)] s) (hV : zV sa A s s.heap) (hNc : zNcs s) (vm : Nat → Int32) (vr : Nat → Int32) (vh : Nat → Int32) (vl : Nat → Int32) (vq : Nat → Int32) (zk : zN) (zm : zN) (zb : zN) (zs : zN) (zr : zN) (zu : zN) (zt : zT) (zf : zN) (zg : zN) (zbd : Int32) (zro : Int32) (zmc : Int32) (zmg : Int32) (zsp : Int32) (zjn : Int32) (F : Nat) (x7 : Int32) (x8 : Int32) (x9 : Int32) (x10 : Int32) (x11 : Int32) (x12 : Int32) (z : Int32 ⊕ ((Nat → Int32) × (Nat → Int32) × (Nat → Int32) × (Nat → Int32) × (Nat → Int32) × zN × zN × zN × zN × zN × zN × zT × zN × zN × Int32 × Int32 × Int32 × Int32 × Int32 × Int32) ⊕ ((Nat → Int32) × (Nat → Int32) × (Nat → Int32) × (Nat → Int32) × (Nat → Int32) × zN × zN × zN × zN × zN × zN × zT × zN × zN × Int32 × Int32 × Int32 × Int32 × Int32 × Int32)) (hm : L_seg473 F vm vr vh vl vq zk zm zb zs zr zu zt zf zg zbd zro zmc zmg zsp zjn x12 = some z) (hz : ∀ v, z ≠ Sum.inl v) {cells slots : Nat} (hcc : cells + 2 ≤ room_1.cells) (hss : slots + 128 ≤ room_1.slots) {H : Heap} {locs : List Loc} {ls : Array Slot} (hP : va_P (dC, dI) vwCl (wQ cI aa ad vm vr vh vl vq zk zm zb zs zr zu zt zf zg zbd zro zmc zmg zsp zjn) H) (hD : va_D A (wQ cI aa ad vm vr vh vl vq zk zm zb zs zr zu zt zf zg zbd zro zmc zmg zsp zjn)) (hS : va_S A s.heap H locs) (hl : lv_has ls 19 [(0, .ref b), (1, .ref (ad 0)), (2, .ref (aa 1)), (3, .ref (aa 0)), (4, .ref (aa 2)), (5, .ref (aa 3)), (6, .ref (aa 4)), (7, .int x7), (8, .int x8), (9, .int x9), (10, .int x10), (11, .int x11), (12, .int x12)]) (K_1028 : ∀ (u_vm : Nat → Int32), ∀ (u_vr : Nat → Int32), ∀ (u_vh : Nat → Int32), ∀ (u_vl : Nat → Int32), ∀ (u_vq : Nat → Int32), ∀ (u_zk : zN), ∀ (u_zm : zN), ∀ (u_zb : zN), ∀ (u_zs : zN), ∀ (u_zr : zN), ∀ (u_zu : zN), ∀ (u_zt : zT), ∀ (u_zf : zN), ∀ (u_zg : zN), ∀ (u_zbd : Int32), ∀ (u_zro : Int32), ∀ (u_zmc : Int32), ∀ (u_zmg : Int32), ∀ (u_zsp : Int32), ∀ (u_zjn : Int32), z = Sum.inr (Sum.inl (u_vm, u_vr, u_vh, u_vl, u_vq, u_zk, u_zm, u_zb, u_zs, u_zr, u_zu, u_zt, u_zf, u_zg, u_zbd, u_zro, u_zmc, u_zmg, u_zsp, u_zjn)) → ∀ (H : Heap) (locs : List Loc), va_P (dC, dI) vwCl (wQ cI aa ad u_vm u_vr u_vh u_vl u_vq u_zk u_zm u_zb u_zs u_zr u_zu u_zt u_zf u_zg u_zbd u_zro u_zmc u_zmg u_zsp u_zjn) H → va_D A (wQ cI aa ad u_vm u_vr u_vh u_vl u_vq u_zk u_zm u_zb u_zs u_zr u_zu u_zt u_zf u_zg u_zbd u_zro u_zmc u_zmg u_zsp u_zjn) → va_S A s.heap H locs → ∀ (ls : Array Slot), lv_has ls 19 [(0, .ref b), (1, .ref (ad 0)), (2, .ref (aa 1)), (3, .ref (aa 0)), (4, .ref (aa 2)), (5, .ref (aa 3)), (6, .ref (aa 4)), (7, .int x7), (8, .int x8), (11, .int x11), (12, .int x12)] → W p l e room_1 s m #[Value.ref b] below meth c H locs (cells + 2) (slots + 128) (lw_Z below #[Value.ref b] s) (F0 m 1028 ls [])) (K_1188 : ∀ (u_vm : Nat → Int32), ∀ (u_vr : Nat → Int32), ∀ (u_vh : Nat → Int32), ∀ (u_vl : Nat → Int32), ∀ (u_vq : Nat → Int32), ∀ (u_zk : zN), ∀ (u_zm : zN), ∀ (u_zb : zN), ∀ (u_zs : zN), ∀ (u_zr : zN), ∀ (u_zu : zN), ∀ (u_zt : zT), ∀ (u_zf : zN), ∀ (u_zg : zN), ∀ (u_zbd : Int32), ∀ (u_zro : Int32), ∀ (u_zmc : Int32), ∀ (u_zmg : Int32), ∀ (u_zsp : Int32), ∀ (u_zjn : Int32), z = Sum.inr (Sum.inr (u_vm, u_vr, u_vh, u_vl, u_vq, u_zk, u_zm, u_zb, u_zs, u_zr, u_zu, u_zt, u_zf, u_zg, u_zbd, u_zro, u_zmc, u_zmg, u_zsp, u_zjn)) → ∀ (H : Heap) (locs : List Loc), va_P (dC, dI) vwCl (wQ cI aa ad u_vm u_vr u_vh u_vl u_vq u_zk u_zm u_zb u_zs u_zr u_zu u_zt u_zf u_zg u_zbd u_zro u_zmc u_zmg u_zsp u_zjn) H → va_D A (wQ cI aa ad u_vm u_vr u_vh u_vl u_vq u_zk u_zm u_zb u_zs u_zr u_zu u_zt u_zf u_zg u_zbd u_zro u_zmc u_zmg u_zsp u_zjn) → va_S A s.heap H locs → ∀ (ls : Array Slot), lv_has ls 19 [(0, .ref b), (1, .ref (ad 0)), (2, .ref (aa 1)), (3, .ref (aa 0)), (4, .ref (aa 2)), (5, .ref (aa 3)), (6, .ref (aa 4)), (7, .int x7)] → W p l e room_1 s m #[Value.ref b] below meth c H locs (cells + 2) (slots + 128) (lw_Z below #[Value.ref b] s) (F0 m 1188 ls [])) : W p l e room_1 s m #[Value.ref b] below meth c H locs (cells + 0) (slots + 0) (lw_Z below #[Value.ref b] s) (F0 m 473 ls []) := by
  obtain ⟨hx, hb, hr, hml, hown, hts, hX, hbl, hlocks, hgv⟩ := id C0
  have hown : s.vm.findClass RL = some m.cls := hown
  have htw : ∀ w ∈ wsL_law, w.before #[Value.ref b] s = true := fun w h => hts w (wsL_law_in w h)
  refine lv_aload_n hx hb dL_law_473 rfl (lv_at hl 2 rfl) ?_
  refine lv_aload hx hb dL_law_474 (lv_at hl 6 rfl) ?_
  refine lv_iconst (v := 0) hx hb dL_law_476 (by decide) ?_
  obtain ⟨c_477, hm⟩ := ck hm
  refine va_iald hx hb hK hP 4 0 rfl rfl c_477 dL_law_477 ?_
  refine lv_iload hx hb dL_law_478 (lv_at hl 12 rfl) ?_
  obtain ⟨r480, h_480, hm⟩ := ob hm
  refine z_callSi (As := [.ref (aa 1), .int (vq (Int32.toNatClampNeg 0)), .int x12]) (rest := []) ⟨hx, hb, hml, hown, htw⟩ (c_L_find l dC dI cI (aa 1) 64 vr F (vq (Int32.toNatClampNeg 0)) x12 r480 h_480) (va_cwS 3 htw gL_law_L_find rfl rfl rfl ks_L_find ⟨Nat.le_of_ble_eq_true rfl, Nat.le_of_ble_eq_true rfl⟩) hK (z_mid (pjQ_1vr cI aa ad vm vr vh vl vq zk zm zb zs zr zu zt zf zg zbd zro zmc zmg zsp zjn vr) hP) rfl hl.1 rfl (Nat.le_of_ble_eq_true rfl) dL_law_480 ⟨Nat.le_trans (show cells + 0 + 0 ≤ cells + 2 by omega) hcc, Nat.le_trans (show slots + 0 + 0 ≤ slots + 128 by omega) hss⟩ ?_
  refine lv_istore (lv' := [(13, .int r480), (0, .ref b), (1, .ref (ad 0)), (2, .ref (aa 1)), (3, .ref (aa 0)), (4, .ref (aa 2)), (5, .ref (aa 3)), (6, .ref (aa 4)), (7, .int x7), (8, .int x8), (9, .int x9), (10, .int x10), (11, .int x11), (12, .int x12)]) hx hb dL_law_483 hl (by decide) rfl (fun ls hl => ?_)
  refine lv_iload hx hb dL_law_485 (lv_at hl 0 rfl) ?_
  refine lv_if_lt (tgt := 497) hx hb dL_law_487 (by decide) (fun c_487 => ?_) (fun c_487 => ?_)
  · have hm := it_t hm c_487
    refine lv_aload hx hb dL_law_497 (lv_at hl 6 rfl) ?_
    refine lv_aload hx hb dL_law_499 (lv_at hl 7 rfl) ?_
    refine lv_iconst (v := 1) hx hb dL_law_501 (by decide) ?_
    obtain ⟨c_502, hm⟩ := ck hm
    refine va_iald hx hb hK hP 4 0 rfl rfl c_502 dL_law_502 ?_
    refine lv_iload hx hb dL_law_503 (lv_at hl 13 rfl) ?_
    obtain ⟨r505, h_505, hm⟩ := ob hm
    refine z_callSi (As := [.ref (aa 3), .int (vq (Int32.toNatClampNeg 1)), .int x12]) (rest := []) ⟨hx, hb, hml, hown, htw⟩ (c_L_find l dC dI cI (aa 3) 16 vl F (vq (Int32.toNatClampNeg 1)) x12 r505 h_505) (va_cwS 3 htw gL_law_L_find rfl rfl rfl ks_L_find ⟨Nat.le_of_ble_eq_true rfl, Nat.le_of_ble_eq_true rfl⟩) hK (z_mid (pjQ_1vl cI aa ad vm vr vh vl vq zk zm zb zs zr zu zt zf zg zbd zro zmc zmg zsp zjn vl) hP) rfl hl.1 rfl (Nat.le_of_ble_eq_true rfl) dL_law_505 ⟨Nat.le_trans (show cells + 0 + 0 ≤ cells + 2 by omega) hcc, Nat.le_trans (show slots + 0 + 0 ≤ slots + 128 by omega) hss⟩ ?_
    refine lv_if_lt (tgt := 525) hx hb dL_law_508 (by decide) (fun c_508 => ?_) (fun c_508 => ?_)
    · have hm := it_t hm c_508
      refine lv_iload hx hb dL_law_525 (lv_at hl 0 rfl) ?_
      refine lv_if_ge (tgt := 547) hx hb dL_law_527 (by decide) (fun c_527 => ?_) (fun c_527 => ?_)
      · have hm := it_t hm c_527
        refine lv_iload hx hb dL_law_547 (lv_at hl 0 rfl) ?_
        obtain ⟨z_577, hq_577, hm⟩ := ob hm
        have J_577 : ∀ (vmj577 : Nat → Int32), ∀ (vlj577 : Nat → Int32), ∀ (vqj577 : Nat → Int32), z_577 = (vmj577, vlj577, vqj577) → ∀ (H : Heap) (locs : List Loc), va_P (dC, dI) vwCl (wQ cI aa ad vmj577 vr vh vlj577 vqj577 zk zm zb zs zr zu zt zf zg zbd zro zmc zmg zsp zjn) H → va_D A (wQ cI aa ad vmj577 vr vh vlj577 vqj577 zk zm zb zs zr zu zt zf zg zbd zro zmc zmg zsp zjn) → va_S A s.heap H locs → W p l e room_1 s m #[Value.ref b] below meth c H locs (cells + 0) (slots + 0) (lw_Z below #[Value.ref b] s) (F0 m 577 ls []) := by
          intro vmj577 vlj577 vqj577 ez H locs hP hD hS
          rw [ez] at hm
          refine lv_aload hx hb dL_law_577 (lv_at hl 7 rfl) ?_
          refine lv_iconst (v := 1) hx hb dL_law_579 (by decide) ?_
          obtain ⟨c_580, hm⟩ := ck hm
          refine va_iald hx hb hK hP 4 0 rfl rfl c_580 dL_law_580 ?_
          refine lv_aload hx hb dL_law_581 (lv_at hl 7 rfl) ?_
          refine lv_iconst (v := 3) hx hb dL_law_583 (by decide) ?_
          obtain ⟨c_584, hm⟩ := ck hm
          refine va_iald hx hb hK hP 4 0 rfl rfl c_584 dL_law_584 ?_
          obtain ⟨z_599, hq_599, hm⟩ := ob hm
          have J_599 : ∀ (vmj599 : Nat → Int32), ∀ (vrj599 : Nat → Int32), ∀ (vhj599 : Nat → Int32), ∀ (vqj599 : Nat → Int32), z_599 = (vmj599, vrj599, vhj599, vqj599) → ∀ (H : Heap) (locs : List Loc), va_P (dC, dI) vwCl (wQ cI aa ad vmj599 vrj599 vhj599 vlj577 vqj599 zk zm zb zs zr zu zt zf zg zbd zro zmc zmg zsp zjn) H → va_D A (wQ cI aa ad vmj599 vrj599 vhj599 vlj577 vqj599 zk zm zb zs zr zu zt zf zg zbd zro zmc zmg zsp zjn) → va_S A s.heap H locs → W p l e room_1 s m #[Value.ref b] below meth c H locs (cells + 2) (slots + 128) (lw_Z below #[Value.ref b] s) (F0 m 599 ls []) := by
            intro vmj599 vrj599 vhj599 vqj599 ez H locs hP hD hS
            rw [ez] at hm
            refine lv_aload_n hx hb dL_law_599 rfl (lv_at hl 2 rfl) ?_
            refine lv_iload hx hb dL_law_600 (lv_at hl 13 rfl) ?_
            obtain ⟨⟨r602, zk602, zm602, zb602, zs602, zr602, zu602, zt602, zf602, zg602, zmc602, zmg602, zsp602, zjn602⟩, h_602, hm⟩ := ob hm
            have h_602 := nz_e h_602
            refine z_callWi (wc := (wL cI ad zk zm zb zs zr zu zt zf zg zbd zro zmc zmg zsp zjn)) (w1 := (wL cI ad zk602 zm602 zb602 zs602 zr602 zu602 zt602 zf602 zg602 zbd zro zmc602 zmg602 zsp602 zjn602)) (ws := (wQ cI aa ad vmj599 vrj599 vhj599 vlj577 vqj599 zk zm zb zs zr zu zt zf zg zbd zro zmc zmg zsp zjn)) (ws' := (wQ cI aa ad vmj599 vrj599 vhj599 vlj577 vqj599 zk602 zm602 zb602 zs602 zr602 zu602 zt602 zf602 zg602 zbd zro zmc602 zmg602 zsp602 zjn602)) (As := [.int x12]) (rest := []) (ci := 2) (q := (RX2, TX2, 15)) ⟨hx, hb, hml, hown, htw⟩ (n_X2_insert l dC dI cI ad zk zm zb zs zr zu zt zf zg zbd zro zmc zmg zsp zjn F x12 H.size r602 zk602 zm602 zb602 zs602 zr602 zu602 zt602 zf602 zg602 zmc602 zmg602 zsp602 zjn602 h_602) (cwV 1 htw gL_law_X2_insert rfl rfl rfl kv_X2_insert ⟨Nat.le_of_ble_eq_true rfl, Nat.le_of_ble_eq_true rfl⟩) hK hP hD hS hA (pjQ_L cI aa ad vmj599 vrj599 vhj599 vlj577 vqj599 zk zm zb zs zr zu zt zf zg zbd zro zmc zmg zsp zjn zk602 zm602 zb602 zs602 zr602 zu602 zt602 zf602 zg602 zbd zro zmc602 zmg602 zsp602 zjn602) ((paL cI ad zk602 zm602 zb602 zs602 zr602 zu602 zt602 zf602 zg602 zbd zro zmc602 zmg602 zsp602 zjn602).trans (paL cI ad zk zm zb zs zr zu zt zf zg zbd zro zmc zmg zsp zjn).symm) rfl rfl rfl rfl hl.1 rfl (Nat.le_of_ble_eq_true rfl) dL_law_602 ⟨Nat.le_trans (show cells + 2 + 0 ≤ cells + 2 by omega) hcc, Nat.le_trans (show slots + 128 + 0 ≤ slots + 128 by omega) hss⟩ (fun H locs hP hD hS => ?_)
            refine lv_aload hx hb dL_law_605 (lv_at hl 7 rfl) ?_
            refine lv_iconst (v := 1) hx hb dL_law_607 (by decide) ?_
            obtain ⟨c_608, hm⟩ := ck hm
            refine va_iald hx hb hK hP 4 0 rfl rfl c_608 dL_law_608 ?_
            refine lv_icmp_eq (tgt := 614) hx hb dL_law_609 (by decide) (fun c_609 => ?_) (fun c_609 => ?_)
            · have hm := it_t hm c_609
              refine lv_goto (tgt := 1028) hx hb dL_law_614 (by decide) ?_
              exact K_1028 vmj599 vrj599 vhj599 vlj577 vqj599 zk602 zm602 zb602 zs602 zr602 zu602 zt602 zf602 zg602 zbd zro zmc602 zmg602 zsp602 zjn602 (o2 hm) _ _ hP hD hS _ (lv_sub hl [1, 2, 3, 4, 5, 6, 7, 8, 9, 12, 13] rfl)
            · have hm := it_f hm c_609
              refine lv_iconst (v := 0) hx hb dL_law_612 (by decide) ?_
              exact absurd (o2 hm) (hz _)
          have hm := hq_599
          refine lv_icmp_ne (tgt := 599) hx hb dL_law_585 (by decide) (fun c_585 => ?_) (fun c_585 => ?_)
          · have hm := it_f hm c_585
            refine W.widen (k := (cells + 2)) (n := (slots + 128)) (by omega) (by omega) ?_
            exact J_599 vmj577 vr vh vqj577 (o2 hm) _ _ hP hD hS
          · have hm := it_t hm c_585
            refine lv_aload_n hx hb dL_law_588 rfl (lv_at hl 3 rfl) ?_
            refine lv_aload_n hx hb dL_law_589 rfl (lv_at hl 4 rfl) ?_
            refine lv_aload hx hb dL_law_590 (lv_at hl 5 rfl) ?_
            refine lv_aload hx hb dL_law_592 (lv_at hl 6 rfl) ?_
            refine lv_aload hx hb dL_law_594 (lv_at hl 7 rfl) ?_
            obtain ⟨⟨vm596, vr596, vh596, vq596⟩, h_596, hm⟩ := ob hm
            refine z_callSWv (wc := (w5 cI aa vmj577 vr vh vlj577 vqj577)) (w1 := (w5 cI aa vm596 vr596 vh596 vlj577 vq596)) (ws := (wQ cI aa ad vmj577 vr vh vlj577 vqj577 zk zm zb zs zr zu zt zf zg zbd zro zmc zmg zsp zjn)) (ws' := (wQ cI aa ad vm596 vr596 vh596 vlj577 vq596 zk zm zb zs zr zu zt zf zg zbd zro zmc zmg zsp zjn)) (As := [.ref (aa 1), .ref (aa 0), .ref (aa 2), .ref (aa 3), .ref (aa 4)]) (rest := []) ⟨hx, hb, hml, hown, htw⟩ (c_L_merge l dC dI cI aa vmj577 vr vh vlj577 vqj577 F H.size vm596 vr596 vh596 vq596 h_596) (va_cwS 5 htw gL_law_L_merge rfl rfl rfl ks_L_merge ⟨Nat.le_of_ble_eq_true rfl, Nat.le_of_ble_eq_true rfl⟩) hK hP hD hS hA (pjQ_5 cI aa ad vmj577 vr vh vlj577 vqj577 zk zm zb zs zr zu zt zf zg zbd zro zmc zmg zsp zjn vm596 vr596 vh596 vlj577 vq596) ((pa5 cI aa vm596 vr596 vh596 vlj577 vq596).trans (pa5 cI aa vmj577 vr vh vlj577 vqj577).symm) rfl hl.1 rfl (Nat.le_of_ble_eq_true rfl) dL_law_596 ⟨Nat.le_trans (show cells + 0 + 2 ≤ cells + 2 by omega) hcc, Nat.le_trans (show slots + 0 + 128 ≤ slots + 128 by omega) hss⟩ (fun H locs hP hD hS => ?_)
            exact J_599 vm596 vr596 vh596 vq596 (o2 hm) _ _ hP hD hS
        have hm := hq_577
        refine lv_if_lt (tgt := 560) hx hb dL_law_549 (by decide) (fun c_549 => ?_) (fun c_549 => ?_)
        · have hm := it_t hm c_549
          refine lv_aload hx hb dL_law_560 (lv_at hl 6 rfl) ?_
          refine lv_aload hx hb dL_law_562 (lv_at hl 7 rfl) ?_
          refine lv_iconst (v := 1) hx hb dL_law_564 (by decide) ?_
          obtain ⟨c_565, hm⟩ := ck hm
          refine va_iald hx hb hK hP 4 0 rfl rfl c_565 dL_law_565 ?_
          refine lv_iload hx hb dL_law_566 (lv_at hl 13 rfl) ?_
          obtain ⟨c_568, hm⟩ := ck hm
          refine va_iast hx hb hK hP hD hS 3 0 rfl rfl c_568 dL_law_568 (fun H locs hP hD hS => ?_)
          have hP : va_P (dC, dI) vwCl (wQ cI aa ad vm vr vh (upd vl (Int32.toNatClampNeg (vq (Int32.toNatClampNeg 1))) x12) vq zk zm zb zs zr zu zt zf zg zbd zro zmc zmg zsp zjn) H := hP
          have hD : va_D A (wQ cI aa ad vm vr vh (upd vl (Int32.toNatClampNeg (vq (Int32.toNatClampNeg 1))) x12) vq zk zm zb zs zr zu zt zf zg zbd zro zmc zmg zsp zjn) := hD
          refine lv_aload hx hb dL_law_569 (lv_at hl 7 rfl) ?_
          refine lv_iconst (v := 1) hx hb dL_law_571 (by decide) ?_
          refine lv_dup2_11 hx hb dL_law_572 rfl rfl ?_
          obtain ⟨c_573, hm⟩ := ck hm
          refine va_iald hx hb hK hP 4 0 rfl rfl c_573 dL_law_573 ?_
          refine lv_iconst (v := 1) hx hb dL_law_574 (by decide) ?_
          refine lv_iadd hx hb dL_law_575 ?_
          obtain ⟨c_576, hm⟩ := ck hm
          refine va_iast hx hb hK hP hD hS 4 0 rfl rfl c_576 dL_law_576 (fun H locs hP hD hS => ?_)
          have hP : va_P (dC, dI) vwCl (wQ cI aa ad vm vr vh (upd vl (Int32.toNatClampNeg (vq (Int32.toNatClampNeg 1))) x12) (upd vq (Int32.toNatClampNeg 1) ((vq (Int32.toNatClampNeg 1)) + 1)) zk zm zb zs zr zu zt zf zg zbd zro zmc zmg zsp zjn) H := hP
          have hD : va_D A (wQ cI aa ad vm vr vh (upd vl (Int32.toNatClampNeg (vq (Int32.toNatClampNeg 1))) x12) (upd vq (Int32.toNatClampNeg 1) ((vq (Int32.toNatClampNeg 1)) + 1)) zk zm zb zs zr zu zt zf zg zbd zro zmc zmg zsp zjn) := hD
          exact J_577 vm (upd vl (Int32.toNatClampNeg (vq (Int32.toNatClampNeg 1))) x12) (upd vq (Int32.toNatClampNeg 1) ((vq (Int32.toNatClampNeg 1)) + 1)) (o2 hm) _ _ hP hD hS
        · have hm := it_f hm c_549
          refine lv_aload_n hx hb dL_law_552 rfl (lv_at hl 4 rfl) ?_
          refine lv_iload hx hb dL_law_553 (lv_at hl 0 rfl) ?_
          refine lv_iconst (v := 0) hx hb dL_law_555 (by decide) ?_
          obtain ⟨c_556, hm⟩ := ck hm
          refine va_iast hx hb hK hP hD hS 0 0 rfl rfl c_556 dL_law_556 (fun H locs hP hD hS => ?_)
          have hP : va_P (dC, dI) vwCl (wQ cI aa ad (upd vm (Int32.toNatClampNeg r480) 0) vr vh vl vq zk zm zb zs zr zu zt zf zg zbd zro zmc zmg zsp zjn) H := hP
          have hD : va_D A (wQ cI aa ad (upd vm (Int32.toNatClampNeg r480) 0) vr vh vl vq zk zm zb zs zr zu zt zf zg zbd zro zmc zmg zsp zjn) := hD
          refine lv_goto (tgt := 577) hx hb dL_law_557 (by decide) ?_
          exact J_577 (upd vm (Int32.toNatClampNeg r480) 0) vl vq (o2 hm) _ _ hP hD hS
      · have hm := it_f hm c_527
        refine lv_aload hx hb dL_law_530 (lv_at hl 7 rfl) ?_
        refine lv_iconst (v := 0) hx hb dL_law_532 (by decide) ?_
        obtain ⟨c_533, hm⟩ := ck hm
        refine va_iald hx hb hK hP 4 0 rfl rfl c_533 dL_law_533 ?_
        refine lv_aload hx hb dL_law_534 (lv_at hl 7 rfl) ?_
        refine lv_iconst (v := 1) hx hb dL_law_536 (by decide) ?_
        obtain ⟨c_537, hm⟩ := ck hm
        refine va_iald hx hb hK hP 4 0 rfl rfl c_537 dL_law_537 ?_
        refine lv_iadd hx hb dL_law_538 ?_
        refine lv_bipush (v := 60) hx hb dL_law_539 (by decide) ?_
        refine lv_icmp_ne (tgt := 547) hx hb dL_law_541 (by decide) (fun c_541 => ?_) (fun c_541 => ?_)
        · have hm := it_f hm c_541
          refine lv_iload hx hb dL_law_547 (lv_at hl 0 rfl) ?_
          obtain ⟨z_577, hq_577, hm⟩ := ob hm
          have J_577 : ∀ (vmj577_1 : Nat → Int32), ∀ (vlj577_1 : Nat → Int32), ∀ (vqj577_1 : Nat → Int32), z_577 = (vmj577_1, vlj577_1, vqj577_1) → ∀ (H : Heap) (locs : List Loc), va_P (dC, dI) vwCl (wQ cI aa ad vmj577_1 vr vh vlj577_1 vqj577_1 zk zm zb zs zr zu zt zf zg zbd zro zmc zmg zsp zjn) H → va_D A (wQ cI aa ad vmj577_1 vr vh vlj577_1 vqj577_1 zk zm zb zs zr zu zt zf zg zbd zro zmc zmg zsp zjn) → va_S A s.heap H locs → W p l e room_1 s m #[Value.ref b] below meth c H locs (cells + 0) (slots + 0) (lw_Z below #[Value.ref b] s) (F0 m 577 ls []) := by
            intro vmj577_1 vlj577_1 vqj577_1 ez H locs hP hD hS
            rw [ez] at hm
            refine lv_aload hx hb dL_law_577 (lv_at hl 7 rfl) ?_
            refine lv_iconst (v := 1) hx hb dL_law_579 (by decide) ?_
            obtain ⟨c_580, hm⟩ := ck hm
            refine va_iald hx hb hK hP 4 0 rfl rfl c_580 dL_law_580 ?_
            refine lv_aload hx hb dL_law_581 (lv_at hl 7 rfl) ?_
            refine lv_iconst (v := 3) hx hb dL_law_583 (by decide) ?_
            obtain ⟨c_584, hm⟩ := ck hm
            refine va_iald hx hb hK hP 4 0 rfl rfl c_584 dL_law_584 ?_
            obtain ⟨z_599, hq_599, hm⟩ := ob hm
            have J_599 : ∀ (vmj599_1 : Nat → Int32), ∀ (vrj599_1 : Nat → Int32), ∀ (vhj599_1 : Nat → Int32), ∀ (vqj599_1 : Nat → Int32), z_599 = (vmj599_1, vrj599_1, vhj599_1, vqj599_1) → ∀ (H : Heap) (locs : List Loc), va_P (dC, dI) vwCl (wQ cI aa ad vmj599_1 vrj599_1 vhj599_1 vlj577_1 vqj599_1 zk zm zb zs zr zu zt zf zg zbd zro zmc zmg zsp zjn) H → va_D A (wQ cI aa ad vmj599_1 vrj599_1 vhj599_1 vlj577_1 vqj599_1 zk zm zb zs zr zu zt zf zg zbd zro zmc zmg zsp zjn) → va_S A s.heap H locs → W p l e room_1 s m #[Value.ref b] below meth c H locs (cells + 2) (slots + 128) (lw_Z below #[Value.ref b] s) (F0 m 599 ls []) := by
              intro vmj599_1 vrj599_1 vhj599_1 vqj599_1 ez H locs hP hD hS
              rw [ez] at hm
              refine lv_aload_n hx hb dL_law_599 rfl (lv_at hl 2 rfl) ?_
              refine lv_iload hx hb dL_law_600 (lv_at hl 13 rfl) ?_
              obtain ⟨⟨r602_1, zk602_1, zm602_1, zb602_1, zs602_1, zr602_1, zu602_1, zt602_1, zf602_1, zg602_1, zmc602_1, zmg602_1, zsp602_1, zjn602_1⟩, h_602, hm⟩ := ob hm
              have h_602 := nz_e h_602
              refine z_callWi (wc := (wL cI ad zk zm zb zs zr zu zt zf zg zbd zro zmc zmg zsp zjn)) (w1 := (wL cI ad zk602_1 zm602_1 zb602_1 zs602_1 zr602_1 zu602_1 zt602_1 zf602_1 zg602_1 zbd zro zmc602_1 zmg602_1 zsp602_1 zjn602_1)) (ws := (wQ cI aa ad vmj599_1 vrj599_1 vhj599_1 vlj577_1 vqj599_1 zk zm zb zs zr zu zt zf zg zbd zro zmc zmg zsp zjn)) (ws' := (wQ cI aa ad vmj599_1 vrj599_1 vhj599_1 vlj577_1 vqj599_1 zk602_1 zm602_1 zb602_1 zs602_1 zr602_1 zu602_1 zt602_1 zf602_1 zg602_1 zbd zro zmc602_1 zmg602_1 zsp602_1 zjn602_1)) (As := [.int x12]) (rest := []) (ci := 2) (q := (RX2, TX2, 15)) ⟨hx, hb, hml, hown, htw⟩ (n_X2_insert l dC dI cI ad zk zm zb zs zr zu zt zf zg zbd zro zmc zmg zsp zjn F x12 H.size r602_1 zk602_1 zm602_1 zb602_1 zs602_1 zr602_1 zu602_1 zt602_1 zf602_1 zg602_1 zmc602_1 zmg602_1 zsp602_1 zjn602_1 h_602) (cwV 1 htw gL_law_X2_insert rfl rfl rfl kv_X2_insert ⟨Nat.le_of_ble_eq_true rfl, Nat.le_of_ble_eq_true rfl⟩) hK hP hD hS hA (pjQ_L cI aa ad vmj599_1 vrj599_1 vhj599_1 vlj577_1 vqj599_1 zk zm zb zs zr zu zt zf zg zbd zro zmc zmg zsp zjn zk602_1 zm602_1 zb602_1 zs602_1 zr602_1 zu602_1 zt602_1 zf602_1 zg602_1 zbd zro zmc602_1 zmg602_1 zsp602_1 zjn602_1) ((paL cI ad zk602_1 zm602_1 zb602_1 zs602_1 zr602_1 zu602_1 zt602_1 zf602_1 zg602_1 zbd zro zmc602_1 zmg602_1 zsp602_1 zjn602_1).trans (paL cI ad zk zm zb zs zr zu zt zf zg zbd zro zmc zmg zsp zjn).symm) rfl rfl rfl rfl hl.1 rfl (Nat.le_of_ble_eq_true rfl) dL_law_602 ⟨Nat.le_trans (show cells + 2 + 0 ≤ cells + 2 by omega) hcc, Nat.le_trans (show slots + 128 + 0 ≤ slots + 128 by omega) hss⟩ (fun H locs hP hD hS => ?_)
              refine lv_aload hx hb dL_law_605 (lv_at hl 7 rfl) ?_
              refine lv_iconst (v := 1) hx hb dL_law_607 (by decide) ?_
              obtain ⟨c_608, hm⟩ := ck hm
              refine va_iald hx hb hK hP 4 0 rfl rfl c_608 dL_law_608 ?_
              refine lv_icmp_eq (tgt := 614) hx hb dL_law_609 (by decide) (fun c_609 => ?_) (fun c_609 => ?_)
              · have hm := it_t hm c_609
                refine lv_goto (tgt := 1028) hx hb dL_law_614 (by decide) ?_
                exact K_1028 vmj599_1 vrj599_1 vhj599_1 vlj577_1 vqj599_1 zk602_1 zm602_1 zb602_1 zs602_1 zr602_1 zu602_1 zt602_1 zf602_1 zg602_1 zbd zro zmc602_1 zmg602_1 zsp602_1 zjn602_1 (o2 hm) _ _ hP hD hS _ (lv_sub hl [1, 2, 3, 4, 5, 6, 7, 8, 9, 12, 13] rfl)
              · have hm := it_f hm c_609
                refine lv_iconst (v := 0) hx hb dL_law_612 (by decide) ?_
                exact absurd (o2 hm) (hz _)
            have hm := hq_599
            refine lv_icmp_ne (tgt := 599) hx hb dL_law_585 (by decide) (fun c_585 => ?_) (fun c_585 => ?_)
            · have hm := it_f hm c_585
              refine W.widen (k := (cells + 2)) (n := (slots + 128)) (by omega) (by omega) ?_
              exact J_599 vmj577_1 vr vh vqj577_1 (o2 hm) _ _ hP hD hS
            · have hm := it_t hm c_585
              refine lv_aload_n hx hb dL_law_588 rfl (lv_at hl 3 rfl) ?_
              refine lv_aload_n hx hb dL_law_589 rfl (lv_at hl 4 rfl) ?_
              refine lv_aload hx hb dL_law_590 (lv_at hl 5 rfl) ?_
              refine lv_aload hx hb dL_law_592 (lv_at hl 6 rfl) ?_
              refine lv_aload hx hb dL_law_594 (lv_at hl 7 rfl) ?_
              obtain ⟨⟨vm596_1, vr596_1, vh596_1, vq596_1⟩, h_596, hm⟩ := ob hm
              refine z_callSWv (wc := (w5 cI aa vmj577_1 vr vh vlj577_1 vqj577_1)) (w1 := (w5 cI aa vm596_1 vr596_1 vh596_1 vlj577_1 vq596_1)) (ws := (wQ cI aa ad vmj577_1 vr vh vlj577_1 vqj577_1 zk zm zb zs zr zu zt zf zg zbd zro zmc zmg zsp zjn)) (ws' := (wQ cI aa ad vm596_1 vr596_1 vh596_1 vlj577_1 vq596_1 zk zm zb zs zr zu zt zf zg zbd zro zmc zmg zsp zjn)) (As := [.ref (aa 1), .ref (aa 0), .ref (aa 2), .ref (aa 3), .ref (aa 4)]) (rest := []) ⟨hx, hb, hml, hown, htw⟩ (c_L_merge l dC dI cI aa vmj577_1 vr vh vlj577_1 vqj577_1 F H.size vm596_1 vr596_1 vh596_1 vq596_1 h_596) (va_cwS 5 htw gL_law_L_merge rfl rfl rfl ks_L_merge ⟨Nat.le_of_ble_eq_true rfl, Nat.le_of_ble_eq_true rfl⟩) hK hP hD hS hA (pjQ_5 cI aa ad vmj577_1 vr vh vlj577_1 vqj577_1 zk zm zb zs zr zu zt zf zg zbd zro zmc zmg zsp zjn vm596_1 vr596_1 vh596_1 vlj577_1 vq596_1) ((pa5 cI aa vm596_1 vr596_1 vh596_1 vlj577_1 vq596_1).trans (pa5 cI aa vmj577_1 vr vh vlj577_1 vqj577_1).symm) rfl hl.1 rfl (Nat.le_of_ble_eq_true rfl) dL_law_596 ⟨Nat.le_trans (show cells + 0 + 2 ≤ cells + 2 by omega) hcc, Nat.le_trans (show slots + 0 + 128 ≤ slots + 128 by omega) hss⟩ (fun H locs hP hD hS => ?_)
              exact J_599 vm596_1 vr596_1 vh596_1 vq596_1 (o2 hm) _ _ hP hD hS
          have hm := hq_577
          refine lv_if_lt (tgt := 560) hx hb dL_law_549 (by decide) (fun c_549 => ?_) (fun c_549 => ?_)
          · have hm := it_t hm c_549
            refine lv_aload hx hb dL_law_560 (lv_at hl 6 rfl) ?_
            refine lv_aload hx hb dL_law_562 (lv_at hl 7 rfl) ?_
            refine lv_iconst (v := 1) hx hb dL_law_564 (by decide) ?_
            obtain ⟨c_565, hm⟩ := ck hm
            refine va_iald hx hb hK hP 4 0 rfl rfl c_565 dL_law_565 ?_
            refine lv_iload hx hb dL_law_566 (lv_at hl 13 rfl) ?_
            obtain ⟨c_568, hm⟩ := ck hm
            refine va_iast hx hb hK hP hD hS 3 0 rfl rfl c_568 dL_law_568 (fun H locs hP hD hS => ?_)
            have hP : va_P (dC, dI) vwCl (wQ cI aa ad vm vr vh (upd vl (Int32.toNatClampNeg (vq (Int32.toNatClampNeg 1))) x12) vq zk zm zb zs zr zu zt zf zg zbd zro zmc zmg zsp zjn) H := hP
            have hD : va_D A (wQ cI aa ad vm vr vh (upd vl (Int32.toNatClampNeg (vq (Int32.toNatClampNeg 1))) x12) vq zk zm zb zs zr zu zt zf zg zbd zro zmc zmg zsp zjn) := hD
            refine lv_aload hx hb dL_law_569 (lv_at hl 7 rfl) ?_
            refine lv_iconst (v := 1) hx hb dL_law_571 (by decide) ?_
            refine lv_dup2_11 hx hb dL_law_572 rfl rfl ?_
            obtain ⟨c_573, hm⟩ := ck hm
            refine va_iald hx hb hK hP 4 0 rfl rfl c_573 dL_law_573 ?_
            refine lv_iconst (v := 1) hx hb dL_law_574 (by decide) ?_
            refine lv_iadd hx hb dL_law_575 ?_
            obtain ⟨c_576, hm⟩ := ck hm
            refine va_iast hx hb hK hP hD hS 4 0 rfl rfl c_576 dL_law_576 (fun H locs hP hD hS => ?_)
            have hP : va_P (dC, dI) vwCl (wQ cI aa ad vm vr vh (upd vl (Int32.toNatClampNeg (vq (Int32.toNatClampNeg 1))) x12) (upd vq (Int32.toNatClampNeg 1) ((vq (Int32.toNatClampNeg 1)) + 1)) zk zm zb zs zr zu zt zf zg zbd zro zmc zmg zsp zjn) H := hP
            have hD : va_D A (wQ cI aa ad vm vr vh (upd vl (Int32.toNatClampNeg (vq (Int32.toNatClampNeg 1))) x12) (upd vq (Int32.toNatClampNeg 1) ((vq (Int32.toNatClampNeg 1)) + 1)) zk zm zb zs zr zu zt zf zg zbd zro zmc zmg zsp zjn) := hD
            exact J_577 vm (upd vl (Int32.toNatClampNeg (vq (Int32.toNatClampNeg 1))) x12) (upd vq (Int32.toNatClampNeg 1) ((vq (Int32.toNatClampNeg 1)) + 1)) (o2 hm) _ _ hP hD hS
          · have hm := it_f hm c_549
            refine lv_aload_n hx hb dL_law_552 rfl (lv_at hl 4 rfl) ?_
            refine lv_iload hx hb dL_law_553 (lv_at hl 0 rfl) ?_
            refine lv_iconst (v := 0) hx hb dL_law_555 (by decide) ?_
            obtain ⟨c_556, hm⟩ := ck hm
            refine va_iast hx hb hK hP hD hS 0 0 rfl rfl c_556 dL_law_556 (fun H locs hP hD hS => ?_)
            have hP : va_P (dC, dI) vwCl (wQ cI aa ad (upd vm (Int32.toNatClampNeg r480) 0) vr vh vl vq zk zm zb zs zr zu zt zf zg zbd zro zmc zmg zsp zjn) H := hP
            have hD : va_D A (wQ cI aa ad (upd vm (Int32.toNatClampNeg r480) 0) vr vh vl vq zk zm zb zs zr zu zt zf zg zbd zro zmc zmg zsp zjn) := hD
            refine lv_goto (tgt := 577) hx hb dL_law_557 (by decide) ?_
            exact J_577 (upd vm (Int32.toNatClampNeg r480) 0) vl vq (o2 hm) _ _ hP hD hS
        · have hm := it_t hm c_541
          refine lv_goto (tgt := 1188) hx hb dL_law_544 (by decide) ?_
          refine W.widen (k := (cells + 2)) (n := (slots + 128)) (by omega) (by omega) ?_
          exact K_1188 vm vr vh vl vq zk zm zb zs zr zu zt zf zg zbd zro zmc zmg zsp zjn (o2 hm) _ _ hP hD hS _ (lv_sub hl [1, 2, 3, 4, 5, 6, 7, 8] rfl)
    · have hm := it_f hm c_508
      refine lv_aload_n hx hb dL_law_511 rfl (lv_at hl 2 rfl) ?_
      refine lv_iconst (v := 1) hx hb dL_law_512 (by decide) ?_
      refine lv_iload hx hb dL_law_513 (lv_at hl 13 rfl) ?_
      refine lv_iconst (v := 0) hx hb dL_law_515 (by decide) ?_
      obtain ⟨⟨r516, zk516, zm516, zb516, zs516, zr516, zu516, zt516, zf516, zg516, zbd516, zro516, zmc516, zmg516, zsp516, zjn516⟩, h_516, hm⟩ := ob hm
      refine z_hSi (wc := (wL cI ad zk zm zb zs zr zu zt zf zg zbd zro zmc zmg zsp zjn)) (w1 := (wL cI ad zk516 zm516 zb516 zs516 zr516 zu516 zt516 zf516 zg516 zbd516 zro516 zmc516 zmg516 zsp516 zjn516)) (ws := (wQ cI aa ad vm vr vh vl vq zk zm zb zs zr zu zt zf zg zbd zro zmc zmg zsp zjn)) (ws' := (wQ cI aa ad vm vr vh vl vq zk516 zm516 zb516 zs516 zr516 zu516 zt516 zf516 zg516 zbd516 zro516 zmc516 zmg516 zsp516 zjn516)) (As := [.ref (ad 0), .int 1, .int x12, .int 0]) (rest := []) ⟨hx, hb, hml, hown, htw⟩ (c_L_refused l dC dI cI ad zk zm zb zs zr zu zt zf zg zbd zro zmc zmg zsp zjn F 1 x12 0 H.size sa hl9 r516 zk516 zm516 zb516 zs516 zr516 zu516 zt516 zf516 zg516 zbd516 zro516 zmc516 zmg516 zsp516 zjn516 h_516) (vx_cwSW 4 htw gL_law_L_refused rfl rfl rfl (by decide +kernel) ⟨Nat.le_of_ble_eq_true rfl, Nat.le_of_ble_eq_true rfl⟩) hV hNc hK hP hD hS hA (pjQ_L cI aa ad vm vr vh vl vq zk zm zb zs zr zu zt zf zg zbd zro zmc zmg zsp zjn zk516 zm516 zb516 zs516 zr516 zu516 zt516 zf516 zg516 zbd516 zro516 zmc516 zmg516 zsp516 zjn516) ((paL cI ad zk516 zm516 zb516 zs516 zr516 zu516 zt516 zf516 zg516 zbd516 zro516 zmc516 zmg516 zsp516 zjn516).trans (paL cI ad zk zm zb zs zr zu zt zf zg zbd zro zmc zmg zsp zjn).symm) rfl hl.1 rfl (Nat.le_of_ble_eq_true rfl) dL_law_516 ⟨Nat.le_trans (show cells + 0 + 2 ≤ cells + 2 by omega) hcc, Nat.le_trans (show slots + 0 + 12 ≤ slots + 128 by omega) hss⟩ (fun H locs hP hD hS => ?_)
      refine lv_iconst (v := 2) hx hb dL_law_519 (by decide) ?_
      refine lv_icmp_eq (tgt := 1188) hx hb dL_law_520 (by decide) (fun c_520 => ?_) (fun c_520 => ?_)
      · have hm := it_t hm c_520
        refine W.widen (k := (cells + 2)) (n := (slots + 128)) (by omega) (by omega) ?_
        exact K_1188 vm vr vh vl vq zk516 zm516 zb516 zs516 zr516 zu516 zt516 zf516 zg516 zbd516 zro516 zmc516 zmg516 zsp516 zjn516 (o2 hm) _ _ hP hD hS _ (lv_sub hl [1, 2, 3, 4, 5, 6, 7, 8] rfl)
      · have hm := it_f hm c_520
        refine lv_iconst (v := 0) hx hb dL_law_523 (by decide) ?_
        exact absurd (o2 hm) (hz _)
  · have hm := it_f hm c_487
    refine lv_aload_n hx hb dL_law_490 rfl (lv_at hl 4 rfl) ?_
    refine lv_iload hx hb dL_law_491 (lv_at hl 0 rfl) ?_
    obtain ⟨c_493, hm⟩ := ck hm
    refine va_iald hx hb hK hP 0 0 rfl rfl c_493 dL_law_493 ?_
    refine lv_if_eq (tgt := 511) hx hb dL_law_494 (by decide) (fun c_494 => ?_) (fun c_494 => ?_)
    · have hm := it_t hm c_494
      refine lv_aload_n hx hb dL_law_511 rfl (lv_at hl 2 rfl) ?_
      refine lv_iconst (v := 1) hx hb dL_law_512 (by decide) ?_
      refine lv_iload hx hb dL_law_513 (lv_at hl 13 rfl) ?_
      refine lv_iconst (v := 0) hx hb dL_law_515 (by decide) ?_
      obtain ⟨⟨r516_1, zk516_1, zm516_1, zb516_1, zs516_1, zr516_1, zu516_1, zt516_1, zf516_1, zg516_1, zbd516_1, zro516_1, zmc516_1, zmg516_1, zsp516_1, zjn516_1⟩, h_516, hm⟩ := ob hm
      refine z_hSi (wc := (wL cI ad zk zm zb zs zr zu zt zf zg zbd zro zmc zmg zsp zjn)) (w1 := (wL cI ad zk516_1 zm516_1 zb516_1 zs516_1 zr516_1 zu516_1 zt516_1 zf516_1 zg516_1 zbd516_1 zro516_1 zmc516_1 zmg516_1 zsp516_1 zjn516_1)) (ws := (wQ cI aa ad vm vr vh vl vq zk zm zb zs zr zu zt zf zg zbd zro zmc zmg zsp zjn)) (ws' := (wQ cI aa ad vm vr vh vl vq zk516_1 zm516_1 zb516_1 zs516_1 zr516_1 zu516_1 zt516_1 zf516_1 zg516_1 zbd516_1 zro516_1 zmc516_1 zmg516_1 zsp516_1 zjn516_1)) (As := [.ref (ad 0), .int 1, .int x12, .int 0]) (rest := []) ⟨hx, hb, hml, hown, htw⟩ (c_L_refused l dC dI cI ad zk zm zb zs zr zu zt zf zg zbd zro zmc zmg zsp zjn F 1 x12 0 H.size sa hl9 r516_1 zk516_1 zm516_1 zb516_1 zs516_1 zr516_1 zu516_1 zt516_1 zf516_1 zg516_1 zbd516_1 zro516_1 zmc516_1 zmg516_1 zsp516_1 zjn516_1 h_516) (vx_cwSW 4 htw gL_law_L_refused rfl rfl rfl (by decide +kernel) ⟨Nat.le_of_ble_eq_true rfl, Nat.le_of_ble_eq_true rfl⟩) hV hNc hK hP hD hS hA (pjQ_L cI aa ad vm vr vh vl vq zk zm zb zs zr zu zt zf zg zbd zro zmc zmg zsp zjn zk516_1 zm516_1 zb516_1 zs516_1 zr516_1 zu516_1 zt516_1 zf516_1 zg516_1 zbd516_1 zro516_1 zmc516_1 zmg516_1 zsp516_1 zjn516_1) ((paL cI ad zk516_1 zm516_1 zb516_1 zs516_1 zr516_1 zu516_1 zt516_1 zf516_1 zg516_1 zbd516_1 zro516_1 zmc516_1 zmg516_1 zsp516_1 zjn516_1).trans (paL cI ad zk zm zb zs zr zu zt zf zg zbd zro zmc zmg zsp zjn).symm) rfl hl.1 rfl (Nat.le_of_ble_eq_true rfl) dL_law_516 ⟨Nat.le_trans (show cells + 0 + 2 ≤ cells + 2 by omega) hcc, Nat.le_trans (show slots + 0 + 12 ≤ slots + 128 by omega) hss⟩ (fun H locs hP hD hS => ?_)
      refine lv_iconst (v := 2) hx hb dL_law_519 (by decide) ?_
      refine lv_icmp_eq (tgt := 1188) hx hb dL_law_520 (by decide) (fun c_520 => ?_) (fun c_520 => ?_)
      · have hm := it_t hm c_520
        refine W.widen (k := (cells + 2)) (n := (slots + 128)) (by omega) (by omega) ?_
        exact K_1188 vm vr vh vl vq zk516_1 zm516_1 zb516_1 zs516_1 zr516_1 zu516_1 zt516_1 zf516_1 zg516_1 zbd516_1 zro516_1 zmc516_1 zmg516_1 zsp516_1 zjn516_1 (o2 hm) _ _ hP hD hS _ (lv_sub hl [1, 2, 3, 4, 5, 6, 7, 8] rfl)
      · have hm := it_f hm c_520
        refine lv_iconst (v := 0) hx hb dL_law_523 (by decide) ?_
        exact absurd (o2 hm) (hz _)
    · have hm := it_f hm c_494
      refine lv_aload hx hb dL_law_497 (lv_at hl 6 rfl) ?_
      refine lv_aload hx hb dL_law_499 (lv_at hl 7 rfl) ?_
      refine lv_iconst (v := 1) hx hb dL_law_501 (by decide) ?_
      obtain ⟨c_502, hm⟩ := ck hm
      refine va_iald hx hb hK hP 4 0 rfl rfl c_502 dL_law_502 ?_
      refine lv_iload hx hb dL_law_503 (lv_at hl 13 rfl) ?_
      obtain ⟨r505_1, h_505, hm⟩ := ob hm
      refine z_callSi (As := [.ref (aa 3), .int (vq (Int32.toNatClampNeg 1)), .int x12]) (rest := []) ⟨hx, hb, hml, hown, htw⟩ (c_L_find l dC dI cI (aa 3) 16 vl F (vq (Int32.toNatClampNeg 1)) x12 r505_1 h_505) (va_cwS 3 htw gL_law_L_find rfl rfl rfl ks_L_find ⟨Nat.le_of_ble_eq_true rfl, Nat.le_of_ble_eq_true rfl⟩) hK (z_mid (pjQ_1vl cI aa ad vm vr vh vl vq zk zm zb zs zr zu zt zf zg zbd zro zmc zmg zsp zjn vl) hP) rfl hl.1 rfl (Nat.le_of_ble_eq_true rfl) dL_law_505 ⟨Nat.le_trans (show cells + 0 + 0 ≤ cells + 2 by omega) hcc, Nat.le_trans (show slots + 0 + 0 ≤ slots + 128 by omega) hss⟩ ?_
      refine lv_if_lt (tgt := 525) hx hb dL_law_508 (by decide) (fun c_508 => ?_) (fun c_508 => ?_)
      · have hm := it_t hm c_508
        refine lv_iload hx hb dL_law_525 (lv_at hl 0 rfl) ?_
        refine lv_if_ge (tgt := 547) hx hb dL_law_527 (by decide) (fun c_527 => ?_) (fun c_527 => ?_)
        · have hm := it_t hm c_527
          refine lv_iload hx hb dL_law_547 (lv_at hl 0 rfl) ?_
          obtain ⟨z_577, hq_577, hm⟩ := ob hm
          have J_577 : ∀ (vmj577_2 : Nat → Int32), ∀ (vlj577_2 : Nat → Int32), ∀ (vqj577_2 : Nat → Int32), z_577 = (vmj577_2, vlj577_2, vqj577_2) → ∀ (H : Heap) (locs : List Loc), va_P (dC, dI) vwCl (wQ cI aa ad vmj577_2 vr vh vlj577_2 vqj577_2 zk zm zb zs zr zu zt zf zg zbd zro zmc zmg zsp zjn) H → va_D A (wQ cI aa ad vmj577_2 vr vh vlj577_2 vqj577_2 zk zm zb zs zr zu zt zf zg zbd zro zmc zmg zsp zjn) → va_S A s.heap H locs → W p l e room_1 s m #[Value.ref b] below meth c H locs (cells + 0) (slots + 0) (lw_Z below #[Value.ref b] s) (F0 m 577 ls []) := by
            intro vmj577_2 vlj577_2 vqj577_2 ez H locs hP hD hS
            rw [ez] at hm
            refine lv_aload hx hb dL_law_577 (lv_at hl 7 rfl) ?_
            refine lv_iconst (v := 1) hx hb dL_law_579 (by decide) ?_
            obtain ⟨c_580, hm⟩ := ck hm
            refine va_iald hx hb hK hP 4 0 rfl rfl c_580 dL_law_580 ?_
            refine lv_aload hx hb dL_law_581 (lv_at hl 7 rfl) ?_
            refine lv_iconst (v := 3) hx hb dL_law_583 (by decide) ?_
            obtain ⟨c_584, hm⟩ := ck hm
            refine va_iald hx hb hK hP 4 0 rfl rfl c_584 dL_law_584 ?_
            obtain ⟨z_599, hq_599, hm⟩ := ob hm
            have J_599 : ∀ (vmj599_2 : Nat → Int32), ∀ (vrj599_2 : Nat → Int32), ∀ (vhj599_2 : Nat → Int32), ∀ (vqj599_2 : Nat → Int32), z_599 = (vmj599_2, vrj599_2, vhj599_2, vqj599_2) → ∀ (H : Heap) (locs : List Loc), va_P (dC, dI) vwCl (wQ cI aa ad vmj599_2 vrj599_2 vhj599_2 vlj577_2 vqj599_2 zk zm zb zs zr zu zt zf zg zbd zro zmc zmg zsp zjn) H → va_D A (wQ cI aa ad vmj599_2 vrj599_2 vhj599_2 vlj577_2 vqj599_2 zk zm zb zs zr zu zt zf zg zbd zro zmc zmg zsp zjn) → va_S A s.heap H locs → W p l e room_1 s m #[Value.ref b] below meth c H locs (cells + 2) (slots + 128) (lw_Z below #[Value.ref b] s) (F0 m 599 ls []) := by
              intro vmj599_2 vrj599_2 vhj599_2 vqj599_2 ez H locs hP hD hS
              rw [ez] at hm
              refine lv_aload_n hx hb dL_law_599 rfl (lv_at hl 2 rfl) ?_
              refine lv_iload hx hb dL_law_600 (lv_at hl 13 rfl) ?_
              obtain ⟨⟨r602_2, zk602_2, zm602_2, zb602_2, zs602_2, zr602_2, zu602_2, zt602_2, zf602_2, zg602_2, zmc602_2, zmg602_2, zsp602_2, zjn602_2⟩, h_602, hm⟩ := ob hm
              have h_602 := nz_e h_602
              refine z_callWi (wc := (wL cI ad zk zm zb zs zr zu zt zf zg zbd zro zmc zmg zsp zjn)) (w1 := (wL cI ad zk602_2 zm602_2 zb602_2 zs602_2 zr602_2 zu602_2 zt602_2 zf602_2 zg602_2 zbd zro zmc602_2 zmg602_2 zsp602_2 zjn602_2)) (ws := (wQ cI aa ad vmj599_2 vrj599_2 vhj599_2 vlj577_2 vqj599_2 zk zm zb zs zr zu zt zf zg zbd zro zmc zmg zsp zjn)) (ws' := (wQ cI aa ad vmj599_2 vrj599_2 vhj599_2 vlj577_2 vqj599_2 zk602_2 zm602_2 zb602_2 zs602_2 zr602_2 zu602_2 zt602_2 zf602_2 zg602_2 zbd zro zmc602_2 zmg602_2 zsp602_2 zjn602_2)) (As := [.int x12]) (rest := []) (ci := 2) (q := (RX2, TX2, 15)) ⟨hx, hb, hml, hown, htw⟩ (n_X2_insert l dC dI cI ad zk zm zb zs zr zu zt zf zg zbd zro zmc zmg zsp zjn F x12 H.size r602_2 zk602_2 zm602_2 zb602_2 zs602_2 zr602_2 zu602_2 zt602_2 zf602_2 zg602_2 zmc602_2 zmg602_2 zsp602_2 zjn602_2 h_602) (cwV 1 htw gL_law_X2_insert rfl rfl rfl kv_X2_insert ⟨Nat.le_of_ble_eq_true rfl, Nat.le_of_ble_eq_true rfl⟩) hK hP hD hS hA (pjQ_L cI aa ad vmj599_2 vrj599_2 vhj599_2 vlj577_2 vqj599_2 zk zm zb zs zr zu zt zf zg zbd zro zmc zmg zsp zjn zk602_2 zm602_2 zb602_2 zs602_2 zr602_2 zu602_2 zt602_2 zf602_2 zg602_2 zbd zro zmc602_2 zmg602_2 zsp602_2 zjn602_2) ((paL cI ad zk602_2 zm602_2 zb602_2 zs602_2 zr602_2 zu602_2 zt602_2 zf602_2 zg602_2 zbd zro zmc602_2 zmg602_2 zsp602_2 zjn602_2).trans (paL cI ad zk zm zb zs zr zu zt zf zg zbd zro zmc zmg zsp zjn).symm) rfl rfl rfl rfl hl.1 rfl (Nat.le_of_ble_eq_true rfl) dL_law_602 ⟨Nat.le_trans (show cells + 2 + 0 ≤ cells + 2 by omega) hcc, Nat.le_trans (show slots + 128 + 0 ≤ slots + 128 by omega) hss⟩ (fun H locs hP hD hS => ?_)
              refine lv_aload hx hb dL_law_605 (lv_at hl 7 rfl) ?_
              refine lv_iconst (v := 1) hx hb dL_law_607 (by decide) ?_
              obtain ⟨c_608, hm⟩ := ck hm
              refine va_iald hx hb hK hP 4 0 rfl rfl c_608 dL_law_608 ?_
              refine lv_icmp_eq (tgt := 614) hx hb dL_law_609 (by decide) (fun c_609 => ?_) (fun c_609 => ?_)
              · have hm := it_t hm c_609
                refine lv_goto (tgt := 1028) hx hb dL_law_614 (by decide) ?_
                exact K_1028 vmj599_2 vrj599_2 vhj599_2 vlj577_2 vqj599_2 zk602_2 zm602_2 zb602_2 zs602_2 zr602_2 zu602_2 zt602_2 zf602_2 zg602_2 zbd zro zmc602_2 zmg602_2 zsp602_2 zjn602_2 (o2 hm) _ _ hP hD hS _ (lv_sub hl [1, 2, 3, 4, 5, 6, 7, 8, 9, 12, 13] rfl)
              · have hm := it_f hm c_609
                refine lv_iconst (v := 0) hx hb dL_law_612 (by decide) ?_
                exact absurd (o2 hm) (hz _)
            have hm := hq_599
            refine lv_icmp_ne (tgt := 599) hx hb dL_law_585 (by decide) (fun c_585 => ?_) (fun c_585 => ?_)
            · have hm := it_f hm c_585
              refine W.widen (k := (cells + 2)) (n := (slots + 128)) (by omega) (by omega) ?_
              exact J_599 vmj577_2 vr vh vqj577_2 (o2 hm) _ _ hP hD hS
            · have hm := it_t hm c_585
              refine lv_aload_n hx hb dL_law_588 rfl (lv_at hl 3 rfl) ?_
              refine lv_aload_n hx hb dL_law_589 rfl (lv_at hl 4 rfl) ?_
              refine lv_aload hx hb dL_law_590 (lv_at hl 5 rfl) ?_
              refine lv_aload hx hb dL_law_592 (lv_at hl 6 rfl) ?_
              refine lv_aload hx hb dL_law_594 (lv_at hl 7 rfl) ?_
              obtain ⟨⟨vm596_2, vr596_2, vh596_2, vq596_2⟩, h_596, hm⟩ := ob hm
              refine z_callSWv (wc := (w5 cI aa vmj577_2 vr vh vlj577_2 vqj577_2)) (w1 := (w5 cI aa vm596_2 vr596_2 vh596_2 vlj577_2 vq596_2)) (ws := (wQ cI aa ad vmj577_2 vr vh vlj577_2 vqj577_2 zk zm zb zs zr zu zt zf zg zbd zro zmc zmg zsp zjn)) (ws' := (wQ cI aa ad vm596_2 vr596_2 vh596_2 vlj577_2 vq596_2 zk zm zb zs zr zu zt zf zg zbd zro zmc zmg zsp zjn)) (As := [.ref (aa 1), .ref (aa 0), .ref (aa 2), .ref (aa 3), .ref (aa 4)]) (rest := []) ⟨hx, hb, hml, hown, htw⟩ (c_L_merge l dC dI cI aa vmj577_2 vr vh vlj577_2 vqj577_2 F H.size vm596_2 vr596_2 vh596_2 vq596_2 h_596) (va_cwS 5 htw gL_law_L_merge rfl rfl rfl ks_L_merge ⟨Nat.le_of_ble_eq_true rfl, Nat.le_of_ble_eq_true rfl⟩) hK hP hD hS hA (pjQ_5 cI aa ad vmj577_2 vr vh vlj577_2 vqj577_2 zk zm zb zs zr zu zt zf zg zbd zro zmc zmg zsp zjn vm596_2 vr596_2 vh596_2 vlj577_2 vq596_2) ((pa5 cI aa vm596_2 vr596_2 vh596_2 vlj577_2 vq596_2).trans (pa5 cI aa vmj577_2 vr vh vlj577_2 vqj577_2).symm) rfl hl.1 rfl (Nat.le_of_ble_eq_true rfl) dL_law_596 ⟨Nat.le_trans (show cells + 0 + 2 ≤ cells + 2 by omega) hcc, Nat.le_trans (show slots + 0 + 128 ≤ slots + 128 by omega) hss⟩ (fun H locs hP hD hS => ?_)
              exact J_599 vm596_2 vr596_2 vh596_2 vq596_2 (o2 hm) _ _ hP hD hS
          have hm := hq_577
          refine lv_if_lt (tgt := 560) hx hb dL_law_549 (by decide) (fun c_549 => ?_) (fun c_549 => ?_)
          · have hm := it_t hm c_549
            refine lv_aload hx hb dL_law_560 (lv_at hl 6 rfl) ?_
            refine lv_aload hx hb dL_law_562 (lv_at hl 7 rfl) ?_
            refine lv_iconst (v := 1) hx hb dL_law_564 (by decide) ?_
            obtain ⟨c_565, hm⟩ := ck hm
            refine va_iald hx hb hK hP 4 0 rfl rfl c_565 dL_law_565 ?_
            refine lv_iload hx hb dL_law_566 (lv_at hl 13 rfl) ?_
            obtain ⟨c_568, hm⟩ := ck hm
            refine va_iast hx hb hK hP hD hS 3 0 rfl rfl c_568 dL_law_568 (fun H locs hP hD hS => ?_)
            have hP : va_P (dC, dI) vwCl (wQ cI aa ad vm vr vh (upd vl (Int32.toNatClampNeg (vq (Int32.toNatClampNeg 1))) x12) vq zk zm zb zs zr zu zt zf zg zbd zro zmc zmg zsp zjn) H := hP
            have hD : va_D A (wQ cI aa ad vm vr vh (upd vl (Int32.toNatClampNeg (vq (Int32.toNatClampNeg 1))) x12) vq zk zm zb zs zr zu zt zf zg zbd zro zmc zmg zsp zjn) := hD
            refine lv_aload hx hb dL_law_569 (lv_at hl 7 rfl) ?_
            refine lv_iconst (v := 1) hx hb dL_law_571 (by decide) ?_
            refine lv_dup2_11 hx hb dL_law_572 rfl rfl ?_
            obtain ⟨c_573, hm⟩ := ck hm
            refine va_iald hx hb hK hP 4 0 rfl rfl c_573 dL_law_573 ?_
            refine lv_iconst (v := 1) hx hb dL_law_574 (by decide) ?_
            refine lv_iadd hx hb dL_law_575 ?_
            obtain ⟨c_576, hm⟩ := ck hm
            refine va_iast hx hb hK hP hD hS 4 0 rfl rfl c_576 dL_law_576 (fun H locs hP hD hS => ?_)
            have hP : va_P (dC, dI) vwCl (wQ cI aa ad vm vr vh (upd vl (Int32.toNatClampNeg (vq (Int32.toNatClampNeg 1))) x12) (upd vq (Int32.toNatClampNeg 1) ((vq (Int32.toNatClampNeg 1)) + 1)) zk zm zb zs zr zu zt zf zg zbd zro zmc zmg zsp zjn) H := hP
            have hD : va_D A (wQ cI aa ad vm vr vh (upd vl (Int32.toNatClampNeg (vq (Int32.toNatClampNeg 1))) x12) (upd vq (Int32.toNatClampNeg 1) ((vq (Int32.toNatClampNeg 1)) + 1)) zk zm zb zs zr zu zt zf zg zbd zro zmc zmg zsp zjn) := hD
            exact J_577 vm (upd vl (Int32.toNatClampNeg (vq (Int32.toNatClampNeg 1))) x12) (upd vq (Int32.toNatClampNeg 1) ((vq (Int32.toNatClampNeg 1)) + 1)) (o2 hm) _ _ hP hD hS
          · have hm := it_f hm c_549
            refine lv_aload_n hx hb dL_law_552 rfl (lv_at hl 4 rfl) ?_
            refine lv_iload hx hb dL_law_553 (lv_at hl 0 rfl) ?_
            refine lv_iconst (v := 0) hx hb dL_law_555 (by decide) ?_
            obtain ⟨c_556, hm⟩ := ck hm
            refine va_iast hx hb hK hP hD hS 0 0 rfl rfl c_556 dL_law_556 (fun H locs hP hD hS => ?_)
            have hP : va_P (dC, dI) vwCl (wQ cI aa ad (upd vm (Int32.toNatClampNeg r480) 0) vr vh vl vq zk zm zb zs zr zu zt zf zg zbd zro zmc zmg zsp zjn) H := hP
            have hD : va_D A (wQ cI aa ad (upd vm (Int32.toNatClampNeg r480) 0) vr vh vl vq zk zm zb zs zr zu zt zf zg zbd zro zmc zmg zsp zjn) := hD
            refine lv_goto (tgt := 577) hx hb dL_law_557 (by decide) ?_
            exact J_577 (upd vm (Int32.toNatClampNeg r480) 0) vl vq (o2 hm) _ _ hP hD hS
        · have hm := it_f hm c_527
          refine lv_aload hx hb dL_law_530 (lv_at hl 7 rfl) ?_
          refine lv_iconst (v := 0) hx hb dL_law_532 (by decide) ?_
          obtain ⟨c_533, hm⟩ := ck hm
          refine va_iald hx hb hK hP 4 0 rfl rfl c_533 dL_law_533 ?_
          refine lv_aload hx hb dL_law_534 (lv_at hl 7 rfl) ?_
          refine lv_iconst (v := 1) hx hb dL_law_536 (by decide) ?_
          obtain ⟨c_537, hm⟩ := ck hm
          refine va_iald hx hb hK hP 4 0 rfl rfl c_537 dL_law_537 ?_
          refine lv_iadd hx hb dL_law_538 ?_
          refine lv_bipush (v := 60) hx hb dL_law_539 (by decide) ?_
          refine lv_icmp_ne (tgt := 547) hx hb dL_law_541 (by decide) (fun c_541 => ?_) (fun c_541 => ?_)
          · have hm := it_f hm c_541
            refine lv_iload hx hb dL_law_547 (lv_at hl 0 rfl) ?_
            obtain ⟨z_577, hq_577, hm⟩ := ob hm
            have J_577 : ∀ (vmj577_3 : Nat → Int32), ∀ (vlj577_3 : Nat → Int32), ∀ (vqj577_3 : Nat → Int32), z_577 = (vmj577_3, vlj577_3, vqj577_3) → ∀ (H : Heap) (locs : List Loc), va_P (dC, dI) vwCl (wQ cI aa ad vmj577_3 vr vh vlj577_3 vqj577_3 zk zm zb zs zr zu zt zf zg zbd zro zmc zmg zsp zjn) H → va_D A (wQ cI aa ad vmj577_3 vr vh vlj577_3 vqj577_3 zk zm zb zs zr zu zt zf zg zbd zro zmc zmg zsp zjn) → va_S A s.heap H locs → W p l e room_1 s m #[Value.ref b] below meth c H locs (cells + 0) (slots + 0) (lw_Z below #[Value.ref b] s) (F0 m 577 ls []) := by
              intro vmj577_3 vlj577_3 vqj577_3 ez H locs hP hD hS
              rw [ez] at hm
              refine lv_aload hx hb dL_law_577 (lv_at hl 7 rfl) ?_
              refine lv_iconst (v := 1) hx hb dL_law_579 (by decide) ?_
              obtain ⟨c_580, hm⟩ := ck hm
              refine va_iald hx hb hK hP 4 0 rfl rfl c_580 dL_law_580 ?_
              refine lv_aload hx hb dL_law_581 (lv_at hl 7 rfl) ?_
              refine lv_iconst (v := 3) hx hb dL_law_583 (by decide) ?_
              obtain ⟨c_584, hm⟩ := ck hm
              refine va_iald hx hb hK hP 4 0 rfl rfl c_584 dL_law_584 ?_
              obtain ⟨z_599, hq_599, hm⟩ := ob hm
              have J_599 : ∀ (vmj599_3 : Nat → Int32), ∀ (vrj599_3 : Nat → Int32), ∀ (vhj599_3 : Nat → Int32), ∀ (vqj599_3 : Nat → Int32), z_599 = (vmj599_3, vrj599_3, vhj599_3, vqj599_3) → ∀ (H : Heap) (locs : List Loc), va_P (dC, dI) vwCl (wQ cI aa ad vmj599_3 vrj599_3 vhj599_3 vlj577_3 vqj599_3 zk zm zb zs zr zu zt zf zg zbd zro zmc zmg zsp zjn) H → va_D A (wQ cI aa ad vmj599_3 vrj599_3 vhj599_3 vlj577_3 vqj599_3 zk zm zb zs zr zu zt zf zg zbd zro zmc zmg zsp zjn) → va_S A s.heap H locs → W p l e room_1 s m #[Value.ref b] below meth c H locs (cells + 2) (slots + 128) (lw_Z below #[Value.ref b] s) (F0 m 599 ls []) := by
                intro vmj599_3 vrj599_3 vhj599_3 vqj599_3 ez H locs hP hD hS
                rw [ez] at hm
                refine lv_aload_n hx hb dL_law_599 rfl (lv_at hl 2 rfl) ?_
                refine lv_iload hx hb dL_law_600 (lv_at hl 13 rfl) ?_
                obtain ⟨⟨r602_3, zk602_3, zm602_3, zb602_3, zs602_3, zr602_3, zu602_3, zt602_3, zf602_3, zg602_3, zmc602_3, zmg602_3, zsp602_3, zjn602_3⟩, h_602, hm⟩ := ob hm
                have h_602 := nz_e h_602
                refine z_callWi (wc := (wL cI ad zk zm zb zs zr zu zt zf zg zbd zro zmc zmg zsp zjn)) (w1 := (wL cI ad zk602_3 zm602_3 zb602_3 zs602_3 zr602_3 zu602_3 zt602_3 zf602_3 zg602_3 zbd zro zmc602_3 zmg602_3 zsp602_3 zjn602_3)) (ws := (wQ cI aa ad vmj599_3 vrj599_3 vhj599_3 vlj577_3 vqj599_3 zk zm zb zs zr zu zt zf zg zbd zro zmc zmg zsp zjn)) (ws' := (wQ cI aa ad vmj599_3 vrj599_3 vhj599_3 vlj577_3 vqj599_3 zk602_3 zm602_3 zb602_3 zs602_3 zr602_3 zu602_3 zt602_3 zf602_3 zg602_3 zbd zro zmc602_3 zmg602_3 zsp602_3 zjn602_3)) (As := [.int x12]) (rest := []) (ci := 2) (q := (RX2, TX2, 15)) ⟨hx, hb, hml, hown, htw⟩ (n_X2_insert l dC dI cI ad zk zm zb zs zr zu zt zf zg zbd zro zmc zmg zsp zjn F x12 H.size r602_3 zk602_3 zm602_3 zb602_3 zs602_3 zr602_3 zu602_3 zt602_3 zf602_3 zg602_3 zmc602_3 zmg602_3 zsp602_3 zjn602_3 h_602) (cwV 1 htw gL_law_X2_insert rfl rfl rfl kv_X2_insert ⟨Nat.le_of_ble_eq_true rfl, Nat.le_of_ble_eq_true rfl⟩) hK hP hD hS hA (pjQ_L cI aa ad vmj599_3 vrj599_3 vhj599_3 vlj577_3 vqj599_3 zk zm zb zs zr zu zt zf zg zbd zro zmc zmg zsp zjn zk602_3 zm602_3 zb602_3 zs602_3 zr602_3 zu602_3 zt602_3 zf602_3 zg602_3 zbd zro zmc602_3 zmg602_3 zsp602_3 zjn602_3) ((paL cI ad zk602_3 zm602_3 zb602_3 zs602_3 zr602_3 zu602_3 zt602_3 zf602_3 zg602_3 zbd zro zmc602_3 zmg602_3 zsp602_3 zjn602_3).trans (paL cI ad zk zm zb zs zr zu zt zf zg zbd zro zmc zmg zsp zjn).symm) rfl rfl rfl rfl hl.1 rfl (Nat.le_of_ble_eq_true rfl) dL_law_602 ⟨Nat.le_trans (show cells + 2 + 0 ≤ cells + 2 by omega) hcc, Nat.le_trans (show slots + 128 + 0 ≤ slots + 128 by omega) hss⟩ (fun H locs hP hD hS => ?_)
                refine lv_aload hx hb dL_law_605 (lv_at hl 7 rfl) ?_
                refine lv_iconst (v := 1) hx hb dL_law_607 (by decide) ?_
                obtain ⟨c_608, hm⟩ := ck hm
                refine va_iald hx hb hK hP 4 0 rfl rfl c_608 dL_law_608 ?_
                refine lv_icmp_eq (tgt := 614) hx hb dL_law_609 (by decide) (fun c_609 => ?_) (fun c_609 => ?_)
                · have hm := it_t hm c_609
                  refine lv_goto (tgt := 1028) hx hb dL_law_614 (by decide) ?_
                  exact K_1028 vmj599_3 vrj599_3 vhj599_3 vlj577_3 vqj599_3 zk602_3 zm602_3 zb602_3 zs602_3 zr602_3 zu602_3 zt602_3 zf602_3 zg602_3 zbd zro zmc602_3 zmg602_3 zsp602_3 zjn602_3 (o2 hm) _ _ hP hD hS _ (lv_sub hl [1, 2, 3, 4, 5, 6, 7, 8, 9, 12, 13] rfl)
                · have hm := it_f hm c_609
                  refine lv_iconst (v := 0) hx hb dL_law_612 (by decide) ?_
                  exact absurd (o2 hm) (hz _)
              have hm := hq_599
              refine lv_icmp_ne (tgt := 599) hx hb dL_law_585 (by decide) (fun c_585 => ?_) (fun c_585 => ?_)
              · have hm := it_f hm c_585
                refine W.widen (k := (cells + 2)) (n := (slots + 128)) (by omega) (by omega) ?_
                exact J_599 vmj577_3 vr vh vqj577_3 (o2 hm) _ _ hP hD hS
              · have hm := it_t hm c_585
                refine lv_aload_n hx hb dL_law_588 rfl (lv_at hl 3 rfl) ?_
                refine lv_aload_n hx hb dL_law_589 rfl (lv_at hl 4 rfl) ?_
                refine lv_aload hx hb dL_law_590 (lv_at hl 5 rfl) ?_
                refine lv_aload hx hb dL_law_592 (lv_at hl 6 rfl) ?_
                refine lv_aload hx hb dL_law_594 (lv_at hl 7 rfl) ?_
                obtain ⟨⟨vm596_3, vr596_3, vh596_3, vq596_3⟩, h_596, hm⟩ := ob hm
                refine z_callSWv (wc := (w5 cI aa vmj577_3 vr vh vlj577_3 vqj577_3)) (w1 := (w5 cI aa vm596_3 vr596_3 vh596_3 vlj577_3 vq596_3)) (ws := (wQ cI aa ad vmj577_3 vr vh vlj577_3 vqj577_3 zk zm zb zs zr zu zt zf zg zbd zro zmc zmg zsp zjn)) (ws' := (wQ cI aa ad vm596_3 vr596_3 vh596_3 vlj577_3 vq596_3 zk zm zb zs zr zu zt zf zg zbd zro zmc zmg zsp zjn)) (As := [.ref (aa 1), .ref (aa 0), .ref (aa 2), .ref (aa 3), .ref (aa 4)]) (rest := []) ⟨hx, hb, hml, hown, htw⟩ (c_L_merge l dC dI cI aa vmj577_3 vr vh vlj577_3 vqj577_3 F H.size vm596_3 vr596_3 vh596_3 vq596_3 h_596) (va_cwS 5 htw gL_law_L_merge rfl rfl rfl ks_L_merge ⟨Nat.le_of_ble_eq_true rfl, Nat.le_of_ble_eq_true rfl⟩) hK hP hD hS hA (pjQ_5 cI aa ad vmj577_3 vr vh vlj577_3 vqj577_3 zk zm zb zs zr zu zt zf zg zbd zro zmc zmg zsp zjn vm596_3 vr596_3 vh596_3 vlj577_3 vq596_3) ((pa5 cI aa vm596_3 vr596_3 vh596_3 vlj577_3 vq596_3).trans (pa5 cI aa vmj577_3 vr vh vlj577_3 vqj577_3).symm) rfl hl.1 rfl (Nat.le_of_ble_eq_true rfl) dL_law_596 ⟨Nat.le_trans (show cells + 0 + 2 ≤ cells + 2 by omega) hcc, Nat.le_trans (show slots + 0 + 128 ≤ slots + 128 by omega) hss⟩ (fun H locs hP hD hS => ?_)
                exact J_599 vm596_3 vr596_3 vh596_3 vq596_3 (o2 hm) _ _ hP hD hS
            have hm := hq_577
            refine lv_if_lt (tgt := 560) hx hb dL_law_549 (by decide) (fun c_549 => ?_) (fun c_549 => ?_)
            · have hm := it_t hm c_549
              refine lv_aload hx hb dL_law_560 (lv_at hl 6 rfl) ?_
              refine lv_aload hx hb dL_law_562 (lv_at hl 7 rfl) ?_
              refine lv_iconst (v := 1) hx hb dL_law_564 (by decide) ?_
              obtain ⟨c_565, hm⟩ := ck hm
              refine va_iald hx hb hK hP 4 0 rfl rfl c_565 dL_law_565 ?_
              refine lv_iload hx hb dL_law_566 (lv_at hl 13 rfl) ?_
              obtain ⟨c_568, hm⟩ := ck hm
              refine va_iast hx hb hK hP hD hS 3 0 rfl rfl c_568 dL_law_568 (fun H locs hP hD hS => ?_)
              have hP : va_P (dC, dI) vwCl (wQ cI aa ad vm vr vh (upd vl (Int32.toNatClampNeg (vq (Int32.toNatClampNeg 1))) x12) vq zk zm zb zs zr zu zt zf zg zbd zro zmc zmg zsp zjn) H := hP
              have hD : va_D A (wQ cI aa ad vm vr vh (upd vl (Int32.toNatClampNeg (vq (Int32.toNatClampNeg 1))) x12) vq zk zm zb zs zr zu zt zf zg zbd zro zmc zmg zsp zjn) := hD
              refine lv_aload hx hb dL_law_569 (lv_at hl 7 rfl) ?_
              refine lv_iconst (v := 1) hx hb dL_law_571 (by decide) ?_
              refine lv_dup2_11 hx hb dL_law_572 rfl rfl ?_
              obtain ⟨c_573, hm⟩ := ck hm
              refine va_iald hx hb hK hP 4 0 rfl rfl c_573 dL_law_573 ?_
              refine lv_iconst (v := 1) hx hb dL_law_574 (by decide) ?_
              refine lv_iadd hx hb dL_law_575 ?_
              obtain ⟨c_576, hm⟩ := ck hm
              refine va_iast hx hb hK hP hD hS 4 0 rfl rfl c_576 dL_law_576 (fun H locs hP hD hS => ?_)
              have hP : va_P (dC, dI) vwCl (wQ cI aa ad vm vr vh (upd vl (Int32.toNatClampNeg (vq (Int32.toNatClampNeg 1))) x12) (upd vq (Int32.toNatClampNeg 1) ((vq (Int32.toNatClampNeg 1)) + 1)) zk zm zb zs zr zu zt zf zg zbd zro zmc zmg zsp zjn) H := hP
              have hD : va_D A (wQ cI aa ad vm vr vh (upd vl (Int32.toNatClampNeg (vq (Int32.toNatClampNeg 1))) x12) (upd vq (Int32.toNatClampNeg 1) ((vq (Int32.toNatClampNeg 1)) + 1)) zk zm zb zs zr zu zt zf zg zbd zro zmc zmg zsp zjn) := hD
              exact J_577 vm (upd vl (Int32.toNatClampNeg (vq (Int32.toNatClampNeg 1))) x12) (upd vq (Int32.toNatClampNeg 1) ((vq (Int32.toNatClampNeg 1)) + 1)) (o2 hm) _ _ hP hD hS
            · have hm := it_f hm c_549
              refine lv_aload_n hx hb dL_law_552 rfl (lv_at hl 4 rfl) ?_
              refine lv_iload hx hb dL_law_553 (lv_at hl 0 rfl) ?_
              refine lv_iconst (v := 0) hx hb dL_law_555 (by decide) ?_
              obtain ⟨c_556, hm⟩ := ck hm
              refine va_iast hx hb hK hP hD hS 0 0 rfl rfl c_556 dL_law_556 (fun H locs hP hD hS => ?_)
              have hP : va_P (dC, dI) vwCl (wQ cI aa ad (upd vm (Int32.toNatClampNeg r480) 0) vr vh vl vq zk zm zb zs zr zu zt zf zg zbd zro zmc zmg zsp zjn) H := hP
              have hD : va_D A (wQ cI aa ad (upd vm (Int32.toNatClampNeg r480) 0) vr vh vl vq zk zm zb zs zr zu zt zf zg zbd zro zmc zmg zsp zjn) := hD
              refine lv_goto (tgt := 577) hx hb dL_law_557 (by decide) ?_
              exact J_577 (upd vm (Int32.toNatClampNeg r480) 0) vl vq (o2 hm) _ _ hP hD hS
          · have hm := it_t hm c_541
            refine lv_goto (tgt := 1188) hx hb dL_law_544 (by decide) ?_
            refine W.widen (k := (cells + 2)) (n := (slots + 128)) (by omega) (by omega) ?_
            exact K_1188 vm vr vh vl vq zk zm zb zs zr zu zt zf zg zbd zro zmc zmg zsp zjn (o2 hm) _ _ hP hD hS _ (lv_sub hl [1, 2, 3, 4, 5, 6, 7, 8] rfl)
      · have hm := it_f hm c_508
        refine lv_aload_n hx hb dL_law_511 rfl (lv_at hl 2 rfl) ?_
        refine lv_iconst (v := 1) hx hb dL_law_512 (by decide) ?_
        refine lv_iload hx hb dL_law_513 (lv_at hl 13 rfl) ?_
        refine lv_iconst (v := 0) hx hb dL_law_515 (by decide) ?_
        obtain ⟨⟨r516_2, zk516_2, zm516_2, zb516_2, zs516_2, zr516_2, zu516_2, zt516_2, zf516_2, zg516_2, zbd516_2, zro516_2, zmc516_2, zmg516_2, zsp516_2, zjn516_2⟩, h_516, hm⟩ := ob hm
        refine z_hSi (wc := (wL cI ad zk zm zb zs zr zu zt zf zg zbd zro zmc zmg zsp zjn)) (w1 := (wL cI ad zk516_2 zm516_2 zb516_2 zs516_2 zr516_2 zu516_2 zt516_2 zf516_2 zg516_2 zbd516_2 zro516_2 zmc516_2 zmg516_2 zsp516_2 zjn516_2)) (ws := (wQ cI aa ad vm vr vh vl vq zk zm zb zs zr zu zt zf zg zbd zro zmc zmg zsp zjn)) (ws' := (wQ cI aa ad vm vr vh vl vq zk516_2 zm516_2 zb516_2 zs516_2 zr516_2 zu516_2 zt516_2 zf516_2 zg516_2 zbd516_2 zro516_2 zmc516_2 zmg516_2 zsp516_2 zjn516_2)) (As := [.ref (ad 0), .int 1, .int x12, .int 0]) (rest := []) ⟨hx, hb, hml, hown, htw⟩ (c_L_refused l dC dI cI ad zk zm zb zs zr zu zt zf zg zbd zro zmc zmg zsp zjn F 1 x12 0 H.size sa hl9 r516_2 zk516_2 zm516_2 zb516_2 zs516_2 zr516_2 zu516_2 zt516_2 zf516_2 zg516_2 zbd516_2 zro516_2 zmc516_2 zmg516_2 zsp516_2 zjn516_2 h_516) (vx_cwSW 4 htw gL_law_L_refused rfl rfl rfl (by decide +kernel) ⟨Nat.le_of_ble_eq_true rfl, Nat.le_of_ble_eq_true rfl⟩) hV hNc hK hP hD hS hA (pjQ_L cI aa ad vm vr vh vl vq zk zm zb zs zr zu zt zf zg zbd zro zmc zmg zsp zjn zk516_2 zm516_2 zb516_2 zs516_2 zr516_2 zu516_2 zt516_2 zf516_2 zg516_2 zbd516_2 zro516_2 zmc516_2 zmg516_2 zsp516_2 zjn516_2) ((paL cI ad zk516_2 zm516_2 zb516_2 zs516_2 zr516_2 zu516_2 zt516_2 zf516_2 zg516_2 zbd516_2 zro516_2 zmc516_2 zmg516_2 zsp516_2 zjn516_2).trans (paL cI ad zk zm zb zs zr zu zt zf zg zbd zro zmc zmg zsp zjn).symm) rfl hl.1 rfl (Nat.le_of_ble_eq_true rfl) dL_law_516 ⟨Nat.le_trans (show cells + 0 + 2 ≤ cells + 2 by omega) hcc, Nat.le_trans (show slots + 0 + 12 ≤ slots + 128 by omega) hss⟩ (fun H locs hP hD hS => ?_)
        refine lv_iconst (v := 2) hx hb dL_law_519 (by decide) ?_
        refine lv_icmp_eq (tgt := 1188) hx hb dL_law_520 (by decide) (fun c_520 => ?_) (fun c_520 => ?_)
        · have hm := it_t hm c_520
          refine W.widen (k := (cells + 2)) (n := (slots + 128)) (by omega) (by omega) ?_
          exact K_1188 vm vr vh vl vq zk516_2 zm516_2 zb516_2 zs516_2 zr516_2 zu516_2 zt516_2 zf516_2 zg516_2 zbd516_2 zro516_2 zmc516_2 zmg516_2 zsp516_2 zjn516_2 (o2 hm) _ _ hP hD hS _ (lv_sub hl [1, 2, 3, 4, 5, 6, 7, 8] rfl)
        · have hm := it_f hm c_520
          refine lv_iconst (v := 0) hx hb dL_law_523 (by decide) ?_
          exact absurd (o2 hm) (hz _)
