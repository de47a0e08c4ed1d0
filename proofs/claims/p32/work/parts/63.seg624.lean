set_option maxHeartbeats 8000000 in
set_option maxRecDepth 100000 in
theorem s_L_seg624 {p : Program} {l : Launch} {e : Env} {s : State} {m : MethodId} {below : List Frame} {meth : Method} {c : Code} {b L : Nat} {xs : Nat → Int32} (C0 : lw_At p s m meth c b L xs) (hl9 : l.stackTraces = false) {dC : Nat → ClassId} {dI : Nat → Nat → Nat} (cI : ClassId) (aa : Nat → Nat) (ad : Nat → Nat) {sa : Nat → Nat} {A : Nat → Prop} (hA : ∀ q : Nat, s.heap.size ≤ q → A q) (hK : va_K (dC, dI) vwCl [(cI, .int)] s) (hV : zV sa A s s.heap) (hNc : zNcs s) (vm : Nat → Int32) (vr : Nat → Int32) (vh : Nat → Int32) (vl : Nat → Int32) (vq : Nat → Int32) (zk : zN) (zm : zN) (zb : zN) (zs : zN) (zr : zN) (zu : zN) (zt : zT) (zf : zN) (zg : zN) (zbd : Int32) (zro : Int32) (zmc : Int32) (zmg : Int32) (zsp : Int32) (zjn : Int32) (F : Nat) (x7 : Int32) (x8 : Int32) (x9 : Int32) (x10 : Int32) (x11 : Int32) (x12 : Int32) (z : Int32 ⊕ ((Nat → Int32) × (Nat → Int32) × (Nat → Int32) × zN × zN × zN × zN × zN × zN × zT × zN × zN × Int32 × Int32 × Int32 × Int32 × Int32 × Int32) ⊕ ((Nat → Int32) × (Nat → Int32) × (Nat → Int32) × zN × zN × zN × zN × zN × zN × zT × zN × zN × Int32 × Int32 × Int32 × Int32 × Int32 × Int32)) (hm : L_seg624 F vm vr vl vq zk zm zb zs zr zu zt zf zg zbd zro zmc zmg zsp zjn x9 x12 = some z) (hz : ∀ v, z ≠ Sum.inl v) {cells slots : Nat} (hcc : cells + 2 ≤ room_1.cells) (hss : slots + 12 ≤ room_1.slots) {H : Heap} {locs : List Loc} {ls : Array Slot} (hP : va_P (dC, dI) vwCl (wQ cI aa ad vm vr vh vl vq zk zm zb zs zr zu zt zf zg zbd zro zmc zmg zsp zjn) H) (hD : va_D A (wQ cI aa ad vm vr vh vl vq zk zm zb zs zr zu zt zf zg zbd zro zmc zmg zsp zjn)) (hS : va_S A s.heap H locs) (hl : lv_has ls 19 [(0, .ref b), (1, .ref (ad 0)), (2, .ref (aa 1)), (3, .ref (aa 0)), (4, .ref (aa 2)), (5, .ref (aa 3)), (6, .ref (aa 4)), (7, .int x7), (8, .int x8), (9, .int x9), (10, .int x10), (11, .int x11), (12, .int x12)]) (K_1028 : ∀ (u_vm : Nat → Int32), ∀ (u_vl : Nat → Int32), ∀ (u_vq : Nat → Int32), ∀ (u_zk : zN), ∀ (u_zm : zN), ∀ (u_zb : zN), ∀ (u_zs : zN), ∀ (u_zr : zN), ∀ (u_zu : zN), ∀ (u_zt : zT), ∀ (u_zf : zN), ∀ (u_zg : zN), ∀ (u_zbd : Int32), ∀ (u_zro : Int32), ∀ (u_zmc : Int32), ∀ (u_zmg : Int32), ∀ (u_zsp : Int32), ∀ (u_zjn : Int32), z = Sum.inr (Sum.inl (u_vm, u_vl, u_vq, u_zk, u_zm, u_zb, u_zs, u_zr, u_zu, u_zt, u_zf, u_zg, u_zbd, u_zro, u_zmc, u_zmg, u_zsp, u_zjn)) → ∀ (H : Heap) (locs : List Loc), va_P (dC, dI) vwCl (wQ cI aa ad u_vm vr vh u_vl u_vq u_zk u_zm u_zb u_zs u_zr u_zu u_zt u_zf u_zg u_zbd u_zro u_zmc u_zmg u_zsp u_zjn) H → va_D A (wQ cI aa ad u_vm vr vh u_vl u_vq u_zk u_zm u_zb u_zs u_zr u_zu u_zt u_zf u_zg u_zbd u_zro u_zmc u_zmg u_zsp u_zjn) → va_S A s.heap H locs → ∀ (ls : Array Slot), lv_has ls 19 [(0, .ref b), (1, .ref (ad 0)), (2, .ref (aa 1)), (3, .ref (aa 0)), (4, .ref (aa 2)), (5, .ref (aa 3)), (6, .ref (aa 4)), (7, .int x7), (8, .int x8), (11, .int x11), (12, .int x12)] → W p l e room_1 s m #[Value.ref b] below meth c H locs (cells + 2) (slots + 12) (lw_Z below #[Value.ref b] s) (F0 m 1028 ls [])) (K_1188 : ∀ (u_vm : Nat → Int32), ∀ (u_vl : Nat → Int32), ∀ (u_vq : Nat → Int32), ∀ (u_zk : zN), ∀ (u_zm : zN), ∀ (u_zb : zN), ∀ (u_zs : zN), ∀ (u_zr : zN), ∀ (u_zu : zN), ∀ (u_zt : zT), ∀ (u_zf : zN), ∀ (u_zg : zN), ∀ (u_zbd : Int32), ∀ (u_zro : Int32), ∀ (u_zmc : Int32), ∀ (u_zmg : Int32), ∀ (u_zsp : Int32), ∀ (u_zjn : Int32), z = Sum.inr (Sum.inr (u_vm, u_vl, u_vq, u_zk, u_zm, u_zb, u_zs, u_zr, u_zu, u_zt, u_zf, u_zg, u_zbd, u_zro, u_zmc, u_zmg, u_zsp, u_zjn)) → ∀ (H : Heap) (locs : List Loc), va_P (dC, dI) vwCl (wQ cI aa ad u_vm vr vh u_vl u_vq u_zk u_zm u_zb u_zs u_zr u_zu u_zt u_zf u_zg u_zbd u_zro u_zmc u_zmg u_zsp u_zjn) H → va_D A (wQ cI aa ad u_vm vr vh u_vl u_vq u_zk u_zm u_zb u_zs u_zr u_zu u_zt u_zf u_zg u_zbd u_zro u_zmc u_zmg u_zsp u_zjn) → va_S A s.heap H locs → ∀ (ls : Array Slot), lv_has ls 19 [(0, .ref b), (1, .ref (ad 0)), (2, .ref (aa 1)), (3, .ref (aa 0)), (4, .ref (aa 2)), (5, .ref (aa 3)), (6, .ref (aa 4)), (7, .int x7)] → W p l e room_1 s m #[Value.ref b] below meth c H locs (cells + 2) (slots + 12) (lw_Z below #[Value.ref b] s) (F0 m 1188 ls [])) : W p l e room_1 s m #[Value.ref b] below meth c H locs (cells + 0) (slots + 0) (lw_Z below #[Value.ref b] s) (F0 m 624 ls []) := by
  obtain ⟨hx, hb, hr, hml, hown, hts, hX, hbl, hlocks, hgv⟩ := id C0
  have hown : s.vm.findClass RL = some m.cls := hown
  have htw : ∀ w ∈ wsL_law, w.before #[Value.ref b] s = true := fun w h => hts w (wsL_law_in w h)
  have zw0 := htw (.constantLong RL 101 (1000001)) (List.mem_append_left _ (List.mem_append_left _ (List.mem_append_left _ (List.mem_append_left _ (List.mem_append_left _ (List.mem_of_getElem? (i := 5) rfl))))))
  refine lv_aload hx hb dL_law_624 (lv_at hl 5 rfl) ?_
  refine lv_aload hx hb dL_law_626 (lv_at hl 6 rfl) ?_
  refine lv_iconst (v := 1) hx hb dL_law_628 (by decide) ?_
  obtain ⟨c_629, hm⟩ := ck hm
  refine va_iald hx hb hK hP 4 0 rfl rfl c_629 dL_law_629 ?_
  refine lv_iload hx hb dL_law_630 (lv_at hl 12 rfl) ?_
  obtain ⟨r632, h_632, hm⟩ := ob hm
  refine z_callSi (As := [.ref (aa 3), .int (vq (Int32.toNatClampNeg 1)), .int x12]) (rest := []) ⟨hx, hb, hml, hown, htw⟩ (c_L_find l dC dI cI (aa 3) 16 vl F (vq (Int32.toNatClampNeg 1)) x12 r632 h_632) (va_cwS 3 htw gL_law_L_find rfl rfl rfl ks_L_find ⟨Nat.le_of_ble_eq_true rfl, Nat.le_of_ble_eq_true rfl⟩) hK (z_mid (pjQ_1vl cI aa ad vm vr vh vl vq zk zm zb zs zr zu zt zf zg zbd zro zmc zmg zsp zjn vl) hP) rfl hl.1 rfl (Nat.le_of_ble_eq_true rfl) dL_law_632 ⟨Nat.le_trans (show cells + 0 + 0 ≤ cells + 2 by omega) hcc, Nat.le_trans (show slots + 0 + 0 ≤ slots + 12 by omega) hss⟩ ?_
  obtain ⟨z_663, hq_663, hm⟩ := ob hm
  have J_663 : ∀ (y663 : Int32), z_663 = y663 → W p l e room_1 s m #[Value.ref b] below meth c H locs (cells + 0) (slots + 0) (lw_Z below #[Value.ref b] s) (F0 m 663 ls [.int y663]) := by
    intro y663 ez
    rw [ez] at hm
    refine lv_istore (lv' := [(13, .int y663), (0, .ref b), (1, .ref (ad 0)), (2, .ref (aa 1)), (3, .ref (aa 0)), (4, .ref (aa 2)), (5, .ref (aa 3)), (6, .ref (aa 4)), (7, .int x7), (8, .int x8), (9, .int x9), (10, .int x10), (11, .int x11), (12, .int x12)]) hx hb dL_law_663 hl (by decide) rfl (fun ls hl => ?_)
    refine lv_aload_n hx hb dL_law_665 rfl (lv_at hl 3 rfl) ?_
    refine lv_aload hx hb dL_law_666 (lv_at hl 7 rfl) ?_
    refine lv_iconst (v := 0) hx hb dL_law_668 (by decide) ?_
    obtain ⟨c_669, hm⟩ := ck hm
    refine va_iald hx hb hK hP 4 0 rfl rfl c_669 dL_law_669 ?_
    refine lv_iload hx hb dL_law_670 (lv_at hl 0 rfl) ?_
    obtain ⟨r672, h_672, hm⟩ := ob hm
    refine z_callSi (As := [.ref (aa 1), .int (vq (Int32.toNatClampNeg 0)), .int y663]) (rest := []) ⟨hx, hb, hml, hown, htw⟩ (c_L_find l dC dI cI (aa 1) 64 vr F (vq (Int32.toNatClampNeg 0)) y663 r672 h_672) (va_cwS 3 htw gL_law_L_find rfl rfl rfl ks_L_find ⟨Nat.le_of_ble_eq_true rfl, Nat.le_of_ble_eq_true rfl⟩) hK (z_mid (pjQ_1vr cI aa ad vm vr vh vl vq zk zm zb zs zr zu zt zf zg zbd zro zmc zmg zsp zjn vr) hP) rfl hl.1 rfl (Nat.le_of_ble_eq_true rfl) dL_law_672 ⟨Nat.le_trans (show cells + 0 + 0 ≤ cells + 2 by omega) hcc, Nat.le_trans (show slots + 0 + 0 ≤ slots + 12 by omega) hss⟩ ?_
    refine lv_istore (lv' := [(14, .int r672), (13, .int y663), (0, .ref b), (1, .ref (ad 0)), (2, .ref (aa 1)), (3, .ref (aa 0)), (4, .ref (aa 2)), (5, .ref (aa 3)), (6, .ref (aa 4)), (7, .int x7), (8, .int x8), (9, .int x9), (10, .int x10), (11, .int x11), (12, .int x12)]) hx hb dL_law_675 hl (by decide) rfl (fun ls hl => ?_)
    refine lv_aload hx hb dL_law_677 (lv_at hl 7 rfl) ?_
    refine lv_aload hx hb dL_law_679 (lv_at hl 8 rfl) ?_
    refine lv_iconst (v := 1) hx hb dL_law_681 (by decide) ?_
    obtain ⟨c_682, hm⟩ := ck hm
    refine va_iald hx hb hK hP 4 0 rfl rfl c_682 dL_law_682 ?_
    refine lv_iload hx hb dL_law_683 (lv_at hl 1 rfl) ?_
    obtain ⟨r685, h_685, hm⟩ := ob hm
    refine z_callSi (As := [.ref (aa 3), .int (vq (Int32.toNatClampNeg 1)), .int y663]) (rest := []) ⟨hx, hb, hml, hown, htw⟩ (c_L_find l dC dI cI (aa 3) 16 vl F (vq (Int32.toNatClampNeg 1)) y663 r685 h_685) (va_cwS 3 htw gL_law_L_find rfl rfl rfl ks_L_find ⟨Nat.le_of_ble_eq_true rfl, Nat.le_of_ble_eq_true rfl⟩) hK (z_mid (pjQ_1vl cI aa ad vm vr vh vl vq zk zm zb zs zr zu zt zf zg zbd zro zmc zmg zsp zjn vl) hP) rfl hl.1 rfl (Nat.le_of_ble_eq_true rfl) dL_law_685 ⟨Nat.le_trans (show cells + 0 + 0 ≤ cells + 2 by omega) hcc, Nat.le_trans (show slots + 0 + 0 ≤ slots + 12 by omega) hss⟩ ?_
    refine lv_istore (lv' := [(15, .int r685), (14, .int r672), (13, .int y663), (0, .ref b), (1, .ref (ad 0)), (2, .ref (aa 1)), (3, .ref (aa 0)), (4, .ref (aa 2)), (5, .ref (aa 3)), (6, .ref (aa 4)), (7, .int x7), (8, .int x8), (9, .int x9), (10, .int x10), (11, .int x11), (12, .int x12)]) hx hb dL_law_688 hl (by decide) rfl (fun ls hl => ?_)
    refine lv_iload hx hb dL_law_690 (lv_at hl 0 rfl) ?_
    refine lv_if_ge (tgt := 722) hx hb dL_law_692 (by decide) (fun c_692 => ?_) (fun c_692 => ?_)
    · have hm := it_t hm c_692
      refine lv_iload hx hb dL_law_722 (lv_at hl 0 rfl) ?_
      obtain ⟨z_755, hq_755, hm⟩ := ob hm
      have J_755 : ∀ (vmj755 : Nat → Int32), ∀ (vlj755 : Nat → Int32), ∀ (vqj755 : Nat → Int32), z_755 = (vmj755, vlj755, vqj755) → ∀ (H : Heap) (locs : List Loc), va_P (dC, dI) vwCl (wQ cI aa ad vmj755 vr vh vlj755 vqj755 zk zm zb zs zr zu zt zf zg zbd zro zmc zmg zsp zjn) H → va_D A (wQ cI aa ad vmj755 vr vh vlj755 vqj755 zk zm zb zs zr zu zt zf zg zbd zro zmc zmg zsp zjn) → va_S A s.heap H locs → W p l e room_1 s m #[Value.ref b] below meth c H locs (cells + 0) (slots + 0) (lw_Z below #[Value.ref b] s) (F0 m 755 ls []) := by
        intro vmj755 vlj755 vqj755 ez H locs hP hD hS
        rw [ez] at hm
        refine lv_aload_n hx hb dL_law_755 rfl (lv_at hl 4 rfl) ?_
        refine lv_iload hx hb dL_law_756 (lv_at hl 2 rfl) ?_
        obtain ⟨⟨r758, zm758, zb758, zmc758⟩, h_758, hm⟩ := ob hm
        have h_758 := nz_e h_758
        refine z_callWi (wc := (wL cI ad zk zm zb zs zr zu zt zf zg zbd zro zmc zmg zsp zjn)) (w1 := (wL cI ad zk zm758 zb758 zs zr zu zt zf zg zbd zro zmc758 zmg zsp zjn)) (ws := (wQ cI aa ad vmj755 vr vh vlj755 vqj755 zk zm zb zs zr zu zt zf zg zbd zro zmc zmg zsp zjn)) (ws' := (wQ cI aa ad vmj755 vr vh vlj755 vqj755 zk zm758 zb758 zs zr zu zt zf zg zbd zro zmc758 zmg zsp zjn)) (As := [.int y663]) (rest := []) (ci := 2) (q := (RX2, TX2, 15)) ⟨hx, hb, hml, hown, htw⟩ (n_X2_remove l dC dI cI ad zk zm zb zs zr zu zt zf zg zbd zro zmc zmg zsp zjn F y663 H.size r758 zm758 zb758 zmc758 h_758) (cwV 1 htw gL_law_X2_remove rfl rfl rfl kv_X2_remove ⟨Nat.le_of_ble_eq_true rfl, Nat.le_of_ble_eq_true rfl⟩) hK hP hD hS hA (pjQ_L cI aa ad vmj755 vr vh vlj755 vqj755 zk zm zb zs zr zu zt zf zg zbd zro zmc zmg zsp zjn zk zm758 zb758 zs zr zu zt zf zg zbd zro zmc758 zmg zsp zjn) ((paL cI ad zk zm758 zb758 zs zr zu zt zf zg zbd zro zmc758 zmg zsp zjn).trans (paL cI ad zk zm zb zs zr zu zt zf zg zbd zro zmc zmg zsp zjn).symm) rfl rfl rfl rfl hl.1 rfl (Nat.le_of_ble_eq_true rfl) dL_law_758 ⟨Nat.le_trans (show cells + 0 + 0 ≤ cells + 2 by omega) hcc, Nat.le_trans (show slots + 0 + 0 ≤ slots + 12 by omega) hss⟩ (fun H locs hP hD hS => ?_)
        refine lv_aload_n hx hb dL_law_761 rfl (lv_at hl 5 rfl) ?_
        refine lv_aload_n hx hb dL_law_762 rfl (lv_at hl 6 rfl) ?_
        refine lv_aload hx hb dL_law_763 (lv_at hl 8 rfl) ?_
        refine lv_aload hx hb dL_law_765 (lv_at hl 9 rfl) ?_
        refine lv_ldc2 hx hb hown zw0 dL_law_767 ?_
        obtain ⟨r770, h_770, hm⟩ := ob hm
        refine z_callSi (As := [.ref (aa 1), .ref (aa 0), .ref (aa 3), .ref (aa 4), .long 1000001]) (rest := [.int r758]) ⟨hx, hb, hml, hown, htw⟩ (c_L_below l dC dI cI aa vmj755 vr vh vlj755 vqj755 F 1000001 r770 h_770) (va_cwS 5 htw gL_law_L_below rfl rfl rfl ks_L_below ⟨Nat.le_of_ble_eq_true rfl, Nat.le_of_ble_eq_true rfl⟩) hK (z_mid (pjQ_5 cI aa ad vmj755 vr vh vlj755 vqj755 zk zm758 zb758 zs zr zu zt zf zg zbd zro zmc758 zmg zsp zjn vmj755 vr vh vlj755 vqj755) hP) rfl hl.1 rfl (Nat.le_of_ble_eq_true rfl) dL_law_770 ⟨Nat.le_trans (show cells + 0 + 0 ≤ cells + 2 by omega) hcc, Nat.le_trans (show slots + 0 + 0 ≤ slots + 12 by omega) hss⟩ ?_
        refine lv_icmp_eq (tgt := 778) hx hb dL_law_773 (by decide) (fun c_773 => ?_) (fun c_773 => ?_)
        · have hm := it_t hm c_773
          refine lv_goto (tgt := 1028) hx hb dL_law_778 (by decide) ?_
          refine W.widen (k := (cells + 2)) (n := (slots + 12)) (by omega) (by omega) ?_
          exact K_1028 vmj755 vlj755 vqj755 zk zm758 zb758 zs zr zu zt zf zg zbd zro zmc758 zmg zsp zjn (o2 hm) _ _ hP hD hS _ (lv_sub hl [3, 4, 5, 6, 7, 8, 9, 10, 11, 14, 15] rfl)
        · have hm := it_f hm c_773
          refine lv_iconst (v := 0) hx hb dL_law_776 (by decide) ?_
          exact absurd (o2 hm) (hz _)
      have hm := hq_755
      refine lv_if_lt (tgt := 750) hx hb dL_law_724 (by decide) (fun c_724 => ?_) (fun c_724 => ?_)
      · have hm := it_t hm c_724
        refine lv_aload_n hx hb dL_law_750 rfl (lv_at hl 6 rfl) ?_
        refine lv_iload hx hb dL_law_751 (lv_at hl 1 rfl) ?_
        refine lv_iconst (v := 1) hx hb dL_law_753 (by decide) ?_
        obtain ⟨c_754, hm⟩ := ck hm
        refine va_iast hx hb hK hP hD hS 0 0 rfl rfl c_754 dL_law_754 (fun H locs hP hD hS => ?_)
        have hP : va_P (dC, dI) vwCl (wQ cI aa ad (upd vm (Int32.toNatClampNeg r672) 1) vr vh vl vq zk zm zb zs zr zu zt zf zg zbd zro zmc zmg zsp zjn) H := hP
        have hD : va_D A (wQ cI aa ad (upd vm (Int32.toNatClampNeg r672) 1) vr vh vl vq zk zm zb zs zr zu zt zf zg zbd zro zmc zmg zsp zjn) := hD
        exact J_755 (upd vm (Int32.toNatClampNeg r672) 1) vl vq (o2 hm) _ _ hP hD hS
      · have hm := it_f hm c_724
        refine lv_aload hx hb dL_law_727 (lv_at hl 9 rfl) ?_
        refine lv_iconst (v := 1) hx hb dL_law_729 (by decide) ?_
        refine lv_dup2_11 hx hb dL_law_730 rfl rfl ?_
        obtain ⟨c_731, hm⟩ := ck hm
        refine va_iald hx hb hK hP 4 0 rfl rfl c_731 dL_law_731 ?_
        refine lv_iconst (v := 1) hx hb dL_law_732 (by decide) ?_
        refine lv_isub hx hb dL_law_733 ?_
        obtain ⟨c_734, hm⟩ := ck hm
        refine va_iast hx hb hK hP hD hS 4 0 rfl rfl c_734 dL_law_734 (fun H locs hP hD hS => ?_)
        have hP : va_P (dC, dI) vwCl (wQ cI aa ad vm vr vh vl (upd vq (Int32.toNatClampNeg 1) ((vq (Int32.toNatClampNeg 1)) - 1)) zk zm zb zs zr zu zt zf zg zbd zro zmc zmg zsp zjn) H := hP
        have hD : va_D A (wQ cI aa ad vm vr vh vl (upd vq (Int32.toNatClampNeg 1) ((vq (Int32.toNatClampNeg 1)) - 1)) zk zm zb zs zr zu zt zf zg zbd zro zmc zmg zsp zjn) := hD
        refine lv_aload hx hb dL_law_735 (lv_at hl 8 rfl) ?_
        refine lv_iload hx hb dL_law_737 (lv_at hl 0 rfl) ?_
        refine lv_aload hx hb dL_law_739 (lv_at hl 8 rfl) ?_
        refine lv_aload hx hb dL_law_741 (lv_at hl 9 rfl) ?_
        refine lv_iconst (v := 1) hx hb dL_law_743 (by decide) ?_
        obtain ⟨c_744, hm⟩ := ck hm
        refine va_iald hx hb hK hP 4 0 rfl rfl c_744 dL_law_744 ?_
        obtain ⟨c_745, hm⟩ := ck hm
        refine va_iald hx hb hK hP 3 0 rfl rfl c_745 dL_law_745 ?_
        obtain ⟨c_746, hm⟩ := ck hm
        refine va_iast hx hb hK hP hD hS 3 0 rfl rfl c_746 dL_law_746 (fun H locs hP hD hS => ?_)
        have hP : va_P (dC, dI) vwCl (wQ cI aa ad vm vr vh (upd vl (Int32.toNatClampNeg r685) (vl (Int32.toNatClampNeg ((upd vq (Int32.toNatClampNeg 1) ((vq (Int32.toNatClampNeg 1)) - 1)) (Int32.toNatClampNeg 1))))) (upd vq (Int32.toNatClampNeg 1) ((vq (Int32.toNatClampNeg 1)) - 1)) zk zm zb zs zr zu zt zf zg zbd zro zmc zmg zsp zjn) H := hP
        have hD : va_D A (wQ cI aa ad vm vr vh (upd vl (Int32.toNatClampNeg r685) (vl (Int32.toNatClampNeg ((upd vq (Int32.toNatClampNeg 1) ((vq (Int32.toNatClampNeg 1)) - 1)) (Int32.toNatClampNeg 1))))) (upd vq (Int32.toNatClampNeg 1) ((vq (Int32.toNatClampNeg 1)) - 1)) zk zm zb zs zr zu zt zf zg zbd zro zmc zmg zsp zjn) := hD
        refine lv_goto (tgt := 755) hx hb dL_law_747 (by decide) ?_
        exact J_755 vm (upd vl (Int32.toNatClampNeg r685) (vl (Int32.toNatClampNeg ((upd vq (Int32.toNatClampNeg 1) ((vq (Int32.toNatClampNeg 1)) - 1)) (Int32.toNatClampNeg 1))))) (upd vq (Int32.toNatClampNeg 1) ((vq (Int32.toNatClampNeg 1)) - 1)) (o2 hm) _ _ hP hD hS
    · have hm := it_f hm c_692
      refine lv_iload hx hb dL_law_695 (lv_at hl 1 rfl) ?_
      refine lv_if_lt (tgt := 708) hx hb dL_law_697 (by decide) (fun c_697 => ?_) (fun c_697 => ?_)
      · have hm := it_t hm c_697
        refine lv_aload_n hx hb dL_law_708 rfl (lv_at hl 4 rfl) ?_
        refine lv_iconst (v := 2) hx hb dL_law_709 (by decide) ?_
        refine lv_iload hx hb dL_law_710 (lv_at hl 2 rfl) ?_
        refine lv_iconst (v := 0) hx hb dL_law_712 (by decide) ?_
        obtain ⟨⟨r713, zk713, zm713, zb713, zs713, zr713, zu713, zt713, zf713, zg713, zbd713, zro713, zmc713, zmg713, zsp713, zjn713⟩, h_713, hm⟩ := ob hm
        refine z_hSi (wc := (wL cI ad zk zm zb zs zr zu zt zf zg zbd zro zmc zmg zsp zjn)) (w1 := (wL cI ad zk713 zm713 zb713 zs713 zr713 zu713 zt713 zf713 zg713 zbd713 zro713 zmc713 zmg713 zsp713 zjn713)) (ws := (wQ cI aa ad vm vr vh vl vq zk zm zb zs zr zu zt zf zg zbd zro zmc zmg zsp zjn)) (ws' := (wQ cI aa ad vm vr vh vl vq zk713 zm713 zb713 zs713 zr713 zu713 zt713 zf713 zg713 zbd713 zro713 zmc713 zmg713 zsp713 zjn713)) (As := [.ref (ad 0), .int 2, .int y663, .int 0]) (rest := []) ⟨hx, hb, hml, hown, htw⟩ (c_L_refused l dC dI cI ad zk zm zb zs zr zu zt zf zg zbd zro zmc zmg zsp zjn F 2 y663 0 H.size sa hl9 r713 zk713 zm713 zb713 zs713 zr713 zu713 zt713 zf713 zg713 zbd713 zro713 zmc713 zmg713 zsp713 zjn713 h_713) (vx_cwSW 4 htw gL_law_L_refused rfl rfl rfl (by decide +kernel) ⟨Nat.le_of_ble_eq_true rfl, Nat.le_of_ble_eq_true rfl⟩) hV hNc hK hP hD hS hA (pjQ_L cI aa ad vm vr vh vl vq zk zm zb zs zr zu zt zf zg zbd zro zmc zmg zsp zjn zk713 zm713 zb713 zs713 zr713 zu713 zt713 zf713 zg713 zbd713 zro713 zmc713 zmg713 zsp713 zjn713) ((paL cI ad zk713 zm713 zb713 zs713 zr713 zu713 zt713 zf713 zg713 zbd713 zro713 zmc713 zmg713 zsp713 zjn713).trans (paL cI ad zk zm zb zs zr zu zt zf zg zbd zro zmc zmg zsp zjn).symm) rfl hl.1 rfl (Nat.le_of_ble_eq_true rfl) dL_law_713 ⟨Nat.le_trans (show cells + 0 + 2 ≤ cells + 2 by omega) hcc, Nat.le_trans (show slots + 0 + 12 ≤ slots + 12 by omega) hss⟩ (fun H locs hP hD hS => ?_)
        refine lv_iconst (v := 3) hx hb dL_law_716 (by decide) ?_
        refine lv_icmp_eq (tgt := 1188) hx hb dL_law_717 (by decide) (fun c_717 => ?_) (fun c_717 => ?_)
        · have hm := it_t hm c_717
          exact K_1188 vm vl vq zk713 zm713 zb713 zs713 zr713 zu713 zt713 zf713 zg713 zbd713 zro713 zmc713 zmg713 zsp713 zjn713 (o2 hm) _ _ hP hD hS _ (lv_sub hl [3, 4, 5, 6, 7, 8, 9, 10] rfl)
        · have hm := it_f hm c_717
          refine lv_iconst (v := 0) hx hb dL_law_720 (by decide) ?_
          exact absurd (o2 hm) (hz _)
      · have hm := it_f hm c_697
        refine lv_aload_n hx hb dL_law_700 rfl (lv_at hl 6 rfl) ?_
        refine lv_iload hx hb dL_law_701 (lv_at hl 1 rfl) ?_
        obtain ⟨c_703, hm⟩ := ck hm
        refine va_iald hx hb hK hP 0 0 rfl rfl c_703 dL_law_703 ?_
        refine lv_iconst (v := 1) hx hb dL_law_704 (by decide) ?_
        refine lv_icmp_ne (tgt := 722) hx hb dL_law_705 (by decide) (fun c_705 => ?_) (fun c_705 => ?_)
        · have hm := it_f hm c_705
          refine lv_iload hx hb dL_law_722 (lv_at hl 0 rfl) ?_
          obtain ⟨z_755, hq_755, hm⟩ := ob hm
          have J_755 : ∀ (vmj755_1 : Nat → Int32), ∀ (vlj755_1 : Nat → Int32), ∀ (vqj755_1 : Nat → Int32), z_755 = (vmj755_1, vlj755_1, vqj755_1) → ∀ (H : Heap) (locs : List Loc), va_P (dC, dI) vwCl (wQ cI aa ad vmj755_1 vr vh vlj755_1 vqj755_1 zk zm zb zs zr zu zt zf zg zbd zro zmc zmg zsp zjn) H → va_D A (wQ cI aa ad vmj755_1 vr vh vlj755_1 vqj755_1 zk zm zb zs zr zu zt zf zg zbd zro zmc zmg zsp zjn) → va_S A s.heap H locs → W p l e room_1 s m #[Value.ref b] below meth c H locs (cells + 0) (slots + 0) (lw_Z below #[Value.ref b] s) (F0 m 755 ls []) := by
            intro vmj755_1 vlj755_1 vqj755_1 ez H locs hP hD hS
            rw [ez] at hm
            refine lv_aload_n hx hb dL_law_755 rfl (lv_at hl 4 rfl) ?_
            refine lv_iload hx hb dL_law_756 (lv_at hl 2 rfl) ?_
            obtain ⟨⟨r758_1, zm758_1, zb758_1, zmc758_1⟩, h_758, hm⟩ := ob hm
            have h_758 := nz_e h_758
            refine z_callWi (wc := (wL cI ad zk zm zb zs zr zu zt zf zg zbd zro zmc zmg zsp zjn)) (w1 := (wL cI ad zk zm758_1 zb758_1 zs zr zu zt zf zg zbd zro zmc758_1 zmg zsp zjn)) (ws := (wQ cI aa ad vmj755_1 vr vh vlj755_1 vqj755_1 zk zm zb zs zr zu zt zf zg zbd zro zmc zmg zsp zjn)) (ws' := (wQ cI aa ad vmj755_1 vr vh vlj755_1 vqj755_1 zk zm758_1 zb758_1 zs zr zu zt zf zg zbd zro zmc758_1 zmg zsp zjn)) (As := [.int y663]) (rest := []) (ci := 2) (q := (RX2, TX2, 15)) ⟨hx, hb, hml, hown, htw⟩ (n_X2_remove l dC dI cI ad zk zm zb zs zr zu zt zf zg zbd zro zmc zmg zsp zjn F y663 H.size r758_1 zm758_1 zb758_1 zmc758_1 h_758) (cwV 1 htw gL_law_X2_remove rfl rfl rfl kv_X2_remove ⟨Nat.le_of_ble_eq_true rfl, Nat.le_of_ble_eq_true rfl⟩) hK hP hD hS hA (pjQ_L cI aa ad vmj755_1 vr vh vlj755_1 vqj755_1 zk zm zb zs zr zu zt zf zg zbd zro zmc zmg zsp zjn zk zm758_1 zb758_1 zs zr zu zt zf zg zbd zro zmc758_1 zmg zsp zjn) ((paL cI ad zk zm758_1 zb758_1 zs zr zu zt zf zg zbd zro zmc758_1 zmg zsp zjn).trans (paL cI ad zk zm zb zs zr zu zt zf zg zbd zro zmc zmg zsp zjn).symm) rfl rfl rfl rfl hl.1 rfl (Nat.le_of_ble_eq_true rfl) dL_law_758 ⟨Nat.le_trans (show cells + 0 + 0 ≤ cells + 2 by omega) hcc, Nat.le_trans (show slots + 0 + 0 ≤ slots + 12 by omega) hss⟩ (fun H locs hP hD hS => ?_)
            refine lv_aload_n hx hb dL_law_761 rfl (lv_at hl 5 rfl) ?_
            refine lv_aload_n hx hb dL_law_762 rfl (lv_at hl 6 rfl) ?_
            refine lv_aload hx hb dL_law_763 (lv_at hl 8 rfl) ?_
            refine lv_aload hx hb dL_law_765 (lv_at hl 9 rfl) ?_
            refine lv_ldc2 hx hb hown zw0 dL_law_767 ?_
            obtain ⟨r770_1, h_770, hm⟩ := ob hm
            refine z_callSi (As := [.ref (aa 1), .ref (aa 0), .ref (aa 3), .ref (aa 4), .long 1000001]) (rest := [.int r758_1]) ⟨hx, hb, hml, hown, htw⟩ (c_L_below l dC dI cI aa vmj755_1 vr vh vlj755_1 vqj755_1 F 1000001 r770_1 h_770) (va_cwS 5 htw gL_law_L_below rfl rfl rfl ks_L_below ⟨Nat.le_of_ble_eq_true rfl, Nat.le_of_ble_eq_true rfl⟩) hK (z_mid (pjQ_5 cI aa ad vmj755_1 vr vh vlj755_1 vqj755_1 zk zm758_1 zb758_1 zs zr zu zt zf zg zbd zro zmc758_1 zmg zsp zjn vmj755_1 vr vh vlj755_1 vqj755_1) hP) rfl hl.1 rfl (Nat.le_of_ble_eq_true rfl) dL_law_770 ⟨Nat.le_trans (show cells + 0 + 0 ≤ cells + 2 by omega) hcc, Nat.le_trans (show slots + 0 + 0 ≤ slots + 12 by omega) hss⟩ ?_
            refine lv_icmp_eq (tgt := 778) hx hb dL_law_773 (by decide) (fun c_773 => ?_) (fun c_773 => ?_)
            · have hm := it_t hm c_773
              refine lv_goto (tgt := 1028) hx hb dL_law_778 (by decide) ?_
              refine W.widen (k := (cells + 2)) (n := (slots + 12)) (by omega) (by omega) ?_
              exact K_1028 vmj755_1 vlj755_1 vqj755_1 zk zm758_1 zb758_1 zs zr zu zt zf zg zbd zro zmc758_1 zmg zsp zjn (o2 hm) _ _ hP hD hS _ (lv_sub hl [3, 4, 5, 6, 7, 8, 9, 10, 11, 14, 15] rfl)
            · have hm := it_f hm c_773
              refine lv_iconst (v := 0) hx hb dL_law_776 (by decide) ?_
              exact absurd (o2 hm) (hz _)
          have hm := hq_755
          refine lv_if_lt (tgt := 750) hx hb dL_law_724 (by decide) (fun c_724 => ?_) (fun c_724 => ?_)
          · have hm := it_t hm c_724
            refine lv_aload_n hx hb dL_law_750 rfl (lv_at hl 6 rfl) ?_
            refine lv_iload hx hb dL_law_751 (lv_at hl 1 rfl) ?_
            refine lv_iconst (v := 1) hx hb dL_law_753 (by decide) ?_
            obtain ⟨c_754, hm⟩ := ck hm
            refine va_iast hx hb hK hP hD hS 0 0 rfl rfl c_754 dL_law_754 (fun H locs hP hD hS => ?_)
            have hP : va_P (dC, dI) vwCl (wQ cI aa ad (upd vm (Int32.toNatClampNeg r672) 1) vr vh vl vq zk zm zb zs zr zu zt zf zg zbd zro zmc zmg zsp zjn) H := hP
            have hD : va_D A (wQ cI aa ad (upd vm (Int32.toNatClampNeg r672) 1) vr vh vl vq zk zm zb zs zr zu zt zf zg zbd zro zmc zmg zsp zjn) := hD
            exact J_755 (upd vm (Int32.toNatClampNeg r672) 1) vl vq (o2 hm) _ _ hP hD hS
          · have hm := it_f hm c_724
            refine lv_aload hx hb dL_law_727 (lv_at hl 9 rfl) ?_
            refine lv_iconst (v := 1) hx hb dL_law_729 (by decide) ?_
            refine lv_dup2_11 hx hb dL_law_730 rfl rfl ?_
            obtain ⟨c_731, hm⟩ := ck hm
            refine va_iald hx hb hK hP 4 0 rfl rfl c_731 dL_law_731 ?_
            refine lv_iconst (v := 1) hx hb dL_law_732 (by decide) ?_
            refine lv_isub hx hb dL_law_733 ?_
            obtain ⟨c_734, hm⟩ := ck hm
            refine va_iast hx hb hK hP hD hS 4 0 rfl rfl c_734 dL_law_734 (fun H locs hP hD hS => ?_)
            have hP : va_P (dC, dI) vwCl (wQ cI aa ad vm vr vh vl (upd vq (Int32.toNatClampNeg 1) ((vq (Int32.toNatClampNeg 1)) - 1)) zk zm zb zs zr zu zt zf zg zbd zro zmc zmg zsp zjn) H := hP
            have hD : va_D A (wQ cI aa ad vm vr vh vl (upd vq (Int32.toNatClampNeg 1) ((vq (Int32.toNatClampNeg 1)) - 1)) zk zm zb zs zr zu zt zf zg zbd zro zmc zmg zsp zjn) := hD
            refine lv_aload hx hb dL_law_735 (lv_at hl 8 rfl) ?_
            refine lv_iload hx hb dL_law_737 (lv_at hl 0 rfl) ?_
            refine lv_aload hx hb dL_law_739 (lv_at hl 8 rfl) ?_
            refine lv_aload hx hb dL_law_741 (lv_at hl 9 rfl) ?_
            refine lv_iconst (v := 1) hx hb dL_law_743 (by decide) ?_
            obtain ⟨c_744, hm⟩ := ck hm
            refine va_iald hx hb hK hP 4 0 rfl rfl c_744 dL_law_744 ?_
            obtain ⟨c_745, hm⟩ := ck hm
            refine va_iald hx hb hK hP 3 0 rfl rfl c_745 dL_law_745 ?_
            obtain ⟨c_746, hm⟩ := ck hm
            refine va_iast hx hb hK hP hD hS 3 0 rfl rfl c_746 dL_law_746 (fun H locs hP hD hS => ?_)
            have hP : va_P (dC, dI) vwCl (wQ cI aa ad vm vr vh (upd vl (Int32.toNatClampNeg r685) (vl (Int32.toNatClampNeg ((upd vq (Int32.toNatClampNeg 1) ((vq (Int32.toNatClampNeg 1)) - 1)) (Int32.toNatClampNeg 1))))) (upd vq (Int32.toNatClampNeg 1) ((vq (Int32.toNatClampNeg 1)) - 1)) zk zm zb zs zr zu zt zf zg zbd zro zmc zmg zsp zjn) H := hP
            have hD : va_D A (wQ cI aa ad vm vr vh (upd vl (Int32.toNatClampNeg r685) (vl (Int32.toNatClampNeg ((upd vq (Int32.toNatClampNeg 1) ((vq (Int32.toNatClampNeg 1)) - 1)) (Int32.toNatClampNeg 1))))) (upd vq (Int32.toNatClampNeg 1) ((vq (Int32.toNatClampNeg 1)) - 1)) zk zm zb zs zr zu zt zf zg zbd zro zmc zmg zsp zjn) := hD
            refine lv_goto (tgt := 755) hx hb dL_law_747 (by decide) ?_
            exact J_755 vm (upd vl (Int32.toNatClampNeg r685) (vl (Int32.toNatClampNeg ((upd vq (Int32.toNatClampNeg 1) ((vq (Int32.toNatClampNeg 1)) - 1)) (Int32.toNatClampNeg 1))))) (upd vq (Int32.toNatClampNeg 1) ((vq (Int32.toNatClampNeg 1)) - 1)) (o2 hm) _ _ hP hD hS
        · have hm := it_t hm c_705
          refine lv_aload_n hx hb dL_law_708 rfl (lv_at hl 4 rfl) ?_
          refine lv_iconst (v := 2) hx hb dL_law_709 (by decide) ?_
          refine lv_iload hx hb dL_law_710 (lv_at hl 2 rfl) ?_
          refine lv_iconst (v := 0) hx hb dL_law_712 (by decide) ?_
          obtain ⟨⟨r713_1, zk713_1, zm713_1, zb713_1, zs713_1, zr713_1, zu713_1, zt713_1, zf713_1, zg713_1, zbd713_1, zro713_1, zmc713_1, zmg713_1, zsp713_1, zjn713_1⟩, h_713, hm⟩ := ob hm
          refine z_hSi (wc := (wL cI ad zk zm zb zs zr zu zt zf zg zbd zro zmc zmg zsp zjn)) (w1 := (wL cI ad zk713_1 zm713_1 zb713_1 zs713_1 zr713_1 zu713_1 zt713_1 zf713_1 zg713_1 zbd713_1 zro713_1 zmc713_1 zmg713_1 zsp713_1 zjn713_1)) (ws := (wQ cI aa ad vm vr vh vl vq zk zm zb zs zr zu zt zf zg zbd zro zmc zmg zsp zjn)) (ws' := (wQ cI aa ad vm vr vh vl vq zk713_1 zm713_1 zb713_1 zs713_1 zr713_1 zu713_1 zt713_1 zf713_1 zg713_1 zbd713_1 zro713_1 zmc713_1 zmg713_1 zsp713_1 zjn713_1)) (As := [.ref (ad 0), .int 2, .int y663, .int 0]) (rest := []) ⟨hx, hb, hml, hown, htw⟩ (c_L_refused l dC dI cI ad zk zm zb zs zr zu zt zf zg zbd zro zmc zmg zsp zjn F 2 y663 0 H.size sa hl9 r713_1 zk713_1 zm713_1 zb713_1 zs713_1 zr713_1 zu713_1 zt713_1 zf713_1 zg713_1 zbd713_1 zro713_1 zmc713_1 zmg713_1 zsp713_1 zjn713_1 h_713) (vx_cwSW 4 htw gL_law_L_refused rfl rfl rfl (by decide +kernel) ⟨Nat.le_of_ble_eq_true rfl, Nat.le_of_ble_eq_true rfl⟩) hV hNc hK hP hD hS hA (pjQ_L cI aa ad vm vr vh vl vq zk zm zb zs zr zu zt zf zg zbd zro zmc zmg zsp zjn zk713_1 zm713_1 zb713_1 zs713_1 zr713_1 zu713_1 zt713_1 zf713_1 zg713_1 zbd713_1 zro713_1 zmc713_1 zmg713_1 zsp713_1 zjn713_1) ((paL cI ad zk713_1 zm713_1 zb713_1 zs713_1 zr713_1 zu713_1 zt713_1 zf713_1 zg713_1 zbd713_1 zro713_1 zmc713_1 zmg713_1 zsp713_1 zjn713_1).trans (paL cI ad zk zm zb zs zr zu zt zf zg zbd zro zmc zmg zsp zjn).symm) rfl hl.1 rfl (Nat.le_of_ble_eq_true rfl) dL_law_713 ⟨Nat.le_trans (show cells + 0 + 2 ≤ cells + 2 by omega) hcc, Nat.le_trans (show slots + 0 + 12 ≤ slots + 12 by omega) hss⟩ (fun H locs hP hD hS => ?_)
          refine lv_iconst (v := 3) hx hb dL_law_716 (by decide) ?_
          refine lv_icmp_eq (tgt := 1188) hx hb dL_law_717 (by decide) (fun c_717 => ?_) (fun c_717 => ?_)
          · have hm := it_t hm c_717
            exact K_1188 vm vl vq zk713_1 zm713_1 zb713_1 zs713_1 zr713_1 zu713_1 zt713_1 zf713_1 zg713_1 zbd713_1 zro713_1 zmc713_1 zmg713_1 zsp713_1 zjn713_1 (o2 hm) _ _ hP hD hS _ (lv_sub hl [3, 4, 5, 6, 7, 8, 9, 10] rfl)
          · have hm := it_f hm c_717
            refine lv_iconst (v := 0) hx hb dL_law_720 (by decide) ?_
            exact absurd (o2 hm) (hz _)
  have hm := hq_663
  refine lv_if_ge (tgt := 645) hx hb dL_law_635 (by decide) (fun c_635 => ?_) (fun c_635 => ?_)
  · have hm := it_t hm c_635
    refine lv_iload hx hb dL_law_645 (lv_at hl 12 rfl) ?_
    refine lv_goto (tgt := 663) hx hb dL_law_647 (by decide) ?_
    exact J_663 x12 (o2 hm)
  · have hm := it_f hm c_635
    refine lv_aload hx hb dL_law_638 (lv_at hl 6 rfl) ?_
    refine lv_iconst (v := 0) hx hb dL_law_640 (by decide) ?_
    obtain ⟨c_641, hm⟩ := ck hm
    refine va_iald hx hb hK hP 4 0 rfl rfl c_641 dL_law_641 ?_
    refine lv_if_ne (tgt := 650) hx hb dL_law_642 (by decide) (fun c_642 => ?_) (fun c_642 => ?_)
    · have hm := it_f hm c_642
      refine lv_aload_n hx hb dL_law_650 rfl (lv_at hl 2 rfl) ?_
      refine lv_iload hx hb dL_law_651 (lv_at hl 9 rfl) ?_
      refine lv_iconst (v := 5) hx hb dL_law_653 (by decide) ?_
      refine lv_ishr hx hb dL_law_654 ?_
      refine lv_aload hx hb dL_law_655 (lv_at hl 6 rfl) ?_
      refine lv_iconst (v := 0) hx hb dL_law_657 (by decide) ?_
      obtain ⟨c_658, hm⟩ := ck hm
      refine va_iald hx hb hK hP 4 0 rfl rfl c_658 dL_law_658 ?_
      obtain ⟨r659, h_659, hm⟩ := ob hm
      refine z_callSi (As := [.int (x9 >>> (5 &&& 31)), .int (vq (Int32.toNatClampNeg 0))]) (rest := [.ref (aa 1)]) ⟨hx, hb, hml, hown, htw⟩ (c_L_low l dC dI F (x9 >>> (5 &&& 31)) (vq (Int32.toNatClampNeg 0)) r659 h_659) (va_cwS 2 htw gL_law_L_low rfl rfl rfl ks_L_low ⟨Nat.le_of_ble_eq_true rfl, Nat.le_of_ble_eq_true rfl⟩) (hK.sub (tys' := []) [] rfl) z_P0 rfl hl.1 rfl (Nat.le_of_ble_eq_true rfl) dL_law_659 ⟨Nat.le_trans (show cells + 0 + 0 ≤ cells + 2 by omega) hcc, Nat.le_trans (show slots + 0 + 0 ≤ slots + 12 by omega) hss⟩ ?_
      obtain ⟨c_662, hm⟩ := ck hm
      refine va_iald hx hb hK hP 1 0 rfl rfl c_662 dL_law_662 ?_
      exact J_663 (vr (Int32.toNatClampNeg r659)) (o2 hm)
    · have hm := it_t hm c_642
      refine lv_iload hx hb dL_law_645 (lv_at hl 12 rfl) ?_
      refine lv_goto (tgt := 663) hx hb dL_law_647 (by decide) ?_
      exact J_663 x12 (o2 hm)
