set_option maxHeartbeats 8000000 in
set_option maxRecDepth 100000 in
theorem s_L_seg1028 {p : Program} {l : Launch} {e : Env} {s : State} {m : MethodId} {below : List Frame} {meth : Method} {c : Code} {b L : Nat} {xs : Nat → Int32} (C0 : lw_At p s m meth c b L xs) (hl9 : l.stackTraces = false) {dC : Nat → ClassId} {dI : Nat → Nat → Nat} (cI : ClassId) (aa : Nat → Nat) (ad : Nat → Nat) {sa : Nat → Nat} {A : Nat → Prop} (hA : ∀ q : Nat, s.heap.size ≤ q → A q) (hK : va_K (dC, dI) vwCl [(cI, .int)] s) (hV : zV sa A s s.heap) (hNc : zNcs s) (vm : Nat → Int32) (vr : Nat → Int32) (vh : Nat → Int32) (vl : Nat → Int32) (vq : Nat → Int32) (zk : zN) (zm : zN) (zb : zN) (zs : zN) (zr : zN) (zu : zN) (zt : zT) (zf : zN) (zg : zN) (zbd : Int32) (zro : Int32) (zmc : Int32) (zmg : Int32) (zsp : Int32) (zjn : Int32) (F : Nat) (x7 : Int32) (x8 : Int32) (x11 : Int32) (x12 : Int32) (z : Int32 ⊕ (zN × zN × zN × zN × zN × zN × zT × zN × zN × Int32 × Int32 × Int32 × Int32 × Int32 × Int32)) (hm : L_seg1028 F vm vr vh vl vq zk zm zb zs zr zu zt zf zg zbd zro zmc zmg zsp zjn x8 x11 x12 = some z) (hz : ∀ v, z ≠ Sum.inl v) {cells slots : Nat} (hcc : cells + 12 ≤ room_1.cells) (hss : slots + 188 ≤ room_1.slots) {H : Heap} {locs : List Loc} {ls : Array Slot} (hP : va_P (dC, dI) vwCl (wQ cI aa ad vm vr vh vl vq zk zm zb zs zr zu zt zf zg zbd zro zmc zmg zsp zjn) H) (hD : va_D A (wQ cI aa ad vm vr vh vl vq zk zm zb zs zr zu zt zf zg zbd zro zmc zmg zsp zjn)) (hS : va_S A s.heap H locs) (hl : lv_has ls 19 [(0, .ref b), (1, .ref (ad 0)), (2, .ref (aa 1)), (3, .ref (aa 0)), (4, .ref (aa 2)), (5, .ref (aa 3)), (6, .ref (aa 4)), (7, .int x7), (8, .int x8), (11, .int x11), (12, .int x12)]) (K_1188 : ∀ (u_zk : zN), ∀ (u_zm : zN), ∀ (u_zb : zN), ∀ (u_zs : zN), ∀ (u_zr : zN), ∀ (u_zu : zN), ∀ (u_zt : zT), ∀ (u_zf : zN), ∀ (u_zg : zN), ∀ (u_zbd : Int32), ∀ (u_zro : Int32), ∀ (u_zmc : Int32), ∀ (u_zmg : Int32), ∀ (u_zsp : Int32), ∀ (u_zjn : Int32), z = Sum.inr (u_zk, u_zm, u_zb, u_zs, u_zr, u_zu, u_zt, u_zf, u_zg, u_zbd, u_zro, u_zmc, u_zmg, u_zsp, u_zjn) → ∀ (H : Heap) (locs : List Loc), va_P (dC, dI) vwCl (wQ cI aa ad vm vr vh vl vq u_zk u_zm u_zb u_zs u_zr u_zu u_zt u_zf u_zg u_zbd u_zro u_zmc u_zmg u_zsp u_zjn) H → va_D A (wQ cI aa ad vm vr vh vl vq u_zk u_zm u_zb u_zs u_zr u_zu u_zt u_zf u_zg u_zbd u_zro u_zmc u_zmg u_zsp u_zjn) → va_S A s.heap H locs → ∀ (ls : Array Slot), lv_has ls 19 [(0, .ref b), (1, .ref (ad 0)), (2, .ref (aa 1)), (3, .ref (aa 0)), (4, .ref (aa 2)), (5, .ref (aa 3)), (6, .ref (aa 4)), (7, .int x7)] → W p l e room_1 s m #[Value.ref b] below meth c H locs (cells + 12) (slots + 188) (lw_Z below #[Value.ref b] s) (F0 m 1188 ls [])) : W p l e room_1 s m #[Value.ref b] below meth c H locs (cells + 0) (slots + 0) (lw_Z below #[Value.ref b] s) (F0 m 1028 ls []) := by
  obtain ⟨hx, hb, hr, hml, hown, hts, hX, hbl, hlocks, hgv⟩ := id C0
  have hown : s.vm.findClass RL = some m.cls := hown
  have htw : ∀ w ∈ wsL_law, w.before #[Value.ref b] s = true := fun w h => hts w (wsL_law_in w h)
  refine lv_iconst (v := 0) hx hb dL_law_1028 (by decide) ?_
  refine lv_istore (lv' := [(13, .int 0), (0, .ref b), (1, .ref (ad 0)), (2, .ref (aa 1)), (3, .ref (aa 0)), (4, .ref (aa 2)), (5, .ref (aa 3)), (6, .ref (aa 4)), (7, .int x7), (8, .int x8), (11, .int x11), (12, .int x12)]) hx hb dL_law_1029 hl (by decide) rfl (fun ls hl => ?_)
  refine lv_iconst (v := 0) hx hb dL_law_1031 (by decide) ?_
  refine lv_istore (lv' := [(14, .int 0), (13, .int 0), (0, .ref b), (1, .ref (ad 0)), (2, .ref (aa 1)), (3, .ref (aa 0)), (4, .ref (aa 2)), (5, .ref (aa 3)), (6, .ref (aa 4)), (7, .int x7), (8, .int x8), (11, .int x11), (12, .int x12)]) hx hb dL_law_1032 hl (by decide) rfl (fun ls hl => ?_)
  obtain ⟨z_1034, hq_1034, hm⟩ := ob hm
  have K_1034 : ∀ (x13_2 : Int32), z_1034 = x13_2 → ∀ (ls : Array Slot), lv_has ls 19 [(13, .int x13_2), (0, .ref b), (1, .ref (ad 0)), (2, .ref (aa 1)), (3, .ref (aa 0)), (4, .ref (aa 2)), (5, .ref (aa 3)), (6, .ref (aa 4)), (7, .int x7), (8, .int x8), (11, .int x11), (12, .int x12)] → W p l e room_1 s m #[Value.ref b] below meth c H locs (cells + 0) (slots + 0) (lw_Z below #[Value.ref b] s) (F0 m 1058 ls []) := by
    intro x13_2 ez ls hl
    rw [ez] at hm
    refine lv_aload_n hx hb dL_law_1058 rfl (lv_at hl 2 rfl) ?_
    obtain ⟨r1059, h_1059, hm⟩ := ob hm
    refine z_callRi (As := []) (rest := []) (ci := 2) (q := (RX2, TX2, 15)) ⟨hx, hb, hml, hown, htw⟩ (c_X2_rowSize l dC dI cI ad zk zm zb zs zr zu zt zf zg zbd zro zmc zmg zsp zjn F r1059 h_1059) (cwV 0 htw gL_law_X2_rowSize rfl rfl rfl kv_X2_rowSize ⟨Nat.le_of_ble_eq_true rfl, Nat.le_of_ble_eq_true rfl⟩) hK (z_mid (pjQ_L cI aa ad vm vr vh vl vq zk zm zb zs zr zu zt zf zg zbd zro zmc zmg zsp zjn zk zm zb zs zr zu zt zf zg zbd zro zmc zmg zsp zjn) hP) rfl rfl rfl rfl hl.1 rfl (Nat.le_of_ble_eq_true rfl) dL_law_1059 ⟨Nat.le_trans (show cells + 0 + 0 ≤ cells + 12 by omega) hcc, Nat.le_trans (show slots + 0 + 0 ≤ slots + 188 by omega) hss⟩ ?_
    refine lv_aload hx hb dL_law_1062 (lv_at hl 7 rfl) ?_
    refine lv_iconst (v := 0) hx hb dL_law_1064 (by decide) ?_
    obtain ⟨c_1065, hm⟩ := ck hm
    refine va_iald hx hb hK hP 4 0 rfl rfl c_1065 dL_law_1065 ?_
    refine lv_icmp_ne (tgt := 1123) hx hb dL_law_1066 (by decide) (fun c_1066 => ?_) (fun c_1066 => ?_)
    · have hm := it_f hm c_1066
      refine lv_iconst (v := 0) hx hb dL_law_1123 (by decide) ?_
      exact absurd (o2 hm) (hz _)
    · have hm := it_t hm c_1066
      refine lv_aload_n hx hb dL_law_1069 rfl (lv_at hl 2 rfl) ?_
      obtain ⟨r1070, h_1070, hm⟩ := ob hm
      refine z_callRi (As := []) (rest := []) (ci := 2) (q := (RX2, TX2, 15)) ⟨hx, hb, hml, hown, htw⟩ (c_X2_buffered l dC dI cI ad zk zm zb zs zr zu zt zf zg zbd zro zmc zmg zsp zjn F r1070 h_1070) (cwV 0 htw gL_law_X2_buffered rfl rfl rfl kv_X2_buffered ⟨Nat.le_of_ble_eq_true rfl, Nat.le_of_ble_eq_true rfl⟩) hK (z_mid (pjQ_L cI aa ad vm vr vh vl vq zk zm zb zs zr zu zt zf zg zbd zro zmc zmg zsp zjn zk zm zb zs zr zu zt zf zg zbd zro zmc zmg zsp zjn) hP) rfl rfl rfl rfl hl.1 rfl (Nat.le_of_ble_eq_true rfl) dL_law_1070 ⟨Nat.le_trans (show cells + 0 + 0 ≤ cells + 12 by omega) hcc, Nat.le_trans (show slots + 0 + 0 ≤ slots + 188 by omega) hss⟩ ?_
      refine lv_aload hx hb dL_law_1073 (lv_at hl 7 rfl) ?_
      refine lv_iconst (v := 1) hx hb dL_law_1075 (by decide) ?_
      obtain ⟨c_1076, hm⟩ := ck hm
      refine va_iald hx hb hK hP 4 0 rfl rfl c_1076 dL_law_1076 ?_
      refine lv_icmp_ne (tgt := 1123) hx hb dL_law_1077 (by decide) (fun c_1077 => ?_) (fun c_1077 => ?_)
      · have hm := it_f hm c_1077
        refine lv_iconst (v := 0) hx hb dL_law_1123 (by decide) ?_
        exact absurd (o2 hm) (hz _)
      · have hm := it_t hm c_1077
        refine lv_aload_n hx hb dL_law_1080 rfl (lv_at hl 2 rfl) ?_
        obtain ⟨r1081, h_1081, hm⟩ := ob hm
        refine z_callRi (As := []) (rest := []) (ci := 2) (q := (RX2, TX2, 15)) ⟨hx, hb, hml, hown, htw⟩ (c_X2_marked l dC dI cI ad zk zm zb zs zr zu zt zf zg zbd zro zmc zmg zsp zjn F r1081 h_1081) (cwV 0 htw gL_law_X2_marked rfl rfl rfl kv_X2_marked ⟨Nat.le_of_ble_eq_true rfl, Nat.le_of_ble_eq_true rfl⟩) hK (z_mid (pjQ_L cI aa ad vm vr vh vl vq zk zm zb zs zr zu zt zf zg zbd zro zmc zmg zsp zjn zk zm zb zs zr zu zt zf zg zbd zro zmc zmg zsp zjn) hP) rfl rfl rfl rfl hl.1 rfl (Nat.le_of_ble_eq_true rfl) dL_law_1081 ⟨Nat.le_trans (show cells + 0 + 0 ≤ cells + 12 by omega) hcc, Nat.le_trans (show slots + 0 + 0 ≤ slots + 188 by omega) hss⟩ ?_
        refine lv_iload hx hb dL_law_1084 (lv_at hl 0 rfl) ?_
        refine lv_icmp_ne (tgt := 1123) hx hb dL_law_1086 (by decide) (fun c_1086 => ?_) (fun c_1086 => ?_)
        · have hm := it_f hm c_1086
          refine lv_iconst (v := 0) hx hb dL_law_1123 (by decide) ?_
          exact absurd (o2 hm) (hz _)
        · have hm := it_t hm c_1086
          refine lv_aload_n hx hb dL_law_1089 rfl (lv_at hl 2 rfl) ?_
          obtain ⟨r1090, h_1090, hm⟩ := ob hm
          refine z_callRi (As := []) (rest := []) (ci := 2) (q := (RX2, TX2, 15)) ⟨hx, hb, hml, hown, htw⟩ (c_X2_merges l dC dI cI ad zk zm zb zs zr zu zt zf zg zbd zro zmc zmg zsp zjn F r1090 h_1090) (cwV 0 htw gL_law_X2_merges rfl rfl rfl kv_X2_merges ⟨Nat.le_of_ble_eq_true rfl, Nat.le_of_ble_eq_true rfl⟩) hK (z_mid (pjQ_L cI aa ad vm vr vh vl vq zk zm zb zs zr zu zt zf zg zbd zro zmc zmg zsp zjn zk zm zb zs zr zu zt zf zg zbd zro zmc zmg zsp zjn) hP) rfl rfl rfl rfl hl.1 rfl (Nat.le_of_ble_eq_true rfl) dL_law_1090 ⟨Nat.le_trans (show cells + 0 + 0 ≤ cells + 12 by omega) hcc, Nat.le_trans (show slots + 0 + 0 ≤ slots + 188 by omega) hss⟩ ?_
          refine lv_aload hx hb dL_law_1093 (lv_at hl 7 rfl) ?_
          refine lv_iconst (v := 4) hx hb dL_law_1095 (by decide) ?_
          obtain ⟨c_1096, hm⟩ := ck hm
          refine va_iald hx hb hK hP 4 0 rfl rfl c_1096 dL_law_1096 ?_
          refine lv_icmp_ne (tgt := 1123) hx hb dL_law_1097 (by decide) (fun c_1097 => ?_) (fun c_1097 => ?_)
          · have hm := it_f hm c_1097
            refine lv_iconst (v := 0) hx hb dL_law_1123 (by decide) ?_
            exact absurd (o2 hm) (hz _)
          · have hm := it_t hm c_1097
            refine lv_aload_n hx hb dL_law_1100 rfl (lv_at hl 2 rfl) ?_
            obtain ⟨r1101, h_1101, hm⟩ := ob hm
            refine z_callRi (As := []) (rest := []) (ci := 2) (q := (RX2, TX2, 15)) ⟨hx, hb, hml, hown, htw⟩ (c_X2_splits l dC dI cI ad zk zm zb zs zr zu zt zf zg zbd zro zmc zmg zsp zjn F r1101 h_1101) (cwV 0 htw gL_law_X2_splits rfl rfl rfl kv_X2_splits ⟨Nat.le_of_ble_eq_true rfl, Nat.le_of_ble_eq_true rfl⟩) hK (z_mid (pjQ_L cI aa ad vm vr vh vl vq zk zm zb zs zr zu zt zf zg zbd zro zmc zmg zsp zjn zk zm zb zs zr zu zt zf zg zbd zro zmc zmg zsp zjn) hP) rfl rfl rfl rfl hl.1 rfl (Nat.le_of_ble_eq_true rfl) dL_law_1101 ⟨Nat.le_trans (show cells + 0 + 0 ≤ cells + 12 by omega) hcc, Nat.le_trans (show slots + 0 + 0 ≤ slots + 188 by omega) hss⟩ ?_
            refine lv_aload hx hb dL_law_1104 (lv_at hl 7 rfl) ?_
            refine lv_iconst (v := 5) hx hb dL_law_1106 (by decide) ?_
            obtain ⟨c_1107, hm⟩ := ck hm
            refine va_iald hx hb hK hP 4 0 rfl rfl c_1107 dL_law_1107 ?_
            refine lv_icmp_ne (tgt := 1123) hx hb dL_law_1108 (by decide) (fun c_1108 => ?_) (fun c_1108 => ?_)
            · have hm := it_f hm c_1108
              refine lv_iconst (v := 0) hx hb dL_law_1123 (by decide) ?_
              exact absurd (o2 hm) (hz _)
            · have hm := it_t hm c_1108
              refine lv_aload_n hx hb dL_law_1111 rfl (lv_at hl 2 rfl) ?_
              obtain ⟨r1112, h_1112, hm⟩ := ob hm
              refine z_callRi (As := []) (rest := []) (ci := 2) (q := (RX2, TX2, 15)) ⟨hx, hb, hml, hown, htw⟩ (c_X2_joins l dC dI cI ad zk zm zb zs zr zu zt zf zg zbd zro zmc zmg zsp zjn F r1112 h_1112) (cwV 0 htw gL_law_X2_joins rfl rfl rfl kv_X2_joins ⟨Nat.le_of_ble_eq_true rfl, Nat.le_of_ble_eq_true rfl⟩) hK (z_mid (pjQ_L cI aa ad vm vr vh vl vq zk zm zb zs zr zu zt zf zg zbd zro zmc zmg zsp zjn zk zm zb zs zr zu zt zf zg zbd zro zmc zmg zsp zjn) hP) rfl rfl rfl rfl hl.1 rfl (Nat.le_of_ble_eq_true rfl) dL_law_1112 ⟨Nat.le_trans (show cells + 0 + 0 ≤ cells + 12 by omega) hcc, Nat.le_trans (show slots + 0 + 0 ≤ slots + 188 by omega) hss⟩ ?_
              refine lv_aload hx hb dL_law_1115 (lv_at hl 7 rfl) ?_
              refine lv_bipush (v := 6) hx hb dL_law_1117 (by decide) ?_
              obtain ⟨c_1119, hm⟩ := ck hm
              refine va_iald hx hb hK hP 4 0 rfl rfl c_1119 dL_law_1119 ?_
              refine lv_icmp_eq (tgt := 1125) hx hb dL_law_1120 (by decide) (fun c_1120 => ?_) (fun c_1120 => ?_)
              · have hm := it_t hm c_1120
                refine lv_aload_n hx hb dL_law_1125 rfl (lv_at hl 2 rfl) ?_
                refine lv_aload_n hx hb dL_law_1126 rfl (lv_at hl 3 rfl) ?_
                refine lv_aload hx hb dL_law_1127 (lv_at hl 5 rfl) ?_
                refine lv_aload hx hb dL_law_1129 (lv_at hl 7 rfl) ?_
                obtain ⟨⟨r1131, zk1131, zm1131, zb1131, zs1131, zr1131, zu1131, zt1131, zf1131, zg1131, zbd1131, zro1131, zmc1131, zmg1131, zsp1131, zjn1131⟩, h_1131, hm⟩ := ob hm
                refine z_hPi (wc := (wQ cI aa ad vm vr vh vl vq zk zm zb zs zr zu zt zf zg zbd zro zmc zmg zsp zjn)) (w1 := (wQ cI aa ad vm vr vh vl vq zk1131 zm1131 zb1131 zs1131 zr1131 zu1131 zt1131 zf1131 zg1131 zbd1131 zro1131 zmc1131 zmg1131 zsp1131 zjn1131)) (ws := (wQ cI aa ad vm vr vh vl vq zk zm zb zs zr zu zt zf zg zbd zro zmc zmg zsp zjn)) (ws' := (wQ cI aa ad vm vr vh vl vq zk1131 zm1131 zb1131 zs1131 zr1131 zu1131 zt1131 zf1131 zg1131 zbd1131 zro1131 zmc1131 zmg1131 zsp1131 zjn1131)) (As := [.ref (ad 0), .ref (aa 1), .ref (aa 2), .ref (aa 4)]) (rest := []) ⟨hx, hb, hml, hown, htw⟩ (c_L_pieces l dC dI cI aa ad vm vr vh vl vq zk zm zb zs zr zu zt zf zg zbd zro zmc zmg zsp zjn F H.size sa hl9 r1131 zk1131 zm1131 zb1131 zs1131 zr1131 zu1131 zt1131 zf1131 zg1131 zbd1131 zro1131 zmc1131 zmg1131 zsp1131 zjn1131 h_1131) (va_cwS 4 htw gL_law_L_pieces rfl rfl rfl ks_L_pieces ⟨Nat.le_of_ble_eq_true rfl, Nat.le_of_ble_eq_true rfl⟩) hV hNc hK hP hD hS hA (z_spAll (wQ cI aa ad vm vr vh vl vq zk zm zb zs zr zu zt zf zg zbd zro zmc zmg zsp zjn) (wQ cI aa ad vm vr vh vl vq zk1131 zm1131 zb1131 zs1131 zr1131 zu1131 zt1131 zf1131 zg1131 zbd1131 zro1131 zmc1131 zmg1131 zsp1131 zjn1131)) ((paQ cI aa ad vm vr vh vl vq zk1131 zm1131 zb1131 zs1131 zr1131 zu1131 zt1131 zf1131 zg1131 zbd1131 zro1131 zmc1131 zmg1131 zsp1131 zjn1131).trans (paQ cI aa ad vm vr vh vl vq zk zm zb zs zr zu zt zf zg zbd zro zmc zmg zsp zjn).symm) rfl hl.1 rfl (Nat.le_of_ble_eq_true rfl) dL_law_1131 ⟨Nat.le_trans (show cells + 0 + 4 ≤ cells + 12 by omega) hcc, Nat.le_trans (show slots + 0 + 140 ≤ slots + 188 by omega) hss⟩ (fun H locs hP hD hS => ?_)
                refine lv_if_eq (tgt := 1186) hx hb dL_law_1134 (by decide) (fun c_1134 => ?_) (fun c_1134 => ?_)
                · have hm := it_t hm c_1134
                  refine lv_iconst (v := 0) hx hb dL_law_1186 (by decide) ?_
                  exact absurd (o2 hm) (hz _)
                · have hm := it_f hm c_1134
                  refine lv_aload_n hx hb dL_law_1137 rfl (lv_at hl 2 rfl) ?_
                  refine lv_iload hx hb dL_law_1138 (lv_at hl 11 rfl) ?_
                  refine lv_iload hx hb dL_law_1140 (lv_at hl 10 rfl) ?_
                  refine lv_aload_n hx hb dL_law_1142 rfl (lv_at hl 3 rfl) ?_
                  refine lv_aload_n hx hb dL_law_1143 rfl (lv_at hl 4 rfl) ?_
                  refine lv_aload hx hb dL_law_1144 (lv_at hl 5 rfl) ?_
                  refine lv_aload hx hb dL_law_1146 (lv_at hl 6 rfl) ?_
                  refine lv_aload hx hb dL_law_1148 (lv_at hl 7 rfl) ?_
                  obtain ⟨⟨r1150, zk1150, zm1150, zb1150, zs1150, zr1150, zu1150, zt1150, zf1150, zg1150, zbd1150, zro1150, zmc1150, zmg1150, zsp1150, zjn1150⟩, h_1150, hm⟩ := ob hm
                  refine z_hPi (wc := (wQ cI aa ad vm vr vh vl vq zk1131 zm1131 zb1131 zs1131 zr1131 zu1131 zt1131 zf1131 zg1131 zbd1131 zro1131 zmc1131 zmg1131 zsp1131 zjn1131)) (w1 := (wQ cI aa ad vm vr vh vl vq zk1150 zm1150 zb1150 zs1150 zr1150 zu1150 zt1150 zf1150 zg1150 zbd1150 zro1150 zmc1150 zmg1150 zsp1150 zjn1150)) (ws := (wQ cI aa ad vm vr vh vl vq zk1131 zm1131 zb1131 zs1131 zr1131 zu1131 zt1131 zf1131 zg1131 zbd1131 zro1131 zmc1131 zmg1131 zsp1131 zjn1131)) (ws' := (wQ cI aa ad vm vr vh vl vq zk1150 zm1150 zb1150 zs1150 zr1150 zu1150 zt1150 zf1150 zg1150 zbd1150 zro1150 zmc1150 zmg1150 zsp1150 zjn1150)) (As := [.ref (ad 0), .int x12, .int x11, .ref (aa 1), .ref (aa 0), .ref (aa 2), .ref (aa 3), .ref (aa 4)]) (rest := []) ⟨hx, hb, hml, hown, htw⟩ (c_L_keys l dC dI cI aa ad vm vr vh vl vq zk1131 zm1131 zb1131 zs1131 zr1131 zu1131 zt1131 zf1131 zg1131 zbd1131 zro1131 zmc1131 zmg1131 zsp1131 zjn1131 F x12 x11 H.size sa hl9 r1150 zk1150 zm1150 zb1150 zs1150 zr1150 zu1150 zt1150 zf1150 zg1150 zbd1150 zro1150 zmc1150 zmg1150 zsp1150 zjn1150 h_1150) (va_cwS 8 htw gL_law_L_keys rfl rfl rfl ks_L_keys ⟨Nat.le_of_ble_eq_true rfl, Nat.le_of_ble_eq_true rfl⟩) hV hNc hK hP hD hS hA (z_spAll (wQ cI aa ad vm vr vh vl vq zk1131 zm1131 zb1131 zs1131 zr1131 zu1131 zt1131 zf1131 zg1131 zbd1131 zro1131 zmc1131 zmg1131 zsp1131 zjn1131) (wQ cI aa ad vm vr vh vl vq zk1150 zm1150 zb1150 zs1150 zr1150 zu1150 zt1150 zf1150 zg1150 zbd1150 zro1150 zmc1150 zmg1150 zsp1150 zjn1150)) ((paQ cI aa ad vm vr vh vl vq zk1150 zm1150 zb1150 zs1150 zr1150 zu1150 zt1150 zf1150 zg1150 zbd1150 zro1150 zmc1150 zmg1150 zsp1150 zjn1150).trans (paQ cI aa ad vm vr vh vl vq zk1131 zm1131 zb1131 zs1131 zr1131 zu1131 zt1131 zf1131 zg1131 zbd1131 zro1131 zmc1131 zmg1131 zsp1131 zjn1131).symm) rfl hl.1 rfl (Nat.le_of_ble_eq_true rfl) dL_law_1150 ⟨Nat.le_trans (show cells + 4 + 4 ≤ cells + 12 by omega) hcc, Nat.le_trans (show slots + 140 + 24 ≤ slots + 188 by omega) hss⟩ (fun H locs hP hD hS => ?_)
                  refine lv_if_eq (tgt := 1186) hx hb dL_law_1153 (by decide) (fun c_1153 => ?_) (fun c_1153 => ?_)
                  · have hm := it_t hm c_1153
                    refine lv_iconst (v := 0) hx hb dL_law_1186 (by decide) ?_
                    exact absurd (o2 hm) (hz _)
                  · have hm := it_f hm c_1153
                    refine lv_aload_n hx hb dL_law_1156 rfl (lv_at hl 2 rfl) ?_
                    refine lv_iload hx hb dL_law_1157 (lv_at hl 10 rfl) ?_
                    refine lv_iload hx hb dL_law_1159 (lv_at hl 9 rfl) ?_
                    refine lv_iconst (v := 3) hx hb dL_law_1161 (by decide) ?_
                    refine lv_ishr hx hb dL_law_1162 ?_
                    refine lv_sipush (v := 200) hx hb dL_law_1163 (by decide) ?_
                    obtain ⟨r1166, h_1166, hm⟩ := ob hm
                    refine z_callSi (As := [.int (x8 >>> (3 &&& 31)), .int 200]) (rest := [.int x11, .ref (ad 0)]) ⟨hx, hb, hml, hown, htw⟩ (c_L_low l dC dI F (x8 >>> (3 &&& 31)) 200 r1166 h_1166) (va_cwS 2 htw gL_law_L_low rfl rfl rfl ks_L_low ⟨Nat.le_of_ble_eq_true rfl, Nat.le_of_ble_eq_true rfl⟩) (hK.sub (tys' := []) [] rfl) z_P0 rfl hl.1 rfl (Nat.le_of_ble_eq_true rfl) dL_law_1166 ⟨Nat.le_trans (show cells + 8 + 0 ≤ cells + 12 by omega) hcc, Nat.le_trans (show slots + 164 + 0 ≤ slots + 188 by omega) hss⟩ ?_
                    refine lv_isub hx hb dL_law_1169 ?_
                    refine lv_iload hx hb dL_law_1170 (lv_at hl 11 rfl) ?_
                    refine lv_aload_n hx hb dL_law_1172 rfl (lv_at hl 3 rfl) ?_
                    refine lv_aload_n hx hb dL_law_1173 rfl (lv_at hl 4 rfl) ?_
                    refine lv_aload hx hb dL_law_1174 (lv_at hl 5 rfl) ?_
                    refine lv_aload hx hb dL_law_1176 (lv_at hl 6 rfl) ?_
                    refine lv_aload hx hb dL_law_1178 (lv_at hl 7 rfl) ?_
                    obtain ⟨⟨r1180, zk1180, zm1180, zb1180, zs1180, zr1180, zu1180, zt1180, zf1180, zg1180, zbd1180, zro1180, zmc1180, zmg1180, zsp1180, zjn1180⟩, h_1180, hm⟩ := ob hm
                    refine z_hPi (wc := (wQ cI aa ad vm vr vh vl vq zk1150 zm1150 zb1150 zs1150 zr1150 zu1150 zt1150 zf1150 zg1150 zbd1150 zro1150 zmc1150 zmg1150 zsp1150 zjn1150)) (w1 := (wQ cI aa ad vm vr vh vl vq zk1180 zm1180 zb1180 zs1180 zr1180 zu1180 zt1180 zf1180 zg1180 zbd1180 zro1180 zmc1180 zmg1180 zsp1180 zjn1180)) (ws := (wQ cI aa ad vm vr vh vl vq zk1150 zm1150 zb1150 zs1150 zr1150 zu1150 zt1150 zf1150 zg1150 zbd1150 zro1150 zmc1150 zmg1150 zsp1150 zjn1150)) (ws' := (wQ cI aa ad vm vr vh vl vq zk1180 zm1180 zb1180 zs1180 zr1180 zu1180 zt1180 zf1180 zg1180 zbd1180 zro1180 zmc1180 zmg1180 zsp1180 zjn1180)) (As := [.ref (ad 0), .int (x11 - r1166), .int x12, .ref (aa 1), .ref (aa 0), .ref (aa 2), .ref (aa 3), .ref (aa 4)]) (rest := []) ⟨hx, hb, hml, hown, htw⟩ (c_L_keys l dC dI cI aa ad vm vr vh vl vq zk1150 zm1150 zb1150 zs1150 zr1150 zu1150 zt1150 zf1150 zg1150 zbd1150 zro1150 zmc1150 zmg1150 zsp1150 zjn1150 F (x11 - r1166) x12 H.size sa hl9 r1180 zk1180 zm1180 zb1180 zs1180 zr1180 zu1180 zt1180 zf1180 zg1180 zbd1180 zro1180 zmc1180 zmg1180 zsp1180 zjn1180 h_1180) (va_cwS 8 htw gL_law_L_keys rfl rfl rfl ks_L_keys ⟨Nat.le_of_ble_eq_true rfl, Nat.le_of_ble_eq_true rfl⟩) hV hNc hK hP hD hS hA (z_spAll (wQ cI aa ad vm vr vh vl vq zk1150 zm1150 zb1150 zs1150 zr1150 zu1150 zt1150 zf1150 zg1150 zbd1150 zro1150 zmc1150 zmg1150 zsp1150 zjn1150) (wQ cI aa ad vm vr vh vl vq zk1180 zm1180 zb1180 zs1180 zr1180 zu1180 zt1180 zf1180 zg1180 zbd1180 zro1180 zmc1180 zmg1180 zsp1180 zjn1180)) ((paQ cI aa ad vm vr vh vl vq zk1180 zm1180 zb1180 zs1180 zr1180 zu1180 zt1180 zf1180 zg1180 zbd1180 zro1180 zmc1180 zmg1180 zsp1180 zjn1180).trans (paQ cI aa ad vm vr vh vl vq zk1150 zm1150 zb1150 zs1150 zr1150 zu1150 zt1150 zf1150 zg1150 zbd1150 zro1150 zmc1150 zmg1150 zsp1150 zjn1150).symm) rfl hl.1 rfl (Nat.le_of_ble_eq_true rfl) dL_law_1180 ⟨Nat.le_trans (show cells + 8 + 4 ≤ cells + 12 by omega) hcc, Nat.le_trans (show slots + 164 + 24 ≤ slots + 188 by omega) hss⟩ (fun H locs hP hD hS => ?_)
                    refine lv_if_ne (tgt := 1188) hx hb dL_law_1183 (by decide) (fun c_1183 => ?_) (fun c_1183 => ?_)
                    · have hm := it_f hm c_1183
                      exact K_1188 zk1180 zm1180 zb1180 zs1180 zr1180 zu1180 zt1180 zf1180 zg1180 zbd1180 zro1180 zmc1180 zmg1180 zsp1180 zjn1180 (o2 hm) _ _ hP hD hS _ (lv_sub hl [1, 2, 3, 4, 5, 6, 7, 8] rfl)
                    · have hm := it_t hm c_1183
                      refine lv_iconst (v := 0) hx hb dL_law_1186 (by decide) ?_
                      exact absurd (o2 hm) (hz _)
              · have hm := it_f hm c_1120
                refine lv_iconst (v := 0) hx hb dL_law_1123 (by decide) ?_
                exact absurd (o2 hm) (hz _)
  have L_1034 : ∀ (n : Nat) (x14 : Int32) (x13 : Int32), L_seg1028_L1034 vm vq n x14 x13 = some z_1034 → ∀ (ls : Array Slot), lv_has ls 19 [(14, .int x14), (13, .int x13), (0, .ref b), (1, .ref (ad 0)), (2, .ref (aa 1)), (3, .ref (aa 0)), (4, .ref (aa 2)), (5, .ref (aa 3)), (6, .ref (aa 4)), (7, .int x7), (8, .int x8), (11, .int x11), (12, .int x12)] → W p l e room_1 s m #[Value.ref b] below meth c H locs (cells + 0) (slots + 0) (lw_Z below #[Value.ref b] s) (F0 m 1034 ls []) := by
    intro n
    induction n with
    | zero => intro x14 x13 hm; cases hm
    | succ n ih_1034 =>
      intro x14 x13 hm ls hl
      refine lv_iload hx hb dL_law_1034 (lv_at hl 0 rfl) ?_
      refine lv_aload hx hb dL_law_1036 (lv_at hl 8 rfl) ?_
      refine lv_iconst (v := 0) hx hb dL_law_1038 (by decide) ?_
      obtain ⟨c_1039, hm⟩ := ck hm
      refine va_iald hx hb hK hP 4 0 rfl rfl c_1039 dL_law_1039 ?_
      refine lv_icmp_ge (tgt := 1058) hx hb dL_law_1040 (by decide) (fun c_1040 => ?_) (fun c_1040 => ?_)
      · have hm := it_t hm c_1040
        exact K_1034 x13 (o2 hm) _ (lv_sub hl [1, 2, 3, 4, 5, 6, 7, 8, 9, 10, 11, 12] rfl)
      · have hm := it_f hm c_1040
        refine lv_iload hx hb dL_law_1043 (lv_at hl 1 rfl) ?_
        refine lv_aload_n hx hb dL_law_1045 rfl (lv_at hl 5 rfl) ?_
        refine lv_iload hx hb dL_law_1046 (lv_at hl 0 rfl) ?_
        obtain ⟨c_1048, hm⟩ := ck hm
        refine va_iald hx hb hK hP 0 0 rfl rfl c_1048 dL_law_1048 ?_
        refine lv_iadd hx hb dL_law_1049 ?_
        refine lv_topi (fun x13_1 e_x13_1 => ?_)
        have hm := bnd_e hm e_x13_1
        refine lv_istore (lv' := [(13, .int x13_1), (14, .int x14), (0, .ref b), (1, .ref (ad 0)), (2, .ref (aa 1)), (3, .ref (aa 0)), (4, .ref (aa 2)), (5, .ref (aa 3)), (6, .ref (aa 4)), (7, .int x7), (8, .int x8), (11, .int x11), (12, .int x12)]) hx hb dL_law_1050 hl (by decide) rfl (fun ls hl => ?_)
        obtain ⟨x14_1, e_x14_1⟩ : ∃ y : Int32, y = x14 + 1 := ⟨_, rfl⟩
        have hm := bnd_e hm e_x14_1
        refine lv_iinc (v := x14_1) (lv' := [(14, .int x14_1), (13, .int x13_1), (0, .ref b), (1, .ref (ad 0)), (2, .ref (aa 1)), (3, .ref (aa 0)), (4, .ref (aa 2)), (5, .ref (aa 3)), (6, .ref (aa 4)), (7, .int x7), (8, .int x8), (11, .int x11), (12, .int x12)]) hx hb dL_law_1052 hl (k := 1) rfl (by rw [e_x14_1]; rfl) (by decide) rfl (fun ls hl => ?_)
        refine lv_goto (tgt := 1034) hx hb dL_law_1055 (by decide) ?_
        exact ih_1034 x14_1 x13_1 hm _ (lv_sub hl [0, 1, 2, 3, 4, 5, 6, 7, 8, 9, 10, 11, 12] rfl)
  exact L_1034 F 0 0 hq_1034 _ (lv_sub hl [0, 1, 2, 3, 4, 5, 6, 7, 8, 9, 10, 11, 12] rfl)
