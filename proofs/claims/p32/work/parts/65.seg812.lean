set_option maxHeartbeats 8000000 in
set_option maxRecDepth 100000 in
theorem s_L_seg812 {p : Program} {l : Launch} {e : Env} {s : State} {m : MethodId} {below : List Frame} {meth : Method} {c : Code} {b L : Nat} {xs : Nat → Int32} (C0 : lw_At p s m meth c b L xs) (hl9 : l.stackTraces = false) {dC : Nat → ClassId} {dI : Nat → Nat → Nat} (cI : ClassId) (aa : Nat → Nat) (ad : Nat → Nat) {sa : Nat → Nat} {A : Nat → Prop} (hA : ∀ q : Nat, s.heap.size ≤ q → A q) (hK : va_K (dC, dI) vwCl [(cI, .int)] s) (hV : zV sa A s s.heap) (hNc : zNcs s) (vm : Nat → Int32) (vr : Nat → Int32) (vh : Nat → Int32) (vl : Nat → Int32) (vq : Nat → Int32) (zk : zN) (zm : zN) (zb : zN) (zs : zN) (zr : zN) (zu : zN) (zt : zT) (zf : zN) (zg : zN) (zbd : Int32) (zro : Int32) (zmc : Int32) (zmg : Int32) (zsp : Int32) (zjn : Int32) (F : Nat) (x7 : Int32) (x8 : Int32) (x9 : Int32) (x10 : Int32) (x11 : Int32) (x12 : Int32) (z : Int32 ⊕ ((Nat → Int32) × (Nat → Int32) × (Nat → Int32) × (Nat → Int32) × zN × zN × zN × zN × zN × zN × zT × zN × zN × Int32 × Int32 × Int32 × Int32 × Int32 × Int32)) (hm : L_seg812 F vm vr vh vl vq zk zm zb zs zr zu zt zf zg zbd zro zmc zmg zsp zjn x9 = some z) (hz : ∀ v, z ≠ Sum.inl v) {cells slots : Nat} (hcc : cells + 4 ≤ room_1.cells) (hss : slots + 24 ≤ room_1.slots) {H : Heap} {locs : List Loc} {ls : Array Slot} (hP : va_P (dC, dI) vwCl (wQ cI aa ad vm vr vh vl vq zk zm zb zs zr zu zt zf zg zbd zro zmc zmg zsp zjn) H) (hD : va_D A (wQ cI aa ad vm vr vh vl vq zk zm zb zs zr zu zt zf zg zbd zro zmc zmg zsp zjn)) (hS : va_S A s.heap H locs) (hl : lv_has ls 19 [(0, .ref b), (1, .ref (ad 0)), (2, .ref (aa 1)), (3, .ref (aa 0)), (4, .ref (aa 2)), (5, .ref (aa 3)), (6, .ref (aa 4)), (7, .int x7), (8, .int x8), (9, .int x9), (10, .int x10), (11, .int x11), (12, .int x12)]) (K_1028 : ∀ (u_vm : Nat → Int32), ∀ (u_vr : Nat → Int32), ∀ (u_vh : Nat → Int32), ∀ (u_vq : Nat → Int32), ∀ (u_zk : zN), ∀ (u_zm : zN), ∀ (u_zb : zN), ∀ (u_zs : zN), ∀ (u_zr : zN), ∀ (u_zu : zN), ∀ (u_zt : zT), ∀ (u_zf : zN), ∀ (u_zg : zN), ∀ (u_zbd : Int32), ∀ (u_zro : Int32), ∀ (u_zmc : Int32), ∀ (u_zmg : Int32), ∀ (u_zsp : Int32), ∀ (u_zjn : Int32), z = Sum.inr (u_vm, u_vr, u_vh, u_vq, u_zk, u_zm, u_zb, u_zs, u_zr, u_zu, u_zt, u_zf, u_zg, u_zbd, u_zro, u_zmc, u_zmg, u_zsp, u_zjn) → ∀ (H : Heap) (locs : List Loc), va_P (dC, dI) vwCl (wQ cI aa ad u_vm u_vr u_vh vl u_vq u_zk u_zm u_zb u_zs u_zr u_zu u_zt u_zf u_zg u_zbd u_zro u_zmc u_zmg u_zsp u_zjn) H → va_D A (wQ cI aa ad u_vm u_vr u_vh vl u_vq u_zk u_zm u_zb u_zs u_zr u_zu u_zt u_zf u_zg u_zbd u_zro u_zmc u_zmg u_zsp u_zjn) → va_S A s.heap H locs → ∀ (ls : Array Slot), lv_has ls 19 [(0, .ref b), (1, .ref (ad 0)), (2, .ref (aa 1)), (3, .ref (aa 0)), (4, .ref (aa 2)), (5, .ref (aa 3)), (6, .ref (aa 4)), (7, .int x7), (8, .int x8), (11, .int x11), (12, .int x12)] → W p l e room_1 s m #[Value.ref b] below meth c H locs (cells + 4) (slots + 24) (lw_Z below #[Value.ref b] s) (F0 m 1028 ls [])) : W p l e room_1 s m #[Value.ref b] below meth c H locs (cells + 0) (slots + 0) (lw_Z below #[Value.ref b] s) (F0 m 812 ls []) := by
  obtain ⟨hx, hb, hr, hml, hown, hts, hX, hbl, hlocks, hgv⟩ := id C0
  have hown : s.vm.findClass RL = some m.cls := hown
  have htw : ∀ w ∈ wsL_law, w.before #[Value.ref b] s = true := fun w h => hts w (wsL_law_in w h)
  refine lv_iload hx hb dL_law_812 (lv_at hl 9 rfl) ?_
  refine lv_iconst (v := 5) hx hb dL_law_814 (by decide) ?_
  obtain ⟨r815, h_815, hm⟩ := ob hm
  refine z_callSi (As := [.int x9, .int 5]) (rest := []) ⟨hx, hb, hml, hown, htw⟩ (c_L_low l dC dI F x9 5 r815 h_815) (va_cwS 2 htw gL_law_L_low rfl rfl rfl ks_L_low ⟨Nat.le_of_ble_eq_true rfl, Nat.le_of_ble_eq_true rfl⟩) (hK.sub (tys' := []) [] rfl) z_P0 rfl hl.1 rfl (Nat.le_of_ble_eq_true rfl) dL_law_815 ⟨Nat.le_trans (show cells + 0 + 0 ≤ cells + 4 by omega) hcc, Nat.le_trans (show slots + 0 + 0 ≤ slots + 24 by omega) hss⟩ ?_
  obtain ⟨z_841, hq_841, hm⟩ := ob hm
  have J_841 : ∀ (y841 : Int32), z_841 = y841 → W p l e room_1 s m #[Value.ref b] below meth c H locs (cells + 0) (slots + 0) (lw_Z below #[Value.ref b] s) (F0 m 841 ls [.int y841]) := by
    intro y841 ez
    rw [ez] at hm
    refine lv_istore (lv' := [(13, .int y841), (0, .ref b), (1, .ref (ad 0)), (2, .ref (aa 1)), (3, .ref (aa 0)), (4, .ref (aa 2)), (5, .ref (aa 3)), (6, .ref (aa 4)), (7, .int x7), (8, .int x8), (9, .int x9), (10, .int x10), (11, .int x11), (12, .int x12)]) hx hb dL_law_841 hl (by decide) rfl (fun ls hl => ?_)
    refine lv_iconst (v := 1) hx hb dL_law_843 (by decide) ?_
    refine lv_iload hx hb dL_law_844 (lv_at hl 10 rfl) ?_
    refine lv_bipush (v := 8) hx hb dL_law_846 (by decide) ?_
    refine lv_ishr hx hb dL_law_848 ?_
    refine lv_bipush (v := 6) hx hb dL_law_849 (by decide) ?_
    obtain ⟨r851, h_851, hm⟩ := ob hm
    refine z_callSi (As := [.int (x9 >>> (8 &&& 31)), .int 6]) (rest := [.int 1]) ⟨hx, hb, hml, hown, htw⟩ (c_L_low l dC dI F (x9 >>> (8 &&& 31)) 6 r851 h_851) (va_cwS 2 htw gL_law_L_low rfl rfl rfl ks_L_low ⟨Nat.le_of_ble_eq_true rfl, Nat.le_of_ble_eq_true rfl⟩) (hK.sub (tys' := []) [] rfl) z_P0 rfl hl.1 rfl (Nat.le_of_ble_eq_true rfl) dL_law_851 ⟨Nat.le_trans (show cells + 0 + 0 ≤ cells + 4 by omega) hcc, Nat.le_trans (show slots + 0 + 0 ≤ slots + 24 by omega) hss⟩ ?_
    refine lv_iadd hx hb dL_law_854 ?_
    refine lv_topi (fun x14 e_x14 => ?_)
    have hm := bnd_e hm e_x14
    refine lv_istore (lv' := [(14, .int x14), (13, .int y841), (0, .ref b), (1, .ref (ad 0)), (2, .ref (aa 1)), (3, .ref (aa 0)), (4, .ref (aa 2)), (5, .ref (aa 3)), (6, .ref (aa 4)), (7, .int x7), (8, .int x8), (9, .int x9), (10, .int x10), (11, .int x11), (12, .int x12)]) hx hb dL_law_855 hl (by decide) rfl (fun ls hl => ?_)
    refine lv_iconst (v := 0) hx hb dL_law_857 (by decide) ?_
    refine lv_istore (lv' := [(15, .int 0), (14, .int x14), (13, .int y841), (0, .ref b), (1, .ref (ad 0)), (2, .ref (aa 1)), (3, .ref (aa 0)), (4, .ref (aa 2)), (5, .ref (aa 3)), (6, .ref (aa 4)), (7, .int x7), (8, .int x8), (9, .int x9), (10, .int x10), (11, .int x11), (12, .int x12)]) hx hb dL_law_858 hl (by decide) rfl (fun ls hl => ?_)
    refine lv_iconst (v := 0) hx hb dL_law_860 (by decide) ?_
    refine lv_istore (lv' := [(16, .int 0), (15, .int 0), (14, .int x14), (13, .int y841), (0, .ref b), (1, .ref (ad 0)), (2, .ref (aa 1)), (3, .ref (aa 0)), (4, .ref (aa 2)), (5, .ref (aa 3)), (6, .ref (aa 4)), (7, .int x7), (8, .int x8), (9, .int x9), (10, .int x10), (11, .int x11), (12, .int x12)]) hx hb dL_law_861 hl (by decide) rfl (fun ls hl => ?_)
    obtain ⟨z_863, hq_863, hm⟩ := ob hm
    have K_863 : ∀ (x15_2 : Int32), ∀ (vrx863 : Nat → Int32), z_863 = (x15_2, vrx863) → ∀ (H : Heap) (locs : List Loc), va_P (dC, dI) vwCl (wQ cI aa ad vm vrx863 vh vl vq zk zm zb zs zr zu zt zf zg zbd zro zmc zmg zsp zjn) H → va_D A (wQ cI aa ad vm vrx863 vh vl vq zk zm zb zs zr zu zt zf zg zbd zro zmc zmg zsp zjn) → va_S A s.heap H locs → ∀ (ls : Array Slot), lv_has ls 19 [(15, .int x15_2), (14, .int x14), (13, .int y841), (0, .ref b), (1, .ref (ad 0)), (2, .ref (aa 1)), (3, .ref (aa 0)), (4, .ref (aa 2)), (5, .ref (aa 3)), (6, .ref (aa 4)), (7, .int x7), (8, .int x8), (11, .int x11), (12, .int x12)] → W p l e room_1 s m #[Value.ref b] below meth c H locs (cells + 0) (slots + 0) (lw_Z below #[Value.ref b] s) (F0 m 900 ls []) := by
      intro x15_2 vrx863 ez H locs hP hD hS ls hl
      rw [ez] at hm
      refine lv_iconst (v := 0) hx hb dL_law_900 (by decide) ?_
      refine lv_istore (lv' := [(16, .int 0), (15, .int x15_2), (14, .int x14), (13, .int y841), (0, .ref b), (1, .ref (ad 0)), (2, .ref (aa 1)), (3, .ref (aa 0)), (4, .ref (aa 2)), (5, .ref (aa 3)), (6, .ref (aa 4)), (7, .int x7), (8, .int x8), (11, .int x11), (12, .int x12)]) hx hb dL_law_901 hl (by decide) rfl (fun ls hl => ?_)
      obtain ⟨z_903, hq_903, hm⟩ := ob hm
      have K_903 : ∀ (x15_5 : Int32), ∀ (vrx903 : Nat → Int32), z_903 = (x15_5, vrx903) → ∀ (H : Heap) (locs : List Loc), va_P (dC, dI) vwCl (wQ cI aa ad vm vrx903 vh vl vq zk zm zb zs zr zu zt zf zg zbd zro zmc zmg zsp zjn) H → va_D A (wQ cI aa ad vm vrx903 vh vl vq zk zm zb zs zr zu zt zf zg zbd zro zmc zmg zsp zjn) → va_S A s.heap H locs → ∀ (ls : Array Slot), lv_has ls 19 [(15, .int x15_5), (14, .int x14), (13, .int y841), (0, .ref b), (1, .ref (ad 0)), (2, .ref (aa 1)), (3, .ref (aa 0)), (4, .ref (aa 2)), (5, .ref (aa 3)), (6, .ref (aa 4)), (7, .int x7), (8, .int x8), (11, .int x11), (12, .int x12)] → W p l e room_1 s m #[Value.ref b] below meth c H locs (cells + 0) (slots + 0) (lw_Z below #[Value.ref b] s) (F0 m 933 ls []) := by
        intro x15_5 vrx903 ez H locs hP hD hS ls hl
        rw [ez] at hm
        refine lv_iconst (v := 0) hx hb dL_law_933 (by decide) ?_
        refine lv_istore (lv' := [(16, .int 0), (15, .int x15_5), (14, .int x14), (13, .int y841), (0, .ref b), (1, .ref (ad 0)), (2, .ref (aa 1)), (3, .ref (aa 0)), (4, .ref (aa 2)), (5, .ref (aa 3)), (6, .ref (aa 4)), (7, .int x7), (8, .int x8), (11, .int x11), (12, .int x12)]) hx hb dL_law_934 hl (by decide) rfl (fun ls hl => ?_)
        obtain ⟨z_936, hq_936, hm⟩ := ob hm
        have K_936 : ∀ (vmx936 : Nat → Int32), z_936 = vmx936 → ∀ (H : Heap) (locs : List Loc), va_P (dC, dI) vwCl (wQ cI aa ad vmx936 vrx903 vh vl vq zk zm zb zs zr zu zt zf zg zbd zro zmc zmg zsp zjn) H → va_D A (wQ cI aa ad vmx936 vrx903 vh vl vq zk zm zb zs zr zu zt zf zg zbd zro zmc zmg zsp zjn) → va_S A s.heap H locs → ∀ (ls : Array Slot), lv_has ls 19 [(15, .int x15_5), (14, .int x14), (13, .int y841), (0, .ref b), (1, .ref (ad 0)), (2, .ref (aa 1)), (3, .ref (aa 0)), (4, .ref (aa 2)), (5, .ref (aa 3)), (6, .ref (aa 4)), (7, .int x7), (8, .int x8), (11, .int x11), (12, .int x12)] → W p l e room_1 s m #[Value.ref b] below meth c H locs (cells + 0) (slots + 0) (lw_Z below #[Value.ref b] s) (F0 m 954 ls []) := by
          intro vmx936 ez H locs hP hD hS ls hl
          rw [ez] at hm
          refine lv_aload hx hb dL_law_954 (lv_at hl 9 rfl) ?_
          refine lv_iconst (v := 0) hx hb dL_law_956 (by decide) ?_
          refine lv_iload hx hb dL_law_957 (lv_at hl 0 rfl) ?_
          obtain ⟨c_959, hm⟩ := ck hm
          refine va_iast hx hb hK hP hD hS 4 0 rfl rfl c_959 dL_law_959 (fun H locs hP hD hS => ?_)
          have hP : va_P (dC, dI) vwCl (wQ cI aa ad vmx936 vrx903 vh vl (upd vq (Int32.toNatClampNeg 0) x15_5) zk zm zb zs zr zu zt zf zg zbd zro zmc zmg zsp zjn) H := hP
          have hD : va_D A (wQ cI aa ad vmx936 vrx903 vh vl (upd vq (Int32.toNatClampNeg 0) x15_5) zk zm zb zs zr zu zt zf zg zbd zro zmc zmg zsp zjn) := hD
          refine lv_aload hx hb dL_law_960 (lv_at hl 9 rfl) ?_
          refine lv_iconst (v := 1) hx hb dL_law_962 (by decide) ?_
          refine lv_iconst (v := 0) hx hb dL_law_963 (by decide) ?_
          obtain ⟨c_964, hm⟩ := ck hm
          refine va_iast hx hb hK hP hD hS 4 0 rfl rfl c_964 dL_law_964 (fun H locs hP hD hS => ?_)
          have hP : va_P (dC, dI) vwCl (wQ cI aa ad vmx936 vrx903 vh vl (upd (upd vq (Int32.toNatClampNeg 0) x15_5) (Int32.toNatClampNeg 1) 0) zk zm zb zs zr zu zt zf zg zbd zro zmc zmg zsp zjn) H := hP
          have hD : va_D A (wQ cI aa ad vmx936 vrx903 vh vl (upd (upd vq (Int32.toNatClampNeg 0) x15_5) (Int32.toNatClampNeg 1) 0) zk zm zb zs zr zu zt zf zg zbd zro zmc zmg zsp zjn) := hD
          refine lv_aload hx hb dL_law_965 (lv_at hl 9 rfl) ?_
          refine lv_iconst (v := 2) hx hb dL_law_967 (by decide) ?_
          refine lv_iload hx hb dL_law_968 (lv_at hl 2 rfl) ?_
          obtain ⟨c_970, hm⟩ := ck hm
          refine va_iast hx hb hK hP hD hS 4 0 rfl rfl c_970 dL_law_970 (fun H locs hP hD hS => ?_)
          have hP : va_P (dC, dI) vwCl (wQ cI aa ad vmx936 vrx903 vh vl (upd (upd (upd vq (Int32.toNatClampNeg 0) x15_5) (Int32.toNatClampNeg 1) 0) (Int32.toNatClampNeg 2) y841) zk zm zb zs zr zu zt zf zg zbd zro zmc zmg zsp zjn) H := hP
          have hD : va_D A (wQ cI aa ad vmx936 vrx903 vh vl (upd (upd (upd vq (Int32.toNatClampNeg 0) x15_5) (Int32.toNatClampNeg 1) 0) (Int32.toNatClampNeg 2) y841) zk zm zb zs zr zu zt zf zg zbd zro zmc zmg zsp zjn) := hD
          refine lv_aload hx hb dL_law_971 (lv_at hl 9 rfl) ?_
          refine lv_iconst (v := 3) hx hb dL_law_973 (by decide) ?_
          refine lv_iload hx hb dL_law_974 (lv_at hl 1 rfl) ?_
          obtain ⟨c_976, hm⟩ := ck hm
          refine va_iast hx hb hK hP hD hS 4 0 rfl rfl c_976 dL_law_976 (fun H locs hP hD hS => ?_)
          have hP : va_P (dC, dI) vwCl (wQ cI aa ad vmx936 vrx903 vh vl (upd (upd (upd (upd vq (Int32.toNatClampNeg 0) x15_5) (Int32.toNatClampNeg 1) 0) (Int32.toNatClampNeg 2) y841) (Int32.toNatClampNeg 3) x14) zk zm zb zs zr zu zt zf zg zbd zro zmc zmg zsp zjn) H := hP
          have hD : va_D A (wQ cI aa ad vmx936 vrx903 vh vl (upd (upd (upd (upd vq (Int32.toNatClampNeg 0) x15_5) (Int32.toNatClampNeg 1) 0) (Int32.toNatClampNeg 2) y841) (Int32.toNatClampNeg 3) x14) zk zm zb zs zr zu zt zf zg zbd zro zmc zmg zsp zjn) := hD
          refine lv_aload_n hx hb dL_law_977 rfl (lv_at hl 4 rfl) ?_
          refine lv_bipush (v := 6) hx hb dL_law_978 (by decide) ?_
          refine lv_bipush (v := 21) hx hb dL_law_980 (by decide) ?_
          refine lv_iload hx hb dL_law_982 (lv_at hl 1 rfl) ?_
          obtain ⟨⟨r984, zk984, zm984, zb984, zs984, zr984, zu984, zt984, zf984, zg984, zbd984, zro984, zmc984, zmg984, zsp984, zjn984⟩, h_984, hm⟩ := ob hm
          refine z_hSi (wc := (wL cI ad zk zm zb zs zr zu zt zf zg zbd zro zmc zmg zsp zjn)) (w1 := (wL cI ad zk984 zm984 zb984 zs984 zr984 zu984 zt984 zf984 zg984 zbd984 zro984 zmc984 zmg984 zsp984 zjn984)) (ws := (wQ cI aa ad vmx936 vrx903 vh vl (upd (upd (upd (upd vq (Int32.toNatClampNeg 0) x15_5) (Int32.toNatClampNeg 1) 0) (Int32.toNatClampNeg 2) y841) (Int32.toNatClampNeg 3) x14) zk zm zb zs zr zu zt zf zg zbd zro zmc zmg zsp zjn)) (ws' := (wQ cI aa ad vmx936 vrx903 vh vl (upd (upd (upd (upd vq (Int32.toNatClampNeg 0) x15_5) (Int32.toNatClampNeg 1) 0) (Int32.toNatClampNeg 2) y841) (Int32.toNatClampNeg 3) x14) zk984 zm984 zb984 zs984 zr984 zu984 zt984 zf984 zg984 zbd984 zro984 zmc984 zmg984 zsp984 zjn984)) (As := [.ref (ad 0), .int 6, .int 21, .int x14]) (rest := []) ⟨hx, hb, hml, hown, htw⟩ (c_L_refused l dC dI cI ad zk zm zb zs zr zu zt zf zg zbd zro zmc zmg zsp zjn F 6 21 x14 H.size sa hl9 r984 zk984 zm984 zb984 zs984 zr984 zu984 zt984 zf984 zg984 zbd984 zro984 zmc984 zmg984 zsp984 zjn984 h_984) (vx_cwSW 4 htw gL_law_L_refused rfl rfl rfl (by decide +kernel) ⟨Nat.le_of_ble_eq_true rfl, Nat.le_of_ble_eq_true rfl⟩) hV hNc hK hP hD hS hA (pjQ_L cI aa ad vmx936 vrx903 vh vl (upd (upd (upd (upd vq (Int32.toNatClampNeg 0) x15_5) (Int32.toNatClampNeg 1) 0) (Int32.toNatClampNeg 2) y841) (Int32.toNatClampNeg 3) x14) zk zm zb zs zr zu zt zf zg zbd zro zmc zmg zsp zjn zk984 zm984 zb984 zs984 zr984 zu984 zt984 zf984 zg984 zbd984 zro984 zmc984 zmg984 zsp984 zjn984) ((paL cI ad zk984 zm984 zb984 zs984 zr984 zu984 zt984 zf984 zg984 zbd984 zro984 zmc984 zmg984 zsp984 zjn984).trans (paL cI ad zk zm zb zs zr zu zt zf zg zbd zro zmc zmg zsp zjn).symm) rfl hl.1 rfl (Nat.le_of_ble_eq_true rfl) dL_law_984 ⟨Nat.le_trans (show cells + 0 + 2 ≤ cells + 4 by omega) hcc, Nat.le_trans (show slots + 0 + 12 ≤ slots + 24 by omega) hss⟩ (fun H locs hP hD hS => ?_)
          refine lv_iconst (v := 1) hx hb dL_law_987 (by decide) ?_
          refine lv_icmp_ne (tgt := 1026) hx hb dL_law_988 (by decide) (fun c_988 => ?_) (fun c_988 => ?_)
          · have hm := it_f hm c_988
            refine lv_iconst (v := 0) hx hb dL_law_1026 (by decide) ?_
            exact absurd (o2 hm) (hz _)
          · have hm := it_t hm c_988
            refine lv_aload_n hx hb dL_law_991 rfl (lv_at hl 4 rfl) ?_
            refine lv_bipush (v := 6) hx hb dL_law_992 (by decide) ?_
            refine lv_iload hx hb dL_law_994 (lv_at hl 2 rfl) ?_
            refine lv_iconst (v := 0) hx hb dL_law_996 (by decide) ?_
            obtain ⟨⟨r997, zk997, zm997, zb997, zs997, zr997, zu997, zt997, zf997, zg997, zbd997, zro997, zmc997, zmg997, zsp997, zjn997⟩, h_997, hm⟩ := ob hm
            refine z_hSi (wc := (wL cI ad zk984 zm984 zb984 zs984 zr984 zu984 zt984 zf984 zg984 zbd984 zro984 zmc984 zmg984 zsp984 zjn984)) (w1 := (wL cI ad zk997 zm997 zb997 zs997 zr997 zu997 zt997 zf997 zg997 zbd997 zro997 zmc997 zmg997 zsp997 zjn997)) (ws := (wQ cI aa ad vmx936 vrx903 vh vl (upd (upd (upd (upd vq (Int32.toNatClampNeg 0) x15_5) (Int32.toNatClampNeg 1) 0) (Int32.toNatClampNeg 2) y841) (Int32.toNatClampNeg 3) x14) zk984 zm984 zb984 zs984 zr984 zu984 zt984 zf984 zg984 zbd984 zro984 zmc984 zmg984 zsp984 zjn984)) (ws' := (wQ cI aa ad vmx936 vrx903 vh vl (upd (upd (upd (upd vq (Int32.toNatClampNeg 0) x15_5) (Int32.toNatClampNeg 1) 0) (Int32.toNatClampNeg 2) y841) (Int32.toNatClampNeg 3) x14) zk997 zm997 zb997 zs997 zr997 zu997 zt997 zf997 zg997 zbd997 zro997 zmc997 zmg997 zsp997 zjn997)) (As := [.ref (ad 0), .int 6, .int y841, .int 0]) (rest := []) ⟨hx, hb, hml, hown, htw⟩ (c_L_refused l dC dI cI ad zk984 zm984 zb984 zs984 zr984 zu984 zt984 zf984 zg984 zbd984 zro984 zmc984 zmg984 zsp984 zjn984 F 6 y841 0 H.size sa hl9 r997 zk997 zm997 zb997 zs997 zr997 zu997 zt997 zf997 zg997 zbd997 zro997 zmc997 zmg997 zsp997 zjn997 h_997) (vx_cwSW 4 htw gL_law_L_refused rfl rfl rfl (by decide +kernel) ⟨Nat.le_of_ble_eq_true rfl, Nat.le_of_ble_eq_true rfl⟩) hV hNc hK hP hD hS hA (pjQ_L cI aa ad vmx936 vrx903 vh vl (upd (upd (upd (upd vq (Int32.toNatClampNeg 0) x15_5) (Int32.toNatClampNeg 1) 0) (Int32.toNatClampNeg 2) y841) (Int32.toNatClampNeg 3) x14) zk984 zm984 zb984 zs984 zr984 zu984 zt984 zf984 zg984 zbd984 zro984 zmc984 zmg984 zsp984 zjn984 zk997 zm997 zb997 zs997 zr997 zu997 zt997 zf997 zg997 zbd997 zro997 zmc997 zmg997 zsp997 zjn997) ((paL cI ad zk997 zm997 zb997 zs997 zr997 zu997 zt997 zf997 zg997 zbd997 zro997 zmc997 zmg997 zsp997 zjn997).trans (paL cI ad zk984 zm984 zb984 zs984 zr984 zu984 zt984 zf984 zg984 zbd984 zro984 zmc984 zmg984 zsp984 zjn984).symm) rfl hl.1 rfl (Nat.le_of_ble_eq_true rfl) dL_law_997 ⟨Nat.le_trans (show cells + 2 + 2 ≤ cells + 4 by omega) hcc, Nat.le_trans (show slots + 12 + 12 ≤ slots + 24 by omega) hss⟩ (fun H locs hP hD hS => ?_)
            refine lv_iconst (v := 1) hx hb dL_law_1000 (by decide) ?_
            refine lv_icmp_ne (tgt := 1026) hx hb dL_law_1001 (by decide) (fun c_1001 => ?_) (fun c_1001 => ?_)
            · have hm := it_f hm c_1001
              refine lv_iconst (v := 0) hx hb dL_law_1026 (by decide) ?_
              exact absurd (o2 hm) (hz _)
            · have hm := it_t hm c_1001
              refine lv_aload_n hx hb dL_law_1004 rfl (lv_at hl 4 rfl) ?_
              refine lv_iload hx hb dL_law_1005 (lv_at hl 2 rfl) ?_
              refine lv_iload hx hb dL_law_1007 (lv_at hl 1 rfl) ?_
              obtain ⟨⟨r1009, zk1009, zm1009, zb1009, zs1009, zr1009, zu1009, zt1009, zf1009, zbd1009, zro1009, zmc1009⟩, h_1009, hm⟩ := ob hm
              have h_1009 := nz_e h_1009
              refine z_callWi (wc := (wL cI ad zk997 zm997 zb997 zs997 zr997 zu997 zt997 zf997 zg997 zbd997 zro997 zmc997 zmg997 zsp997 zjn997)) (w1 := (wL cI ad zk1009 zm1009 zb1009 zs1009 zr1009 zu1009 zt1009 zf1009 zg997 zbd1009 zro1009 zmc1009 zmg997 zsp997 zjn997)) (ws := (wQ cI aa ad vmx936 vrx903 vh vl (upd (upd (upd (upd vq (Int32.toNatClampNeg 0) x15_5) (Int32.toNatClampNeg 1) 0) (Int32.toNatClampNeg 2) y841) (Int32.toNatClampNeg 3) x14) zk997 zm997 zb997 zs997 zr997 zu997 zt997 zf997 zg997 zbd997 zro997 zmc997 zmg997 zsp997 zjn997)) (ws' := (wQ cI aa ad vmx936 vrx903 vh vl (upd (upd (upd (upd vq (Int32.toNatClampNeg 0) x15_5) (Int32.toNatClampNeg 1) 0) (Int32.toNatClampNeg 2) y841) (Int32.toNatClampNeg 3) x14) zk1009 zm1009 zb1009 zs1009 zr1009 zu1009 zt1009 zf1009 zg997 zbd1009 zro1009 zmc1009 zmg997 zsp997 zjn997)) (As := [.int y841, .int x14]) (rest := []) (ci := 2) (q := (RX2, TX2, 15)) ⟨hx, hb, hml, hown, htw⟩ (n_X2_rebuild l dC dI cI ad zk997 zm997 zb997 zs997 zr997 zu997 zt997 zf997 zg997 zbd997 zro997 zmc997 zmg997 zsp997 zjn997 F y841 x14 H.size r1009 zk1009 zm1009 zb1009 zs1009 zr1009 zu1009 zt1009 zf1009 zbd1009 zro1009 zmc1009 h_1009) (cwV 2 htw gL_law_X2_rebuild rfl rfl rfl kv_X2_rebuild ⟨Nat.le_of_ble_eq_true rfl, Nat.le_of_ble_eq_true rfl⟩) hK hP hD hS hA (pjQ_L cI aa ad vmx936 vrx903 vh vl (upd (upd (upd (upd vq (Int32.toNatClampNeg 0) x15_5) (Int32.toNatClampNeg 1) 0) (Int32.toNatClampNeg 2) y841) (Int32.toNatClampNeg 3) x14) zk997 zm997 zb997 zs997 zr997 zu997 zt997 zf997 zg997 zbd997 zro997 zmc997 zmg997 zsp997 zjn997 zk1009 zm1009 zb1009 zs1009 zr1009 zu1009 zt1009 zf1009 zg997 zbd1009 zro1009 zmc1009 zmg997 zsp997 zjn997) ((paL cI ad zk1009 zm1009 zb1009 zs1009 zr1009 zu1009 zt1009 zf1009 zg997 zbd1009 zro1009 zmc1009 zmg997 zsp997 zjn997).trans (paL cI ad zk997 zm997 zb997 zs997 zr997 zu997 zt997 zf997 zg997 zbd997 zro997 zmc997 zmg997 zsp997 zjn997).symm) rfl rfl rfl rfl hl.1 rfl (Nat.le_of_ble_eq_true rfl) dL_law_1009 ⟨Nat.le_trans (show cells + 4 + 0 ≤ cells + 4 by omega) hcc, Nat.le_trans (show slots + 24 + 0 ≤ slots + 24 by omega) hss⟩ (fun H locs hP hD hS => ?_)
              refine lv_aload_n hx hb dL_law_1012 rfl (lv_at hl 5 rfl) ?_
              refine lv_aload hx hb dL_law_1013 (lv_at hl 7 rfl) ?_
              refine lv_iconst (v := 0) hx hb dL_law_1015 (by decide) ?_
              refine lv_iload hx hb dL_law_1016 (lv_at hl 0 rfl) ?_
              refine lv_iload hx hb dL_law_1018 (lv_at hl 2 rfl) ?_
              obtain ⟨⟨r1020, vh1020⟩, h_1020, hm⟩ := ob hm
              refine z_callSWi (wc := (w2 cI (aa 1) (aa 2) vrx903 vh)) (w1 := (w2 cI (aa 1) (aa 2) vrx903 vh1020)) (ws := (wQ cI aa ad vmx936 vrx903 vh vl (upd (upd (upd (upd vq (Int32.toNatClampNeg 0) x15_5) (Int32.toNatClampNeg 1) 0) (Int32.toNatClampNeg 2) y841) (Int32.toNatClampNeg 3) x14) zk1009 zm1009 zb1009 zs1009 zr1009 zu1009 zt1009 zf1009 zg997 zbd1009 zro1009 zmc1009 zmg997 zsp997 zjn997)) (ws' := (wQ cI aa ad vmx936 vrx903 vh1020 vl (upd (upd (upd (upd vq (Int32.toNatClampNeg 0) x15_5) (Int32.toNatClampNeg 1) 0) (Int32.toNatClampNeg 2) y841) (Int32.toNatClampNeg 3) x14) zk1009 zm1009 zb1009 zs1009 zr1009 zu1009 zt1009 zf1009 zg997 zbd1009 zro1009 zmc1009 zmg997 zsp997 zjn997)) (As := [.ref (aa 1), .ref (aa 2), .int 0, .int x15_5, .int y841]) (rest := [.int r1009]) ⟨hx, hb, hml, hown, htw⟩ (c_L_cuts l dC dI cI (aa 1) (aa 2) vrx903 vh F 0 x15_5 y841 H.size r1020 vh1020 h_1020) (va_cwS 5 htw gL_law_L_cuts rfl rfl rfl ks_L_cuts ⟨Nat.le_of_ble_eq_true rfl, Nat.le_of_ble_eq_true rfl⟩) hK hP hD hS hA (pjQ_2vr cI aa ad vmx936 vrx903 vh vl (upd (upd (upd (upd vq (Int32.toNatClampNeg 0) x15_5) (Int32.toNatClampNeg 1) 0) (Int32.toNatClampNeg 2) y841) (Int32.toNatClampNeg 3) x14) zk1009 zm1009 zb1009 zs1009 zr1009 zu1009 zt1009 zf1009 zg997 zbd1009 zro1009 zmc1009 zmg997 zsp997 zjn997 vrx903 vh1020) ((pa2 cI (aa 1) (aa 2) vrx903 vh1020).trans (pa2 cI (aa 1) (aa 2) vrx903 vh).symm) rfl hl.1 rfl (Nat.le_of_ble_eq_true rfl) dL_law_1020 ⟨Nat.le_trans (show cells + 4 + 0 ≤ cells + 4 by omega) hcc, Nat.le_trans (show slots + 24 + 0 ≤ slots + 24 by omega) hss⟩ (fun H locs hP hD hS => ?_)
              refine lv_icmp_eq (tgt := 1028) hx hb dL_law_1023 (by decide) (fun c_1023 => ?_) (fun c_1023 => ?_)
              · have hm := it_t hm c_1023
                exact K_1028 vmx936 vrx903 vh1020 (upd (upd (upd (upd vq (Int32.toNatClampNeg 0) x15_5) (Int32.toNatClampNeg 1) 0) (Int32.toNatClampNeg 2) y841) (Int32.toNatClampNeg 3) x14) zk1009 zm1009 zb1009 zs1009 zr1009 zu1009 zt1009 zf1009 zg997 zbd1009 zro1009 zmc1009 zmg997 zsp997 zjn997 (o2 hm) _ _ hP hD hS _ (lv_sub hl [3, 4, 5, 6, 7, 8, 9, 10, 11, 12, 13] rfl)
              · have hm := it_f hm c_1023
                refine lv_iconst (v := 0) hx hb dL_law_1026 (by decide) ?_
                exact absurd (o2 hm) (hz _)
        have L_936 : ∀ (n : Nat) (x16_5 : Int32) (vml936 : Nat → Int32), L_seg812_L936 n x16_5 vml936 = some z_936 → ∀ (H : Heap) (locs : List Loc), va_P (dC, dI) vwCl (wQ cI aa ad vml936 vrx903 vh vl vq zk zm zb zs zr zu zt zf zg zbd zro zmc zmg zsp zjn) H → va_D A (wQ cI aa ad vml936 vrx903 vh vl vq zk zm zb zs zr zu zt zf zg zbd zro zmc zmg zsp zjn) → va_S A s.heap H locs → ∀ (ls : Array Slot), lv_has ls 19 [(16, .int x16_5), (15, .int x15_5), (14, .int x14), (13, .int y841), (0, .ref b), (1, .ref (ad 0)), (2, .ref (aa 1)), (3, .ref (aa 0)), (4, .ref (aa 2)), (5, .ref (aa 3)), (6, .ref (aa 4)), (7, .int x7), (8, .int x8), (11, .int x11), (12, .int x12)] → W p l e room_1 s m #[Value.ref b] below meth c H locs (cells + 0) (slots + 0) (lw_Z below #[Value.ref b] s) (F0 m 936 ls []) := by
          intro n
          induction n with
          | zero => intro x16_5 vml936 hm; cases hm
          | succ n ih_936 =>
            intro x16_5 vml936 hm H locs hP hD hS ls hl
            refine lv_iload hx hb dL_law_936 (lv_at hl 0 rfl) ?_
            refine lv_bipush (v := 64) hx hb dL_law_938 (by decide) ?_
            refine lv_icmp_ge (tgt := 954) hx hb dL_law_940 (by decide) (fun c_940 => ?_) (fun c_940 => ?_)
            · have hm := it_t hm c_940
              exact K_936 vml936 (o2 hm) _ _ hP hD hS _ (lv_sub hl [1, 2, 3, 4, 5, 6, 7, 8, 9, 10, 11, 12, 13, 14] rfl)
            · have hm := it_f hm c_940
              refine lv_aload_n hx hb dL_law_943 rfl (lv_at hl 7 rfl) ?_
              refine lv_iload hx hb dL_law_944 (lv_at hl 0 rfl) ?_
              refine lv_iconst (v := 0) hx hb dL_law_946 (by decide) ?_
              obtain ⟨c_947, hm⟩ := ck hm
              refine va_iast hx hb hK hP hD hS 0 0 rfl rfl c_947 dL_law_947 (fun H locs hP hD hS => ?_)
              have hP : va_P (dC, dI) vwCl (wQ cI aa ad (upd vml936 (Int32.toNatClampNeg x16_5) 0) vrx903 vh vl vq zk zm zb zs zr zu zt zf zg zbd zro zmc zmg zsp zjn) H := hP
              have hD : va_D A (wQ cI aa ad (upd vml936 (Int32.toNatClampNeg x16_5) 0) vrx903 vh vl vq zk zm zb zs zr zu zt zf zg zbd zro zmc zmg zsp zjn) := hD
              obtain ⟨x16_6, e_x16_6⟩ : ∃ y : Int32, y = x16_5 + 1 := ⟨_, rfl⟩
              have hm := bnd_e hm e_x16_6
              refine lv_iinc (v := x16_6) (lv' := [(16, .int x16_6), (15, .int x15_5), (14, .int x14), (13, .int y841), (0, .ref b), (1, .ref (ad 0)), (2, .ref (aa 1)), (3, .ref (aa 0)), (4, .ref (aa 2)), (5, .ref (aa 3)), (6, .ref (aa 4)), (7, .int x7), (8, .int x8), (11, .int x11), (12, .int x12)]) hx hb dL_law_948 hl (k := 0) rfl (by rw [e_x16_6]; rfl) (by decide) rfl (fun ls hl => ?_)
              refine lv_goto (tgt := 936) hx hb dL_law_951 (by decide) ?_
              exact ih_936 x16_6 (upd vml936 (Int32.toNatClampNeg x16_5) 0) hm _ _ hP hD hS _ (lv_sub hl [0, 1, 2, 3, 4, 5, 6, 7, 8, 9, 10, 11, 12, 13, 14] rfl)
        exact L_936 F 0 vm hq_936 _ _ hP hD hS _ (lv_sub hl [0, 1, 2, 3, 4, 5, 6, 7, 8, 9, 10, 11, 12, 13, 14] rfl)
      have L_903 : ∀ (n : Nat) (x16_3 : Int32) (x15_3 : Int32) (vrl903 : Nat → Int32), L_seg812_L903 vl vq F n x16_3 x15_3 vrl903 = some z_903 → ∀ (H : Heap) (locs : List Loc), va_P (dC, dI) vwCl (wQ cI aa ad vm vrl903 vh vl vq zk zm zb zs zr zu zt zf zg zbd zro zmc zmg zsp zjn) H → va_D A (wQ cI aa ad vm vrl903 vh vl vq zk zm zb zs zr zu zt zf zg zbd zro zmc zmg zsp zjn) → va_S A s.heap H locs → ∀ (ls : Array Slot), lv_has ls 19 [(16, .int x16_3), (15, .int x15_3), (14, .int x14), (13, .int y841), (0, .ref b), (1, .ref (ad 0)), (2, .ref (aa 1)), (3, .ref (aa 0)), (4, .ref (aa 2)), (5, .ref (aa 3)), (6, .ref (aa 4)), (7, .int x7), (8, .int x8), (11, .int x11), (12, .int x12)] → W p l e room_1 s m #[Value.ref b] below meth c H locs (cells + 0) (slots + 0) (lw_Z below #[Value.ref b] s) (F0 m 903 ls []) := by
        intro n
        induction n with
        | zero => intro x16_3 x15_3 vrl903 hm; cases hm
        | succ n ih_903 =>
          intro x16_3 x15_3 vrl903 hm H locs hP hD hS ls hl
          refine lv_iload hx hb dL_law_903 (lv_at hl 0 rfl) ?_
          refine lv_aload hx hb dL_law_905 (lv_at hl 10 rfl) ?_
          refine lv_iconst (v := 1) hx hb dL_law_907 (by decide) ?_
          obtain ⟨c_908, hm⟩ := ck hm
          refine va_iald hx hb hK hP 4 0 rfl rfl c_908 dL_law_908 ?_
          refine lv_icmp_ge (tgt := 933) hx hb dL_law_909 (by decide) (fun c_909 => ?_) (fun c_909 => ?_)
          · have hm := it_t hm c_909
            exact K_903 x15_3 vrl903 (o2 hm) _ _ hP hD hS _ (lv_sub hl [1, 2, 3, 4, 5, 6, 7, 8, 9, 10, 11, 12, 13, 14] rfl)
          · have hm := it_f hm c_909
            refine lv_aload_n hx hb dL_law_912 rfl (lv_at hl 6 rfl) ?_
            refine lv_iconst (v := 0) hx hb dL_law_913 (by decide) ?_
            refine lv_iload hx hb dL_law_914 (lv_at hl 1 rfl) ?_
            refine lv_aload hx hb dL_law_916 (lv_at hl 9 rfl) ?_
            refine lv_iload hx hb dL_law_918 (lv_at hl 0 rfl) ?_
            obtain ⟨c_920, hm⟩ := ck hm
            refine va_iald hx hb hK hP 3 0 rfl rfl c_920 dL_law_920 ?_
            obtain ⟨vr921, h_921, hm⟩ := ob hm
            refine z_callSWv (wc := (w1 cI (aa 1) 64 vrl903)) (w1 := (w1 cI (aa 1) 64 vr921)) (ws := (wQ cI aa ad vm vrl903 vh vl vq zk zm zb zs zr zu zt zf zg zbd zro zmc zmg zsp zjn)) (ws' := (wQ cI aa ad vm vr921 vh vl vq zk zm zb zs zr zu zt zf zg zbd zro zmc zmg zsp zjn)) (As := [.ref (aa 1), .int 0, .int x15_3, .int (vl (Int32.toNatClampNeg x16_3))]) (rest := []) ⟨hx, hb, hml, hown, htw⟩ (c_L_sorts l dC dI cI (aa 1) 64 vrl903 F 0 x15_3 (vl (Int32.toNatClampNeg x16_3)) H.size vr921 h_921) (va_cwS 4 htw gL_law_L_sorts rfl rfl rfl ks_L_sorts ⟨Nat.le_of_ble_eq_true rfl, Nat.le_of_ble_eq_true rfl⟩) hK hP hD hS hA (pjQ_1vr cI aa ad vm vrl903 vh vl vq zk zm zb zs zr zu zt zf zg zbd zro zmc zmg zsp zjn vr921) ((pa1 cI (aa 1) 64 vr921).trans (pa1 cI (aa 1) 64 vrl903).symm) rfl hl.1 rfl (Nat.le_of_ble_eq_true rfl) dL_law_921 ⟨Nat.le_trans (show cells + 0 + 0 ≤ cells + 4 by omega) hcc, Nat.le_trans (show slots + 0 + 0 ≤ slots + 24 by omega) hss⟩ (fun H locs hP hD hS => ?_)
            obtain ⟨x15_4, e_x15_4⟩ : ∃ y : Int32, y = x15_3 + 1 := ⟨_, rfl⟩
            have hm := bnd_e hm e_x15_4
            refine lv_iinc (v := x15_4) (lv' := [(15, .int x15_4), (16, .int x16_3), (14, .int x14), (13, .int y841), (0, .ref b), (1, .ref (ad 0)), (2, .ref (aa 1)), (3, .ref (aa 0)), (4, .ref (aa 2)), (5, .ref (aa 3)), (6, .ref (aa 4)), (7, .int x7), (8, .int x8), (11, .int x11), (12, .int x12)]) hx hb dL_law_924 hl (k := 1) rfl (by rw [e_x15_4]; rfl) (by decide) rfl (fun ls hl => ?_)
            obtain ⟨x16_4, e_x16_4⟩ : ∃ y : Int32, y = x16_3 + 1 := ⟨_, rfl⟩
            have hm := bnd_e hm e_x16_4
            refine lv_iinc (v := x16_4) (lv' := [(16, .int x16_4), (15, .int x15_4), (14, .int x14), (13, .int y841), (0, .ref b), (1, .ref (ad 0)), (2, .ref (aa 1)), (3, .ref (aa 0)), (4, .ref (aa 2)), (5, .ref (aa 3)), (6, .ref (aa 4)), (7, .int x7), (8, .int x8), (11, .int x11), (12, .int x12)]) hx hb dL_law_927 hl (k := 1) rfl (by rw [e_x16_4]; rfl) (by decide) rfl (fun ls hl => ?_)
            refine lv_goto (tgt := 903) hx hb dL_law_930 (by decide) ?_
            exact ih_903 x16_4 x15_4 vr921 hm _ _ hP hD hS _ (lv_sub hl [0, 1, 2, 3, 4, 5, 6, 7, 8, 9, 10, 11, 12, 13, 14] rfl)
      exact L_903 F 0 x15_2 vrx863 hq_903 _ _ hP hD hS _ (lv_sub hl [0, 1, 2, 3, 4, 5, 6, 7, 8, 9, 10, 11, 12, 13, 14] rfl)
    have L_863 : ∀ (n : Nat) (x16 : Int32) (x15 : Int32) (vrl863 : Nat → Int32), L_seg812_L863 vm vq n x16 x15 vrl863 = some z_863 → ∀ (H : Heap) (locs : List Loc), va_P (dC, dI) vwCl (wQ cI aa ad vm vrl863 vh vl vq zk zm zb zs zr zu zt zf zg zbd zro zmc zmg zsp zjn) H → va_D A (wQ cI aa ad vm vrl863 vh vl vq zk zm zb zs zr zu zt zf zg zbd zro zmc zmg zsp zjn) → va_S A s.heap H locs → ∀ (ls : Array Slot), lv_has ls 19 [(16, .int x16), (15, .int x15), (14, .int x14), (13, .int y841), (0, .ref b), (1, .ref (ad 0)), (2, .ref (aa 1)), (3, .ref (aa 0)), (4, .ref (aa 2)), (5, .ref (aa 3)), (6, .ref (aa 4)), (7, .int x7), (8, .int x8), (11, .int x11), (12, .int x12)] → W p l e room_1 s m #[Value.ref b] below meth c H locs (cells + 0) (slots + 0) (lw_Z below #[Value.ref b] s) (F0 m 863 ls []) := by
      intro n
      induction n with
      | zero => intro x16 x15 vrl863 hm; cases hm
      | succ n ih_863 =>
        intro x16 x15 vrl863 hm H locs hP hD hS ls hl
        refine lv_iload hx hb dL_law_863 (lv_at hl 0 rfl) ?_
        refine lv_aload hx hb dL_law_865 (lv_at hl 10 rfl) ?_
        refine lv_iconst (v := 0) hx hb dL_law_867 (by decide) ?_
        obtain ⟨c_868, hm⟩ := ck hm
        refine va_iald hx hb hK hP 4 0 rfl rfl c_868 dL_law_868 ?_
        refine lv_icmp_ge (tgt := 900) hx hb dL_law_869 (by decide) (fun c_869 => ?_) (fun c_869 => ?_)
        · have hm := it_t hm c_869
          exact K_863 x15 vrl863 (o2 hm) _ _ hP hD hS _ (lv_sub hl [1, 2, 3, 4, 5, 6, 7, 8, 9, 10, 11, 12, 13, 14] rfl)
        · have hm := it_f hm c_869
          refine lv_aload_n hx hb dL_law_872 rfl (lv_at hl 7 rfl) ?_
          refine lv_iload hx hb dL_law_873 (lv_at hl 0 rfl) ?_
          obtain ⟨c_875, hm⟩ := ck hm
          refine va_iald hx hb hK hP 0 0 rfl rfl c_875 dL_law_875 ?_
          refine lv_iconst (v := 1) hx hb dL_law_876 (by decide) ?_
          refine lv_icmp_ne (tgt := 883) hx hb dL_law_877 (by decide) (fun c_877 => ?_) (fun c_877 => ?_)
          · have hm := it_f hm c_877
            refine lv_aload_n hx hb dL_law_883 rfl (lv_at hl 6 rfl) ?_
            refine lv_iload hx hb dL_law_884 (lv_at hl 1 rfl) ?_
            refine lv_aload_n hx hb dL_law_886 rfl (lv_at hl 6 rfl) ?_
            refine lv_iload hx hb dL_law_887 (lv_at hl 0 rfl) ?_
            obtain ⟨c_889, hm⟩ := ck hm
            refine va_iald hx hb hK hP 1 0 rfl rfl c_889 dL_law_889 ?_
            obtain ⟨c_890, hm⟩ := ck hm
            refine va_iast hx hb hK hP hD hS 1 0 rfl rfl c_890 dL_law_890 (fun H locs hP hD hS => ?_)
            have hP : va_P (dC, dI) vwCl (wQ cI aa ad vm (upd vrl863 (Int32.toNatClampNeg x15) (vrl863 (Int32.toNatClampNeg x16))) vh vl vq zk zm zb zs zr zu zt zf zg zbd zro zmc zmg zsp zjn) H := hP
            have hD : va_D A (wQ cI aa ad vm (upd vrl863 (Int32.toNatClampNeg x15) (vrl863 (Int32.toNatClampNeg x16))) vh vl vq zk zm zb zs zr zu zt zf zg zbd zro zmc zmg zsp zjn) := hD
            obtain ⟨x15_1, e_x15_1⟩ : ∃ y : Int32, y = x15 + 1 := ⟨_, rfl⟩
            have hm := bnd_e hm e_x15_1
            refine lv_iinc (v := x15_1) (lv' := [(15, .int x15_1), (16, .int x16), (14, .int x14), (13, .int y841), (0, .ref b), (1, .ref (ad 0)), (2, .ref (aa 1)), (3, .ref (aa 0)), (4, .ref (aa 2)), (5, .ref (aa 3)), (6, .ref (aa 4)), (7, .int x7), (8, .int x8), (11, .int x11), (12, .int x12)]) hx hb dL_law_891 hl (k := 1) rfl (by rw [e_x15_1]; rfl) (by decide) rfl (fun ls hl => ?_)
            obtain ⟨x16_1, e_x16_1⟩ : ∃ y : Int32, y = x16 + 1 := ⟨_, rfl⟩
            have hm := bnd_e hm e_x16_1
            refine lv_iinc (v := x16_1) (lv' := [(16, .int x16_1), (15, .int x15_1), (14, .int x14), (13, .int y841), (0, .ref b), (1, .ref (ad 0)), (2, .ref (aa 1)), (3, .ref (aa 0)), (4, .ref (aa 2)), (5, .ref (aa 3)), (6, .ref (aa 4)), (7, .int x7), (8, .int x8), (11, .int x11), (12, .int x12)]) hx hb dL_law_894 hl (k := 1) rfl (by rw [e_x16_1]; rfl) (by decide) rfl (fun ls hl => ?_)
            refine lv_goto (tgt := 863) hx hb dL_law_897 (by decide) ?_
            exact ih_863 x16_1 x15_1 (upd vrl863 (Int32.toNatClampNeg x15) (vrl863 (Int32.toNatClampNeg x16))) hm _ _ hP hD hS _ (lv_sub hl [0, 1, 2, 3, 4, 5, 6, 7, 8, 9, 10, 11, 12, 13, 14] rfl)
          · have hm := it_t hm c_877
            refine lv_goto (tgt := 894) hx hb dL_law_880 (by decide) ?_
            obtain ⟨x16_2, e_x16_2⟩ : ∃ y : Int32, y = x16 + 1 := ⟨_, rfl⟩
            have hm := bnd_e hm e_x16_2
            refine lv_iinc (v := x16_2) (lv' := [(16, .int x16_2), (15, .int x15), (14, .int x14), (13, .int y841), (0, .ref b), (1, .ref (ad 0)), (2, .ref (aa 1)), (3, .ref (aa 0)), (4, .ref (aa 2)), (5, .ref (aa 3)), (6, .ref (aa 4)), (7, .int x7), (8, .int x8), (11, .int x11), (12, .int x12)]) hx hb dL_law_894 hl (k := 0) rfl (by rw [e_x16_2]; rfl) (by decide) rfl (fun ls hl => ?_)
            refine lv_goto (tgt := 863) hx hb dL_law_897 (by decide) ?_
            exact ih_863 x16_2 x15 vrl863 hm _ _ hP hD hS _ (lv_sub hl [0, 1, 2, 3, 4, 5, 6, 7, 8, 9, 10, 11, 12, 13, 14] rfl)
    exact L_863 F 0 0 vr hq_863 _ _ hP hD hS _ (lv_sub hl [0, 1, 2, 3, 4, 5, 6, 7, 8, 9, 10, 11, 12, 15, 16] rfl)
  have hm := hq_841
  refine lv_if_ne (tgt := 833) hx hb dL_law_818 (by decide) (fun c_818 => ?_) (fun c_818 => ?_)
  · have hm := it_f hm c_818
    refine lv_iload hx hb dL_law_833 (lv_at hl 9 rfl) ?_
    refine lv_iconst (v := 3) hx hb dL_law_835 (by decide) ?_
    refine lv_ishr hx hb dL_law_836 ?_
    refine lv_iconst (v := 4) hx hb dL_law_837 (by decide) ?_
    obtain ⟨r838, h_838, hm⟩ := ob hm
    refine z_callSi (As := [.int (x9 >>> (3 &&& 31)), .int 4]) (rest := []) ⟨hx, hb, hml, hown, htw⟩ (c_L_low l dC dI F (x9 >>> (3 &&& 31)) 4 r838 h_838) (va_cwS 2 htw gL_law_L_low rfl rfl rfl ks_L_low ⟨Nat.le_of_ble_eq_true rfl, Nat.le_of_ble_eq_true rfl⟩) (hK.sub (tys' := []) [] rfl) z_P0 rfl hl.1 rfl (Nat.le_of_ble_eq_true rfl) dL_law_838 ⟨Nat.le_trans (show cells + 0 + 0 ≤ cells + 4 by omega) hcc, Nat.le_trans (show slots + 0 + 0 ≤ slots + 24 by omega) hss⟩ ?_
    exact J_841 r838 (o2 hm)
  · have hm := it_t hm c_818
    refine lv_iload hx hb dL_law_821 (lv_at hl 9 rfl) ?_
    refine lv_iconst (v := 3) hx hb dL_law_823 (by decide) ?_
    refine lv_ishr hx hb dL_law_824 ?_
    refine lv_bipush (v := 21) hx hb dL_law_825 (by decide) ?_
    obtain ⟨r827, h_827, hm⟩ := ob hm
    refine z_callSi (As := [.int (x9 >>> (3 &&& 31)), .int 21]) (rest := []) ⟨hx, hb, hml, hown, htw⟩ (c_L_low l dC dI F (x9 >>> (3 &&& 31)) 21 r827 h_827) (va_cwS 2 htw gL_law_L_low rfl rfl rfl ks_L_low ⟨Nat.le_of_ble_eq_true rfl, Nat.le_of_ble_eq_true rfl⟩) (hK.sub (tys' := []) [] rfl) z_P0 rfl hl.1 rfl (Nat.le_of_ble_eq_true rfl) dL_law_827 ⟨Nat.le_trans (show cells + 0 + 0 ≤ cells + 4 by omega) hcc, Nat.le_trans (show slots + 0 + 0 ≤ slots + 24 by omega) hss⟩ ?_
    refine lv_goto (tgt := 841) hx hb dL_law_830 (by decide) ?_
    exact J_841 r827 (o2 hm)
