set_option maxHeartbeats 4000000 in
set_option maxRecDepth 100000 in
theorem c_L_pieces (l : Launch) (dC : Nat → ClassId) (dI : Nat → Nat → Nat) (cI : ClassId) (aa : Nat → Nat) (ad : Nat → Nat) (vm : Nat → Int32) (vr : Nat → Int32) (vh : Nat → Int32) (vl : Nat → Int32) (vq : Nat → Int32) (zk : zN) (zm : zN) (zb : zN) (zs : zN) (zr : zN) (zu : zN) (zt : zT) (zf : zN) (zg : zN) (zbd : Int32) (zro : Int32) (zmc : Int32) (zmg : Int32) (zsp : Int32) (zjn : Int32) (F : Nat) (sz : Nat) (sa : Nat → Nat) (hl9 : l.stackTraces = false) (r : Int32) (u_zk : zN) (u_zm : zN) (u_zb : zN) (u_zs : zN) (u_zr : zN) (u_zu : zN) (u_zt : zT) (u_zf : zN) (u_zg : zN) (u_zbd : Int32) (u_zro : Int32) (u_zmc : Int32) (u_zmg : Int32) (u_zsp : Int32) (u_zjn : Int32) (hm : L_pieces F vr vh vq zk zm zb zs zr zu zt zf zg zbd zro zmc zmg zsp zjn = some (r, u_zk, u_zm, u_zb, u_zs, u_zr, u_zu, u_zt, u_zf, u_zg, u_zbd, u_zro, u_zmc, u_zmg, u_zsp, u_zjn)) : Met l yL_pieces wsL_pieces ({ frames := 9, cells := 4, slots := 140, locals := 183 }) (va_Pc [.ref (ad 0), .ref (aa 1), .ref (aa 2), .ref (aa 4)] (zH (dC, dI) (wQ cI aa ad vm vr vh vl vq zk zm zb zs zr zu zt zf zg zbd zro zmc zmg zsp zjn) [(cI, .int)] sz sa)) (zQi (dC, dI) (wQ cI aa ad vm vr vh vl vq u_zk u_zm u_zb u_zs u_zr u_zu u_zt u_zf u_zg u_zbd u_zro u_zmc u_zmg u_zsp u_zjn) [(cI, .int)] (va_A (wQ cI aa ad vm vr vh vl vq zk zm zb zs zr zu zt zf zg zbd zro zmc zmg zsp zjn) sz) r) 4 140 (va_A (wQ cI aa ad vm vr vh vl vq zk zm zb zs zr zu zt zf zg zbd zro zmc zmg zsp zjn) sz) := by
  refine Met.ofW (cc := cL_pieces) (maxL := 18) (ret := (some .boolean)) (by decide) rfl ?_
  intro p e s m args below meth c s₁ B hml hv
  obtain ⟨rfl, ⟨⟨hsz, hP, hK, hD0⟩, hV⟩, hNc⟩ := hv
  have hx := B.exec
  have hb := B.bytes
  have hr := B.returns
  have hts := atoms_spec (ws := wsL_pieces) B.pre
  have hown : s.vm.findClass RL = some m.cls := findClass_of_methodNamed B.named
  have hlocks := B.notSynchronized
  subst hsz
  have hD := hD0.self (sz := s.heap.size)
  generalize hAe : va_A (wQ cI aa ad vm vr vh vl vq zk zm zb zs zr zu zt zf zg zbd zro zmc zmg zsp zjn) s.heap.size = A at hD hV ⊢
  have hA : ∀ q : Nat, s.heap.size ≤ q → A q := fun q h => by rw [← hAe]; exact Or.inr h
  have hS : va_S A s.heap s.heap [] := va_S.rf
  generalize eL : ([] : List Loc) = locs at hS ⊢
  obtain ⟨H, eH⟩ : ∃ z : Heap, z = s.heap := ⟨_, rfl⟩
  have hP : va_P (dC, dI) vwCl (wQ cI aa ad vm vr vh vl vq zk zm zb zs zr zu zt zf zg zbd zro zmc zmg zsp zjn) H := by rw [eH]; exact hP
  have hS : va_S A s.heap H locs := by rw [eH]; exact hS
  refine z_heap eH ?_
  have hl := lv_entry ([.ref (ad 0), .ref (aa 1), .ref (aa 2), .ref (aa 4)]) (n := 18) (Nat.le_of_ble_eq_true rfl)
  rw [lg_entry_eq]
  generalize (lg_sl ([.ref (ad 0), .ref (aa 1), .ref (aa 2), .ref (aa 4)]) ++ List.replicate (18 - (lg_sl ([.ref (ad 0), .ref (aa 1), .ref (aa 2), .ref (aa 4)])).length) Slot.unset).toArray = ls at hl ⊢
  have hl : lv_has ls 18 [(0, .ref (ad 0)), (1, .ref (aa 1)), (2, .ref (aa 2)), (3, .ref (aa 4))] := hl
  have zw0 := hts (.arrayClass .int) (List.mem_cons_of_mem _ (List.mem_append_left _ (List.mem_append_left _ (List.mem_append_left _ (List.mem_append_left _ (List.mem_append_left _ (List.mem_append_left _ (List.mem_append_left _ (List.mem_append_left _ (List.mem_of_getElem? (i := 0) rfl))))))))))
  refine lv_bipush (v := 64) hx hb dL_pieces_0 (by decide) ?_
  refine va_newa (atype := .int) (ty := .int) (N' := 64) (a0 := (64, .inl (fun _ => 0))) hx hb zw0 rfl hK hP hD hS hA (fun _ => rfl) (by decide) (by decide) (Nat.le_of_ble_eq_true rfl) (Nat.le_of_ble_eq_true rfl) (Nat.le_of_ble_eq_true rfl) dL_pieces_2 (fun a5 cA0 H hK9 hP hD hS => ?_)
  rw [z_arrEq hK9 0 1 rfl rfl] at hP hD
  have hP : va_P (dC, dI) vwCl ((wQ cI aa ad vm vr vh vl vq zk zm zb zs zr zu zt zf zg zbd zro zmc zmg zsp zjn) ++ [(a5, .inl (cI, 64, .inl (fun _ => 0)))]) H := hP
  have hD : va_D A ((wQ cI aa ad vm vr vh vl vq zk zm zb zs zr zu zt zf zg zbd zro zmc zmg zsp zjn) ++ [(a5, .inl (cI, 64, .inl (fun _ => 0)))]) := hD
  refine W.widen (k := 1) (n := 64) (Nat.le_of_ble_eq_true rfl) (Nat.le_of_ble_eq_true rfl) ?_
  refine lv_astore (lv' := [(4, .ref a5), (0, .ref (ad 0)), (1, .ref (aa 1)), (2, .ref (aa 2)), (3, .ref (aa 4))]) hx hb dL_pieces_4 hl (by decide) rfl (fun ls hl => ?_)
  refine lv_bipush (v := 64) hx hb dL_pieces_6 (by decide) ?_
  refine va_newa (atype := .int) (ty := .int) (N' := 64) (a0 := (64, .inl (fun _ => 0))) hx hb zw0 rfl hK hP hD hS hA (fun _ => rfl) (by decide) (by decide) (Nat.le_of_ble_eq_true rfl) (Nat.le_of_ble_eq_true rfl) (Nat.le_of_ble_eq_true rfl) dL_pieces_8 (fun a6 cA1 H hK9 hP hD hS => ?_)
  rw [z_arrEq hK9 0 1 rfl rfl] at hP hD
  have hP : va_P (dC, dI) vwCl ((wQ cI aa ad vm vr vh vl vq zk zm zb zs zr zu zt zf zg zbd zro zmc zmg zsp zjn) ++ [(a5, .inl (cI, 64, .inl (fun _ => 0))), (a6, .inl (cI, 64, .inl (fun _ => 0)))]) H := hP
  have hD : va_D A ((wQ cI aa ad vm vr vh vl vq zk zm zb zs zr zu zt zf zg zbd zro zmc zmg zsp zjn) ++ [(a5, .inl (cI, 64, .inl (fun _ => 0))), (a6, .inl (cI, 64, .inl (fun _ => 0)))]) := hD
  refine W.widen (k := 2) (n := 128) (Nat.le_of_ble_eq_true rfl) (Nat.le_of_ble_eq_true rfl) ?_
  refine lv_astore (lv' := [(5, .ref a6), (4, .ref a5), (0, .ref (ad 0)), (1, .ref (aa 1)), (2, .ref (aa 2)), (3, .ref (aa 4))]) hx hb dL_pieces_10 hl (by decide) rfl (fun ls hl => ?_)
  have hP : va_P (dC, dI) vwCl (wP cI aa ad a5 a6 vm vr vh vl vq zk zm zb zs zr zu zt zf zg zbd zro zmc zmg zsp zjn (fun _ => 0) (fun _ => 0)) H := hP
  have hD : va_D A (wP cI aa ad a5 a6 vm vr vh vl vq zk zm zb zs zr zu zt zf zg zbd zro zmc zmg zsp zjn (fun _ => 0) (fun _ => 0)) := hD
  refine lv_iconst (v := 0) hx hb dL_pieces_12 (by decide) ?_
  refine lv_istore (lv' := [(6, .int 0), (5, .ref a6), (4, .ref a5), (0, .ref (ad 0)), (1, .ref (aa 1)), (2, .ref (aa 2)), (3, .ref (aa 4))]) hx hb dL_pieces_13 hl (by decide) rfl (fun ls hl => ?_)
  refine lv_lconst (v := 0) hx hb dL_pieces_15 (by decide) ?_
  refine lv_lstore (lv' := [(7, .long 0), (6, .int 0), (5, .ref a6), (4, .ref a5), (0, .ref (ad 0)), (1, .ref (aa 1)), (2, .ref (aa 2)), (3, .ref (aa 4))]) hx hb dL_pieces_16 hl (by decide) rfl (fun ls hl => ?_)
  refine lv_iconst (v := 0) hx hb dL_pieces_18 (by decide) ?_
  refine lv_istore (lv' := [(9, .int 0), (7, .long 0), (6, .int 0), (5, .ref a6), (4, .ref a5), (0, .ref (ad 0)), (1, .ref (aa 1)), (2, .ref (aa 2)), (3, .ref (aa 4))]) hx hb dL_pieces_19 hl (by decide) rfl (fun ls hl => ?_)
  obtain ⟨z_21, hq_21, hm⟩ := ob hm
  have hmo_21 := hm
  have K_21 : ∀ (x7_4 : Int64), ∀ (x6_2 : Int32), ∀ (vxx21 : Nat → Int32), ∀ (vyx21 : Nat → Int32), z_21 = Sum.inr (x7_4, x6_2, vxx21, vyx21) → ∀ (H : Heap) (locs : List Loc), va_P (dC, dI) vwCl (wP cI aa ad a5 a6 vm vr vh vl vq zk zm zb zs zr zu zt zf zg zbd zro zmc zmg zsp zjn vxx21 vyx21) H → va_D A (wP cI aa ad a5 a6 vm vr vh vl vq zk zm zb zs zr zu zt zf zg zbd zro zmc zmg zsp zjn vxx21 vyx21) → va_S A s.heap H locs → ∀ (ls : Array Slot), lv_has ls 18 [(7, .long x7_4), (6, .int x6_2), (5, .ref a6), (4, .ref a5), (0, .ref (ad 0))] → W p l e (headSpec wsL_pieces ({ frames := 9, cells := 4, slots := 140, locals := 183 } : Room)).room s m ([.ref (ad 0), .ref (aa 1), .ref (aa 2), .ref (aa 4)] : List Value).toArray below meth c H locs 2 128 (MQ below (zQi (dC, dI) (wQ cI aa ad vm vr vh vl vq u_zk u_zm u_zb u_zs u_zr u_zu u_zt u_zf u_zg u_zbd u_zro u_zmc u_zmg u_zsp u_zjn) [(cI, .int)] A r) ([.ref (ad 0), .ref (aa 1), .ref (aa 2), .ref (aa 4)] : List Value).toArray s 4 140 A) (F0 m 322 ls []) := by
    intro x7_4 x6_2 vxx21 vyx21 ez H locs hP hD hS ls hl
    rw [ez] at hm
    refine lv_iconst (v := 0) hx hb dL_pieces_322 (by decide) ?_
    refine lv_istore (lv' := [(9, .int 0), (7, .long x7_4), (6, .int x6_2), (5, .ref a6), (4, .ref a5), (0, .ref (ad 0))]) hx hb dL_pieces_323 hl (by decide) rfl (fun ls hl => ?_)
    refine lv_iconst (v := (-1)) hx hb dL_pieces_325 (by decide) ?_
    refine lv_istore (lv' := [(10, .int (-1)), (9, .int 0), (7, .long x7_4), (6, .int x6_2), (5, .ref a6), (4, .ref a5), (0, .ref (ad 0))]) hx hb dL_pieces_326 hl (by decide) rfl (fun ls hl => ?_)
    refine lv_iconst (v := 0) hx hb dL_pieces_328 (by decide) ?_
    refine lv_istore (lv' := [(11, .int 0), (10, .int (-1)), (9, .int 0), (7, .long x7_4), (6, .int x6_2), (5, .ref a6), (4, .ref a5), (0, .ref (ad 0))]) hx hb dL_pieces_329 hl (by decide) rfl (fun ls hl => ?_)
    refine lv_iconst (v := 0) hx hb dL_pieces_331 (by decide) ?_
    refine lv_istore (lv' := [(12, .int 0), (11, .int 0), (10, .int (-1)), (9, .int 0), (7, .long x7_4), (6, .int x6_2), (5, .ref a6), (4, .ref a5), (0, .ref (ad 0))]) hx hb dL_pieces_332 hl (by decide) rfl (fun ls hl => ?_)
    obtain ⟨z_334, hq_334, hm⟩ := ob hm
    have K_334 : ∀ (x10_1 : Int32), ∀ (x9_3 : Int32), z_334 = (x10_1, x9_3) → ∀ (ls : Array Slot), lv_has ls 18 [(10, .int x10_1), (9, .int x9_3), (7, .long x7_4), (6, .int x6_2), (0, .ref (ad 0))] → W p l e (headSpec wsL_pieces ({ frames := 9, cells := 4, slots := 140, locals := 183 } : Room)).room s m ([.ref (ad 0), .ref (aa 1), .ref (aa 2), .ref (aa 4)] : List Value).toArray below meth c H locs 2 128 (MQ below (zQi (dC, dI) (wQ cI aa ad vm vr vh vl vq u_zk u_zm u_zb u_zs u_zr u_zu u_zt u_zf u_zg u_zbd u_zro u_zmc u_zmg u_zsp u_zjn) [(cI, .int)] A r) ([.ref (ad 0), .ref (aa 1), .ref (aa 2), .ref (aa 4)] : List Value).toArray s 4 140 A) (F0 m 488 ls []) := by
      intro x10_1 x9_3 ez ls hl
      rw [ez] at hm
      refine lv_aload_n hx hb dL_pieces_488 rfl (lv_at hl 4 rfl) ?_
      obtain ⟨r489, h_489, hm⟩ := ob hm
      refine z_callRi (As := []) (rest := []) (ci := 2) (q := (RX2, TX2, 15)) ⟨hx, hb, hml, hown, hts⟩ (c_X2_pieces l dC dI cI ad zk zm zb zs zr zu zt zf zg zbd zro zmc zmg zsp zjn F r489 h_489) (cwV 0 hts gL_pieces_X2_pieces rfl rfl rfl kv_X2_pieces ⟨Nat.le_of_ble_eq_true rfl, Nat.le_of_ble_eq_true rfl⟩) hK (z_mid (pjP_L cI aa ad a5 a6 vm vr vh vl vq zk zm zb zs zr zu zt zf zg zbd zro zmc zmg zsp zjn vxx21 vyx21 zk zm zb zs zr zu zt zf zg zbd zro zmc zmg zsp zjn) hP) rfl rfl rfl rfl hl.1 rfl (Nat.le_of_ble_eq_true rfl) dL_pieces_489 ⟨Nat.le_of_ble_eq_true rfl, Nat.le_of_ble_eq_true rfl⟩ ?_
      refine lv_iload hx hb dL_pieces_492 (lv_at hl 3 rfl) ?_
      refine lv_icmp_ne (tgt := 542) hx hb dL_pieces_494 (by decide) (fun c_494 => ?_) (fun c_494 => ?_)
      · have hm := it_f hm c_494
        refine lv_iconst (v := 0) hx hb dL_pieces_542 (by decide) ?_
        have hP := z_mid (pjP_small cI aa ad a5 a6 vm vr vh vl vq zk zm zb zs zr zu zt zf zg zbd zro zmc zmg zsp zjn vxx21 vyx21) hP
        have hD := z_midD (pjP_small cI aa ad a5 a6 vm vr vh vl vq zk zm zb zs zr zu zt zf zg zbd zro zmc zmg zsp zjn vxx21 vyx21) hD
        cases o2 hm
        refine W.widen (k := 4) (n := 140) (Nat.le_of_ble_eq_true rfl) (Nat.le_of_ble_eq_true rfl) ?_
        exact W.zret hx hb hr rfl (fun t ht hW => ⟨⟨_, (), rfl, rfl, by rw [ht]; exact hP, va_K.moved hW.alike hK, hD⟩, hS.F ht⟩) hS.2.2 dL_pieces_543
      · have hm := it_t hm c_494
        refine lv_aload_n hx hb dL_pieces_497 rfl (lv_at hl 4 rfl) ?_
        obtain ⟨r498, h_498, hm⟩ := ob hm
        refine z_callRi (As := []) (rest := []) (ci := 2) (q := (RX2, TX2, 15)) ⟨hx, hb, hml, hown, hts⟩ (c_X2_worstError l dC dI cI ad zk zm zb zs zr zu zt zf zg zbd zro zmc zmg zsp zjn F r498 h_498) (cwV 0 hts gL_pieces_X2_worstError rfl rfl rfl kv_X2_worstError ⟨Nat.le_of_ble_eq_true rfl, Nat.le_of_ble_eq_true rfl⟩) hK (z_mid (pjP_L cI aa ad a5 a6 vm vr vh vl vq zk zm zb zs zr zu zt zf zg zbd zro zmc zmg zsp zjn vxx21 vyx21 zk zm zb zs zr zu zt zf zg zbd zro zmc zmg zsp zjn) hP) rfl rfl rfl rfl hl.1 rfl (Nat.le_of_ble_eq_true rfl) dL_pieces_498 ⟨Nat.le_of_ble_eq_true rfl, Nat.le_of_ble_eq_true rfl⟩ ?_
        refine lv_i2l hx hb dL_pieces_501 rfl ?_
        refine lv_lload hx hb dL_pieces_502 (lv_at hl 2 rfl) ?_
        refine W.lcmp hx hb dL_pieces_504 ?_
        refine lv_if_ne (tgt := 542) hx hb dL_pieces_505 (by decide) (fun c_505 => ?_) (fun c_505 => ?_)
        · have c_505 : ¬ ((Int32.toInt64 r498) = x7_4) := fun h => c_505 ((lg_cmp_eq _ _).mpr h)
          have hm := it_f hm c_505
          refine lv_iconst (v := 0) hx hb dL_pieces_542 (by decide) ?_
          have hP := z_mid (pjP_small cI aa ad a5 a6 vm vr vh vl vq zk zm zb zs zr zu zt zf zg zbd zro zmc zmg zsp zjn vxx21 vyx21) hP
          have hD := z_midD (pjP_small cI aa ad a5 a6 vm vr vh vl vq zk zm zb zs zr zu zt zf zg zbd zro zmc zmg zsp zjn vxx21 vyx21) hD
          cases o2 hm
          refine W.widen (k := 4) (n := 140) (Nat.le_of_ble_eq_true rfl) (Nat.le_of_ble_eq_true rfl) ?_
          exact W.zret hx hb hr rfl (fun t ht hW => ⟨⟨_, (), rfl, rfl, by rw [ht]; exact hP, va_K.moved hW.alike hK, hD⟩, hS.F ht⟩) hS.2.2 dL_pieces_543
        · have c_505 : (Int32.toInt64 r498) = x7_4 := (lg_cmp_eq _ _).mp c_505
          have hm := it_t hm c_505
          refine lv_aload_n hx hb dL_pieces_508 rfl (lv_at hl 4 rfl) ?_
          obtain ⟨r509, h_509, hm⟩ := ob hm
          refine z_callRi (As := []) (rest := []) (ci := 2) (q := (RX2, TX2, 15)) ⟨hx, hb, hml, hown, hts⟩ (c_X2_slopes l dC dI cI ad zk zm zb zs zr zu zt zf zg zbd zro zmc zmg zsp zjn F r509 h_509) (cwV 0 hts gL_pieces_X2_slopes rfl rfl rfl kv_X2_slopes ⟨Nat.le_of_ble_eq_true rfl, Nat.le_of_ble_eq_true rfl⟩) hK (z_mid (pjP_L cI aa ad a5 a6 vm vr vh vl vq zk zm zb zs zr zu zt zf zg zbd zro zmc zmg zsp zjn vxx21 vyx21 zk zm zb zs zr zu zt zf zg zbd zro zmc zmg zsp zjn) hP) rfl rfl rfl rfl hl.1 rfl (Nat.le_of_ble_eq_true rfl) dL_pieces_509 ⟨Nat.le_of_ble_eq_true rfl, Nat.le_of_ble_eq_true rfl⟩ ?_
          refine lv_iload hx hb dL_pieces_512 (lv_at hl 1 rfl) ?_
          refine lv_icmp_ne (tgt := 542) hx hb dL_pieces_514 (by decide) (fun c_514 => ?_) (fun c_514 => ?_)
          · have hm := it_f hm c_514
            refine lv_iconst (v := 0) hx hb dL_pieces_542 (by decide) ?_
            have hP := z_mid (pjP_small cI aa ad a5 a6 vm vr vh vl vq zk zm zb zs zr zu zt zf zg zbd zro zmc zmg zsp zjn vxx21 vyx21) hP
            have hD := z_midD (pjP_small cI aa ad a5 a6 vm vr vh vl vq zk zm zb zs zr zu zt zf zg zbd zro zmc zmg zsp zjn vxx21 vyx21) hD
            cases o2 hm
            refine W.widen (k := 4) (n := 140) (Nat.le_of_ble_eq_true rfl) (Nat.le_of_ble_eq_true rfl) ?_
            exact W.zret hx hb hr rfl (fun t ht hW => ⟨⟨_, (), rfl, rfl, by rw [ht]; exact hP, va_K.moved hW.alike hK, hD⟩, hS.F ht⟩) hS.2.2 dL_pieces_543
          · have hm := it_t hm c_514
            refine lv_aload_n hx hb dL_pieces_517 rfl (lv_at hl 4 rfl) ?_
            obtain ⟨r518, h_518, hm⟩ := ob hm
            refine z_callRi (As := []) (rest := []) (ci := 2) (q := (RX2, TX2, 15)) ⟨hx, hb, hml, hown, hts⟩ (c_X2_commonest l dC dI cI ad zk zm zb zs zr zu zt zf zg zbd zro zmc zmg zsp zjn F r518 h_518) (cwV 0 hts gL_pieces_X2_commonest rfl rfl rfl kv_X2_commonest ⟨Nat.le_of_ble_eq_true rfl, Nat.le_of_ble_eq_true rfl⟩) hK (z_mid (pjP_L cI aa ad a5 a6 vm vr vh vl vq zk zm zb zs zr zu zt zf zg zbd zro zmc zmg zsp zjn vxx21 vyx21 zk zm zb zs zr zu zt zf zg zbd zro zmc zmg zsp zjn) hP) rfl rfl rfl rfl hl.1 rfl (Nat.le_of_ble_eq_true rfl) dL_pieces_518 ⟨Nat.le_of_ble_eq_true rfl, Nat.le_of_ble_eq_true rfl⟩ ?_
            refine lv_iload hx hb dL_pieces_521 (lv_at hl 0 rfl) ?_
            refine lv_icmp_ne (tgt := 542) hx hb dL_pieces_523 (by decide) (fun c_523 => ?_) (fun c_523 => ?_)
            · have hm := it_f hm c_523
              refine lv_iconst (v := 0) hx hb dL_pieces_542 (by decide) ?_
              have hP := z_mid (pjP_small cI aa ad a5 a6 vm vr vh vl vq zk zm zb zs zr zu zt zf zg zbd zro zmc zmg zsp zjn vxx21 vyx21) hP
              have hD := z_midD (pjP_small cI aa ad a5 a6 vm vr vh vl vq zk zm zb zs zr zu zt zf zg zbd zro zmc zmg zsp zjn vxx21 vyx21) hD
              cases o2 hm
              refine W.widen (k := 4) (n := 140) (Nat.le_of_ble_eq_true rfl) (Nat.le_of_ble_eq_true rfl) ?_
              exact W.zret hx hb hr rfl (fun t ht hW => ⟨⟨_, (), rfl, rfl, by rw [ht]; exact hP, va_K.moved hW.alike hK, hD⟩, hS.F ht⟩) hS.2.2 dL_pieces_543
            · have hm := it_t hm c_523
              refine lv_aload_n hx hb dL_pieces_526 rfl (lv_at hl 4 rfl) ?_
              refine lv_iconst (v := 5) hx hb dL_pieces_527 (by decide) ?_
              refine lv_iload hx hb dL_pieces_528 (lv_at hl 3 rfl) ?_
              refine lv_iconst (v := 0) hx hb dL_pieces_530 (by decide) ?_
              obtain ⟨⟨r531, zk531, zm531, zb531, zs531, zr531, zu531, zt531, zf531, zg531, zbd531, zro531, zmc531, zmg531, zsp531, zjn531⟩, h_531, hm⟩ := ob hm
              refine z_hSi (wc := (wL cI ad zk zm zb zs zr zu zt zf zg zbd zro zmc zmg zsp zjn)) (w1 := (wL cI ad zk531 zm531 zb531 zs531 zr531 zu531 zt531 zf531 zg531 zbd531 zro531 zmc531 zmg531 zsp531 zjn531)) (ws := (wP cI aa ad a5 a6 vm vr vh vl vq zk zm zb zs zr zu zt zf zg zbd zro zmc zmg zsp zjn vxx21 vyx21)) (ws' := (wP cI aa ad a5 a6 vm vr vh vl vq zk531 zm531 zb531 zs531 zr531 zu531 zt531 zf531 zg531 zbd531 zro531 zmc531 zmg531 zsp531 zjn531 vxx21 vyx21)) (As := [.ref (ad 0), .int 5, .int x6_2, .int 0]) (rest := []) ⟨hx, hb, hml, hown, hts⟩ (c_L_refused l dC dI cI ad zk zm zb zs zr zu zt zf zg zbd zro zmc zmg zsp zjn F 5 x6_2 0 H.size sa hl9 r531 zk531 zm531 zb531 zs531 zr531 zu531 zt531 zf531 zg531 zbd531 zro531 zmc531 zmg531 zsp531 zjn531 h_531) (vx_cwSW 4 hts gL_pieces_L_refused rfl rfl rfl (by decide +kernel) ⟨Nat.le_of_ble_eq_true rfl, Nat.le_of_ble_eq_true rfl⟩) hV hNc hK hP hD hS hA (pjP_L cI aa ad a5 a6 vm vr vh vl vq zk zm zb zs zr zu zt zf zg zbd zro zmc zmg zsp zjn vxx21 vyx21 zk531 zm531 zb531 zs531 zr531 zu531 zt531 zf531 zg531 zbd531 zro531 zmc531 zmg531 zsp531 zjn531) ((paL cI ad zk531 zm531 zb531 zs531 zr531 zu531 zt531 zf531 zg531 zbd531 zro531 zmc531 zmg531 zsp531 zjn531).trans (paL cI ad zk zm zb zs zr zu zt zf zg zbd zro zmc zmg zsp zjn).symm) rfl hl.1 rfl (Nat.le_of_ble_eq_true rfl) dL_pieces_531 ⟨Nat.le_of_ble_eq_true rfl, Nat.le_of_ble_eq_true rfl⟩ (fun H locs hP hD hS => ?_)
              refine lv_iconst (v := 4) hx hb dL_pieces_534 (by decide) ?_
              refine lv_icmp_ne (tgt := 542) hx hb dL_pieces_535 (by decide) (fun c_535 => ?_) (fun c_535 => ?_)
              · have hm := it_f hm c_535
                refine lv_iconst (v := 0) hx hb dL_pieces_542 (by decide) ?_
                have hP := z_mid (pjP_small cI aa ad a5 a6 vm vr vh vl vq zk531 zm531 zb531 zs531 zr531 zu531 zt531 zf531 zg531 zbd531 zro531 zmc531 zmg531 zsp531 zjn531 vxx21 vyx21) hP
                have hD := z_midD (pjP_small cI aa ad a5 a6 vm vr vh vl vq zk531 zm531 zb531 zs531 zr531 zu531 zt531 zf531 zg531 zbd531 zro531 zmc531 zmg531 zsp531 zjn531 vxx21 vyx21) hD
                cases o2 hm
                refine W.widen (k := 4) (n := 140) (Nat.le_of_ble_eq_true rfl) (Nat.le_of_ble_eq_true rfl) ?_
                exact W.zret hx hb hr rfl (fun t ht hW => ⟨⟨_, (), rfl, rfl, by rw [ht]; exact hP, va_K.moved hW.alike hK, hD⟩, hS.F ht⟩) hS.2.2 dL_pieces_543
              · have hm := it_t hm c_535
                refine lv_iconst (v := 1) hx hb dL_pieces_538 (by decide) ?_
                refine lv_goto (tgt := 543) hx hb dL_pieces_539 (by decide) ?_
                have hP := z_mid (pjP_small cI aa ad a5 a6 vm vr vh vl vq zk531 zm531 zb531 zs531 zr531 zu531 zt531 zf531 zg531 zbd531 zro531 zmc531 zmg531 zsp531 zjn531 vxx21 vyx21) hP
                have hD := z_midD (pjP_small cI aa ad a5 a6 vm vr vh vl vq zk531 zm531 zb531 zs531 zr531 zu531 zt531 zf531 zg531 zbd531 zro531 zmc531 zmg531 zsp531 zjn531 vxx21 vyx21) hD
                cases o2 hm
                refine W.widen (k := 4) (n := 140) (Nat.le_of_ble_eq_true rfl) (Nat.le_of_ble_eq_true rfl) ?_
                exact W.zret hx hb hr rfl (fun t ht hW => ⟨⟨_, (), rfl, rfl, by rw [ht]; exact hP, va_K.moved hW.alike hK, hD⟩, hS.F ht⟩) hS.2.2 dL_pieces_543
    have L_334 : ∀ (n : Nat) (x12 : Int32) (x11 : Int32) (x10 : Int32) (x9_1 : Int32), L_pieces_L334 F x6_2 vxx21 vyx21 n x12 x11 x10 x9_1 = some z_334 → ∀ (ls : Array Slot), lv_has ls 18 [(12, .int x12), (11, .int x11), (10, .int x10), (9, .int x9_1), (7, .long x7_4), (6, .int x6_2), (5, .ref a6), (4, .ref a5), (0, .ref (ad 0))] → W p l e (headSpec wsL_pieces ({ frames := 9, cells := 4, slots := 140, locals := 183 } : Room)).room s m ([.ref (ad 0), .ref (aa 1), .ref (aa 2), .ref (aa 4)] : List Value).toArray below meth c H locs 2 128 (MQ below (zQi (dC, dI) (wQ cI aa ad vm vr vh vl vq u_zk u_zm u_zb u_zs u_zr u_zu u_zt u_zf u_zg u_zbd u_zro u_zmc u_zmg u_zsp u_zjn) [(cI, .int)] A r) ([.ref (ad 0), .ref (aa 1), .ref (aa 2), .ref (aa 4)] : List Value).toArray s 4 140 A) (F0 m 334 ls []) := by
      intro n
      induction n with
      | zero => intro x12 x11 x10 x9_1 hm; cases hm
      | succ n ih_334 =>
        intro x12 x11 x10 x9_1 hm ls hl
        refine lv_iload hx hb dL_pieces_334 (lv_at hl 0 rfl) ?_
        refine lv_iload hx hb dL_pieces_336 (lv_at hl 5 rfl) ?_
        refine lv_icmp_ge (tgt := 488) hx hb dL_pieces_338 (by decide) (fun c_338 => ?_) (fun c_338 => ?_)
        · have hm := it_t hm c_338
          exact K_334 x10 x9_1 (o2 hm) _ (lv_sub hl [2, 3, 4, 5, 8] rfl)
        · have hm := it_f hm c_338
          refine lv_iconst (v := 0) hx hb dL_pieces_341 (by decide) ?_
          refine lv_istore (lv' := [(13, .int 0), (12, .int x12), (11, .int x11), (10, .int x10), (9, .int x9_1), (7, .long x7_4), (6, .int x6_2), (5, .ref a6), (4, .ref a5), (0, .ref (ad 0))]) hx hb dL_pieces_342 hl (by decide) rfl (fun ls hl => ?_)
          refine lv_iload hx hb dL_pieces_344 (lv_at hl 1 rfl) ?_
          refine lv_istore (lv' := [(14, .int x12), (13, .int 0), (12, .int x12), (11, .int x11), (10, .int x10), (9, .int x9_1), (7, .long x7_4), (6, .int x6_2), (5, .ref a6), (4, .ref a5), (0, .ref (ad 0))]) hx hb dL_pieces_346 hl (by decide) rfl (fun ls hl => ?_)
          refine lv_iconst (v := 0) hx hb dL_pieces_348 (by decide) ?_
          refine lv_istore (lv' := [(15, .int 0), (14, .int x12), (13, .int 0), (12, .int x12), (11, .int x11), (10, .int x10), (9, .int x9_1), (7, .long x7_4), (6, .int x6_2), (5, .ref a6), (4, .ref a5), (0, .ref (ad 0))]) hx hb dL_pieces_349 hl (by decide) rfl (fun ls hl => ?_)
          obtain ⟨z_351, hq_351, hm⟩ := ob hm
          have K_351 : ∀ (x14_1 : Int32), ∀ (x13_2 : Int32), z_351 = (x14_1, x13_2) → ∀ (ls : Array Slot), lv_has ls 18 [(14, .int x14_1), (13, .int x13_2), (12, .int x12), (11, .int x11), (10, .int x10), (9, .int x9_1), (7, .long x7_4), (6, .int x6_2), (5, .ref a6), (4, .ref a5), (0, .ref (ad 0))] → W p l e (headSpec wsL_pieces ({ frames := 9, cells := 4, slots := 140, locals := 183 } : Room)).room s m ([.ref (ad 0), .ref (aa 1), .ref (aa 2), .ref (aa 4)] : List Value).toArray below meth c H locs 2 128 (MQ below (zQi (dC, dI) (wQ cI aa ad vm vr vh vl vq u_zk u_zm u_zb u_zs u_zr u_zu u_zt u_zf u_zg u_zbd u_zro u_zmc u_zmg u_zsp u_zjn) [(cI, .int)] A r) ([.ref (ad 0), .ref (aa 1), .ref (aa 2), .ref (aa 4)] : List Value).toArray s 4 140 A) (F0 m 433 ls []) := by
            intro x14_1 x13_2 ez ls hl
            rw [ez] at hm
            refine lv_iload hx hb dL_pieces_433 (lv_at hl 5 rfl) ?_
            refine lv_iload hx hb dL_pieces_435 (lv_at hl 0 rfl) ?_
            refine lv_iload hx hb dL_pieces_437 (lv_at hl 2 rfl) ?_
            obtain ⟨y447, e_y447⟩ : ∃ y : Int32, y = (if x14_1 = x12 then 1 else 0) := ⟨_, rfl⟩
            have hm := bnd_e hm e_y447
            have J_447 : W p l e (headSpec wsL_pieces ({ frames := 9, cells := 4, slots := 140, locals := 183 } : Room)).room s m ([.ref (ad 0), .ref (aa 1), .ref (aa 2), .ref (aa 4)] : List Value).toArray below meth c H locs 2 128 (MQ below (zQi (dC, dI) (wQ cI aa ad vm vr vh vl vq u_zk u_zm u_zb u_zs u_zr u_zu u_zt u_zf u_zg u_zbd u_zro u_zmc u_zmg u_zsp u_zjn) [(cI, .int)] A r) ([.ref (ad 0), .ref (aa 1), .ref (aa 2), .ref (aa 4)] : List Value).toArray s 4 140 A) (F0 m 447 ls [.int y447, .int x9_1]) := by
              refine lv_iadd hx hb dL_pieces_447 ?_
              refine lv_topi (fun x9_2 e_x9_2 => ?_)
              have hm := bnd_e hm e_x9_2
              refine lv_istore (lv' := [(9, .int x9_2), (14, .int x14_1), (13, .int x13_2), (12, .int x12), (11, .int x11), (10, .int x10), (7, .long x7_4), (6, .int x6_2), (5, .ref a6), (4, .ref a5), (0, .ref (ad 0))]) hx hb dL_pieces_448 hl (by decide) rfl (fun ls hl => ?_)
              refine lv_iload hx hb dL_pieces_450 (lv_at hl 2 rfl) ?_
              refine lv_iload hx hb dL_pieces_452 (lv_at hl 4 rfl) ?_
              obtain ⟨y464, e_y464⟩ : ∃ y : Int32, y = (if x13_2 ≤ x11 then x10 else x12) := ⟨_, rfl⟩
              have hm := bnd_e hm e_y464
              have J_464 : W p l e (headSpec wsL_pieces ({ frames := 9, cells := 4, slots := 140, locals := 183 } : Room)).room s m ([.ref (ad 0), .ref (aa 1), .ref (aa 2), .ref (aa 4)] : List Value).toArray below meth c H locs 2 128 (MQ below (zQi (dC, dI) (wQ cI aa ad vm vr vh vl vq u_zk u_zm u_zb u_zs u_zr u_zu u_zt u_zf u_zg u_zbd u_zro u_zmc u_zmg u_zsp u_zjn) [(cI, .int)] A r) ([.ref (ad 0), .ref (aa 1), .ref (aa 2), .ref (aa 4)] : List Value).toArray s 4 140 A) (F0 m 464 ls [.int y464]) := by
                refine lv_istore (lv' := [(10, .int y464), (9, .int x9_2), (14, .int x14_1), (13, .int x13_2), (12, .int x12), (11, .int x11), (7, .long x7_4), (6, .int x6_2), (5, .ref a6), (4, .ref a5), (0, .ref (ad 0))]) hx hb dL_pieces_464 hl (by decide) rfl (fun ls hl => ?_)
                refine lv_iload hx hb dL_pieces_466 (lv_at hl 3 rfl) ?_
                refine lv_iload hx hb dL_pieces_468 (lv_at hl 5 rfl) ?_
                refine lv_icmp_le (tgt := 478) hx hb dL_pieces_470 (by decide) (fun c_470 => ?_) (fun c_470 => ?_)
                · have hm := it_t hm c_470
                  refine lv_iload hx hb dL_pieces_478 (lv_at hl 5 rfl) ?_
                  refine lv_istore (lv' := [(11, .int x11), (10, .int y464), (9, .int x9_2), (14, .int x14_1), (13, .int x13_2), (12, .int x12), (7, .long x7_4), (6, .int x6_2), (5, .ref a6), (4, .ref a5), (0, .ref (ad 0))]) hx hb dL_pieces_480 hl (by decide) rfl (fun ls hl => ?_)
                  obtain ⟨x12_1, e_x12_1⟩ : ∃ y : Int32, y = x12 + 1 := ⟨_, rfl⟩
                  have hm := bnd_e hm e_x12_1
                  refine lv_iinc (v := x12_1) (lv' := [(12, .int x12_1), (11, .int x11), (10, .int y464), (9, .int x9_2), (14, .int x14_1), (13, .int x13_2), (7, .long x7_4), (6, .int x6_2), (5, .ref a6), (4, .ref a5), (0, .ref (ad 0))]) hx hb dL_pieces_482 hl (k := 5) rfl (by rw [e_x12_1]; rfl) (by decide) rfl (fun ls hl => ?_)
                  refine lv_goto (tgt := 334) hx hb dL_pieces_485 (by decide) ?_
                  exact ih_334 x12_1 x11 y464 x9_2 hm _ (lv_sub hl [0, 1, 2, 3, 6, 7, 8, 9, 10] rfl)
                · have hm := it_f hm c_470
                  refine lv_iload hx hb dL_pieces_473 (lv_at hl 3 rfl) ?_
                  refine lv_goto (tgt := 480) hx hb dL_pieces_475 (by decide) ?_
                  refine lv_istore (lv' := [(11, .int x13_2), (10, .int y464), (9, .int x9_2), (14, .int x14_1), (13, .int x13_2), (12, .int x12), (7, .long x7_4), (6, .int x6_2), (5, .ref a6), (4, .ref a5), (0, .ref (ad 0))]) hx hb dL_pieces_480 hl (by decide) rfl (fun ls hl => ?_)
                  obtain ⟨x12_2, e_x12_2⟩ : ∃ y : Int32, y = x12 + 1 := ⟨_, rfl⟩
                  have hm := bnd_e hm e_x12_2
                  refine lv_iinc (v := x12_2) (lv' := [(12, .int x12_2), (11, .int x13_2), (10, .int y464), (9, .int x9_2), (14, .int x14_1), (13, .int x13_2), (7, .long x7_4), (6, .int x6_2), (5, .ref a6), (4, .ref a5), (0, .ref (ad 0))]) hx hb dL_pieces_482 hl (k := 5) rfl (by rw [e_x12_2]; rfl) (by decide) rfl (fun ls hl => ?_)
                  refine lv_goto (tgt := 334) hx hb dL_pieces_485 (by decide) ?_
                  exact ih_334 x12_2 x13_2 y464 x9_2 hm _ (lv_sub hl [0, 1, 2, 3, 6, 7, 8, 9, 10] rfl)
              refine lv_icmp_le (tgt := 462) hx hb dL_pieces_454 (by decide) (fun c_454 => ?_) (fun c_454 => ?_)
              · refine lv_iload hx hb dL_pieces_462 (lv_at hl 5 rfl) ?_
                have e9 : y464 = x10 := by rw [e_y464, if_pos c_454]
                rw [e9] at J_464
                exact J_464
              · refine lv_iload hx hb dL_pieces_457 (lv_at hl 3 rfl) ?_
                refine lv_goto (tgt := 464) hx hb dL_pieces_459 (by decide) ?_
                have e9 : y464 = x12 := by rw [e_y464, if_neg c_454]
                rw [e9] at J_464
                exact J_464
            refine lv_icmp_ne (tgt := 446) hx hb dL_pieces_439 (by decide) (fun c_439 => ?_) (fun c_439 => ?_)
            · refine lv_iconst (v := 0) hx hb dL_pieces_446 (by decide) ?_
              have e9 : y447 = 0 := by rw [e_y447, if_neg c_439]
              rw [e9] at J_447
              exact J_447
            · refine lv_iconst (v := 1) hx hb dL_pieces_442 (by decide) ?_
              refine lv_goto (tgt := 447) hx hb dL_pieces_443 (by decide) ?_
              have e9 : y447 = 1 := by rw [e_y447, if_pos c_439]
              rw [e9] at J_447
              exact J_447
          have L_351 : ∀ (n : Nat) (x15_4 : Int32) (x14 : Int32) (x13 : Int32), L_pieces_L351 x6_2 vxx21 vyx21 x12 n x15_4 x14 x13 = some z_351 → ∀ (ls : Array Slot), lv_has ls 18 [(15, .int x15_4), (14, .int x14), (13, .int x13), (12, .int x12), (11, .int x11), (10, .int x10), (9, .int x9_1), (7, .long x7_4), (6, .int x6_2), (5, .ref a6), (4, .ref a5), (0, .ref (ad 0))] → W p l e (headSpec wsL_pieces ({ frames := 9, cells := 4, slots := 140, locals := 183 } : Room)).room s m ([.ref (ad 0), .ref (aa 1), .ref (aa 2), .ref (aa 4)] : List Value).toArray below meth c H locs 2 128 (MQ below (zQi (dC, dI) (wQ cI aa ad vm vr vh vl vq u_zk u_zm u_zb u_zs u_zr u_zu u_zt u_zf u_zg u_zbd u_zro u_zmc u_zmg u_zsp u_zjn) [(cI, .int)] A r) ([.ref (ad 0), .ref (aa 1), .ref (aa 2), .ref (aa 4)] : List Value).toArray s 4 140 A) (F0 m 351 ls []) := by
            intro n
            induction n with
            | zero => intro x15_4 x14 x13 hm; cases hm
            | succ n ih_351 =>
              intro x15_4 x14 x13 hm ls hl
              refine lv_iload hx hb dL_pieces_351 (lv_at hl 0 rfl) ?_
              refine lv_iload hx hb dL_pieces_353 (lv_at hl 8 rfl) ?_
              refine lv_icmp_ge (tgt := 433) hx hb dL_pieces_355 (by decide) (fun c_355 => ?_) (fun c_355 => ?_)
              · have hm := it_t hm c_355
                exact K_351 x14 x13 (o2 hm) _ (lv_sub hl [1, 2, 3, 4, 5, 6, 7, 8, 9, 10, 11] rfl)
              · have hm := it_f hm c_355
                refine lv_aload hx hb dL_pieces_358 (lv_at hl 10 rfl) ?_
                refine lv_iload hx hb dL_pieces_360 (lv_at hl 0 rfl) ?_
                obtain ⟨c_362, hm⟩ := ck hm
                refine va_iald hx hb hK hP 23 0 rfl rfl c_362 dL_pieces_362 ?_
                refine lv_aload hx hb dL_pieces_363 (lv_at hl 10 rfl) ?_
                refine lv_iload hx hb dL_pieces_365 (lv_at hl 3 rfl) ?_
                obtain ⟨c_367, hm⟩ := ck hm
                refine va_iald hx hb hK hP 23 0 rfl rfl c_367 dL_pieces_367 ?_
                obtain ⟨z_389, hq_389, hm⟩ := ob hm
                have J_389 : ∀ (y389 : Int32), z_389 = y389 → W p l e (headSpec wsL_pieces ({ frames := 9, cells := 4, slots := 140, locals := 183 } : Room)).room s m ([.ref (ad 0), .ref (aa 1), .ref (aa 2), .ref (aa 4)] : List Value).toArray below meth c H locs 2 128 (MQ below (zQi (dC, dI) (wQ cI aa ad vm vr vh vl vq u_zk u_zm u_zb u_zs u_zr u_zu u_zt u_zf u_zg u_zbd u_zro u_zmc u_zmg u_zsp u_zjn) [(cI, .int)] A r) ([.ref (ad 0), .ref (aa 1), .ref (aa 2), .ref (aa 4)] : List Value).toArray s 4 140 A) (F0 m 389 ls [.int y389]) := by
                  intro y389 ez
                  rw [ez] at hm
                  refine lv_istore (lv' := [(16, .int y389), (15, .int x15_4), (14, .int x14), (13, .int x13), (12, .int x12), (11, .int x11), (10, .int x10), (9, .int x9_1), (7, .long x7_4), (6, .int x6_2), (5, .ref a6), (4, .ref a5), (0, .ref (ad 0))]) hx hb dL_pieces_389 hl (by decide) rfl (fun ls hl => ?_)
                  refine lv_iload hx hb dL_pieces_391 (lv_at hl 3 rfl) ?_
                  refine lv_iload hx hb dL_pieces_393 (lv_at hl 0 rfl) ?_
                  obtain ⟨y403, e_y403⟩ : ∃ y : Int32, y = (if y389 = 0 then 0 else 1) := ⟨_, rfl⟩
                  have hm := bnd_e hm e_y403
                  have J_403 : W p l e (headSpec wsL_pieces ({ frames := 9, cells := 4, slots := 140, locals := 183 } : Room)).room s m ([.ref (ad 0), .ref (aa 1), .ref (aa 2), .ref (aa 4)] : List Value).toArray below meth c H locs 2 128 (MQ below (zQi (dC, dI) (wQ cI aa ad vm vr vh vl vq u_zk u_zm u_zb u_zs u_zr u_zu u_zt u_zf u_zg u_zbd u_zro u_zmc u_zmg u_zsp u_zjn) [(cI, .int)] A r) ([.ref (ad 0), .ref (aa 1), .ref (aa 2), .ref (aa 4)] : List Value).toArray s 4 140 A) (F0 m 403 ls [.int y403, .int x13]) := by
                    refine lv_iadd hx hb dL_pieces_403 ?_
                    refine lv_topi (fun x13_1 e_x13_1 => ?_)
                    have hm := bnd_e hm e_x13_1
                    refine lv_istore (lv' := [(13, .int x13_1), (16, .int y389), (15, .int x15_4), (14, .int x14), (12, .int x12), (11, .int x11), (10, .int x10), (9, .int x9_1), (7, .long x7_4), (6, .int x6_2), (5, .ref a6), (4, .ref a5), (0, .ref (ad 0))]) hx hb dL_pieces_404 hl (by decide) rfl (fun ls hl => ?_)
                    refine lv_iload hx hb dL_pieces_406 (lv_at hl 1 rfl) ?_
                    refine lv_if_eq (tgt := 423) hx hb dL_pieces_408 (by decide) (fun c_408 => ?_) (fun c_408 => ?_)
                    · have hm := it_t hm c_408
                      refine lv_iload hx hb dL_pieces_423 (lv_at hl 3 rfl) ?_
                      refine lv_istore (lv' := [(14, .int x14), (13, .int x13_1), (16, .int y389), (15, .int x15_4), (12, .int x12), (11, .int x11), (10, .int x10), (9, .int x9_1), (7, .long x7_4), (6, .int x6_2), (5, .ref a6), (4, .ref a5), (0, .ref (ad 0))]) hx hb dL_pieces_425 hl (by decide) rfl (fun ls hl => ?_)
                      obtain ⟨x15_5, e_x15_5⟩ : ∃ y : Int32, y = x15_4 + 1 := ⟨_, rfl⟩
                      have hm := bnd_e hm e_x15_5
                      refine lv_iinc (v := x15_5) (lv' := [(15, .int x15_5), (14, .int x14), (13, .int x13_1), (16, .int y389), (12, .int x12), (11, .int x11), (10, .int x10), (9, .int x9_1), (7, .long x7_4), (6, .int x6_2), (5, .ref a6), (4, .ref a5), (0, .ref (ad 0))]) hx hb dL_pieces_427 hl (k := 3) rfl (by rw [e_x15_5]; rfl) (by decide) rfl (fun ls hl => ?_)
                      refine lv_goto (tgt := 351) hx hb dL_pieces_430 (by decide) ?_
                      exact ih_351 x15_5 x14 x13_1 hm _ (lv_sub hl [0, 1, 2, 4, 5, 6, 7, 8, 9, 10, 11, 12] rfl)
                    · have hm := it_f hm c_408
                      refine lv_iload hx hb dL_pieces_411 (lv_at hl 2 rfl) ?_
                      refine lv_iload hx hb dL_pieces_413 (lv_at hl 3 rfl) ?_
                      refine lv_icmp_ge (tgt := 423) hx hb dL_pieces_415 (by decide) (fun c_415 => ?_) (fun c_415 => ?_)
                      · have hm := it_t hm c_415
                        refine lv_iload hx hb dL_pieces_423 (lv_at hl 3 rfl) ?_
                        refine lv_istore (lv' := [(14, .int x14), (13, .int x13_1), (16, .int y389), (15, .int x15_4), (12, .int x12), (11, .int x11), (10, .int x10), (9, .int x9_1), (7, .long x7_4), (6, .int x6_2), (5, .ref a6), (4, .ref a5), (0, .ref (ad 0))]) hx hb dL_pieces_425 hl (by decide) rfl (fun ls hl => ?_)
                        obtain ⟨x15_6, e_x15_6⟩ : ∃ y : Int32, y = x15_4 + 1 := ⟨_, rfl⟩
                        have hm := bnd_e hm e_x15_6
                        refine lv_iinc (v := x15_6) (lv' := [(15, .int x15_6), (14, .int x14), (13, .int x13_1), (16, .int y389), (12, .int x12), (11, .int x11), (10, .int x10), (9, .int x9_1), (7, .long x7_4), (6, .int x6_2), (5, .ref a6), (4, .ref a5), (0, .ref (ad 0))]) hx hb dL_pieces_427 hl (k := 3) rfl (by rw [e_x15_6]; rfl) (by decide) rfl (fun ls hl => ?_)
                        refine lv_goto (tgt := 351) hx hb dL_pieces_430 (by decide) ?_
                        exact ih_351 x15_6 x14 x13_1 hm _ (lv_sub hl [0, 1, 2, 4, 5, 6, 7, 8, 9, 10, 11, 12] rfl)
                      · have hm := it_f hm c_415
                        refine lv_iload hx hb dL_pieces_418 (lv_at hl 2 rfl) ?_
                        refine lv_goto (tgt := 425) hx hb dL_pieces_420 (by decide) ?_
                        refine lv_istore (lv' := [(14, .int x15_4), (13, .int x13_1), (16, .int y389), (15, .int x15_4), (12, .int x12), (11, .int x11), (10, .int x10), (9, .int x9_1), (7, .long x7_4), (6, .int x6_2), (5, .ref a6), (4, .ref a5), (0, .ref (ad 0))]) hx hb dL_pieces_425 hl (by decide) rfl (fun ls hl => ?_)
                        obtain ⟨x15_7, e_x15_7⟩ : ∃ y : Int32, y = x15_4 + 1 := ⟨_, rfl⟩
                        have hm := bnd_e hm e_x15_7
                        refine lv_iinc (v := x15_7) (lv' := [(15, .int x15_7), (14, .int x15_4), (13, .int x13_1), (16, .int y389), (12, .int x12), (11, .int x11), (10, .int x10), (9, .int x9_1), (7, .long x7_4), (6, .int x6_2), (5, .ref a6), (4, .ref a5), (0, .ref (ad 0))]) hx hb dL_pieces_427 hl (k := 3) rfl (by rw [e_x15_7]; rfl) (by decide) rfl (fun ls hl => ?_)
                        refine lv_goto (tgt := 351) hx hb dL_pieces_430 (by decide) ?_
                        exact ih_351 x15_7 x15_4 x13_1 hm _ (lv_sub hl [0, 1, 2, 4, 5, 6, 7, 8, 9, 10, 11, 12] rfl)
                  refine lv_if_eq (tgt := 402) hx hb dL_pieces_395 (by decide) (fun c_395 => ?_) (fun c_395 => ?_)
                  · refine lv_iconst (v := 0) hx hb dL_pieces_402 (by decide) ?_
                    have e9 : y403 = 0 := by rw [e_y403, if_pos c_395]
                    rw [e9] at J_403
                    exact J_403
                  · refine lv_iconst (v := 1) hx hb dL_pieces_398 (by decide) ?_
                    refine lv_goto (tgt := 403) hx hb dL_pieces_399 (by decide) ?_
                    have e9 : y403 = 1 := by rw [e_y403, if_neg c_395]
                    rw [e9] at J_403
                    exact J_403
                have hm := hq_389
                refine lv_icmp_ne (tgt := 388) hx hb dL_pieces_368 (by decide) (fun c_368 => ?_) (fun c_368 => ?_)
                · have hm := it_f hm c_368
                  refine lv_iconst (v := 0) hx hb dL_pieces_388 (by decide) ?_
                  exact J_389 0 (o2 hm)
                · have hm := it_t hm c_368
                  refine lv_aload hx hb dL_pieces_371 (lv_at hl 9 rfl) ?_
                  refine lv_iload hx hb dL_pieces_373 (lv_at hl 0 rfl) ?_
                  obtain ⟨c_375, hm⟩ := ck hm
                  refine va_iald hx hb hK hP 24 0 rfl rfl c_375 dL_pieces_375 ?_
                  refine lv_aload hx hb dL_pieces_376 (lv_at hl 9 rfl) ?_
                  refine lv_iload hx hb dL_pieces_378 (lv_at hl 3 rfl) ?_
                  obtain ⟨c_380, hm⟩ := ck hm
                  refine va_iald hx hb hK hP 24 0 rfl rfl c_380 dL_pieces_380 ?_
                  refine lv_icmp_ne (tgt := 388) hx hb dL_pieces_381 (by decide) (fun c_381 => ?_) (fun c_381 => ?_)
                  · have hm := it_f hm c_381
                    refine lv_iconst (v := 0) hx hb dL_pieces_388 (by decide) ?_
                    exact J_389 0 (o2 hm)
                  · have hm := it_t hm c_381
                    refine lv_iconst (v := 1) hx hb dL_pieces_384 (by decide) ?_
                    refine lv_goto (tgt := 389) hx hb dL_pieces_385 (by decide) ?_
                    exact J_389 1 (o2 hm)
          exact L_351 F 0 x12 0 hq_351 _ (lv_sub hl [0, 1, 2, 3, 4, 5, 6, 7, 8, 9, 10, 11] rfl)
    exact L_334 F 0 0 (-1) 0 hq_334 _ (lv_sub hl [0, 1, 2, 3, 4, 5, 6, 7, 8] rfl)
  have L_21 : ∀ (n : Nat) (x9 : Int32) (x7 : Int64) (x6 : Int32) (vxl21 : Nat → Int32) (vyl21 : Nat → Int32), L_pieces_L21 vr vh vq zk zm zb zs zr zu zt zf zg zbd zro zmc zmg zsp zjn F n x9 x7 x6 vxl21 vyl21 = some z_21 → ∀ (H : Heap) (locs : List Loc), va_P (dC, dI) vwCl (wP cI aa ad a5 a6 vm vr vh vl vq zk zm zb zs zr zu zt zf zg zbd zro zmc zmg zsp zjn vxl21 vyl21) H → va_D A (wP cI aa ad a5 a6 vm vr vh vl vq zk zm zb zs zr zu zt zf zg zbd zro zmc zmg zsp zjn vxl21 vyl21) → va_S A s.heap H locs → ∀ (ls : Array Slot), lv_has ls 18 [(9, .int x9), (7, .long x7), (6, .int x6), (5, .ref a6), (4, .ref a5), (0, .ref (ad 0)), (1, .ref (aa 1)), (2, .ref (aa 2)), (3, .ref (aa 4))] → W p l e (headSpec wsL_pieces ({ frames := 9, cells := 4, slots := 140, locals := 183 } : Room)).room s m ([.ref (ad 0), .ref (aa 1), .ref (aa 2), .ref (aa 4)] : List Value).toArray below meth c H locs 2 128 (MQ below (zQi (dC, dI) (wQ cI aa ad vm vr vh vl vq u_zk u_zm u_zb u_zs u_zr u_zu u_zt u_zf u_zg u_zbd u_zro u_zmc u_zmg u_zsp u_zjn) [(cI, .int)] A r) ([.ref (ad 0), .ref (aa 1), .ref (aa 2), .ref (aa 4)] : List Value).toArray s 4 140 A) (F0 m 21 ls []) := by
    intro n
    induction n with
    | zero => intro x9 x7 x6 vxl21 vyl21 hm; cases hm
    | succ n ih_21 =>
      intro x9 x7 x6 vxl21 vyl21 hm H locs hP hD hS ls hl
      refine lv_iload hx hb dL_pieces_21 (lv_at hl 0 rfl) ?_
      refine lv_aload_n hx hb dL_pieces_23 rfl (lv_at hl 8 rfl) ?_
      refine lv_iconst (v := 0) hx hb dL_pieces_24 (by decide) ?_
      obtain ⟨c_25, hm⟩ := ck hm
      refine va_iald hx hb hK hP 4 0 rfl rfl c_25 dL_pieces_25 ?_
      refine lv_icmp_ge (tgt := 322) hx hb dL_pieces_26 (by decide) (fun c_26 => ?_) (fun c_26 => ?_)
      · have hm := it_t hm c_26
        exact K_21 x7 x6 vxl21 vyl21 (o2 hm) _ _ hP hD hS _ (lv_sub hl [1, 2, 3, 4, 5] rfl)
      · have hm := it_f hm c_26
        refine lv_aload_n hx hb dL_pieces_29 rfl (lv_at hl 7 rfl) ?_
        refine lv_iload hx hb dL_pieces_30 (lv_at hl 0 rfl) ?_
        refine lv_aload_n hx hb dL_pieces_32 rfl (lv_at hl 8 rfl) ?_
        refine lv_iconst (v := 0) hx hb dL_pieces_33 (by decide) ?_
        obtain ⟨c_34, hm⟩ := ck hm
        refine va_iald hx hb hK hP 4 0 rfl rfl c_34 dL_pieces_34 ?_
        obtain ⟨r35, h_35, hm⟩ := ob hm
        refine z_callSi (As := [.ref (aa 2), .int x9, .int (vq (Int32.toNatClampNeg 0))]) (rest := []) ⟨hx, hb, hml, hown, hts⟩ (c_L_behind l dC dI cI (aa 2) 64 vh F x9 (vq (Int32.toNatClampNeg 0)) r35 h_35) (va_cwS 3 hts gL_pieces_L_behind rfl rfl rfl ks_L_behind ⟨Nat.le_of_ble_eq_true rfl, Nat.le_of_ble_eq_true rfl⟩) hK (z_mid (pjP_1vh cI aa ad a5 a6 vm vr vh vl vq zk zm zb zs zr zu zt zf zg zbd zro zmc zmg zsp zjn vxl21 vyl21 vh) hP) rfl hl.1 rfl (Nat.le_of_ble_eq_true rfl) dL_pieces_35 ⟨Nat.le_of_ble_eq_true rfl, Nat.le_of_ble_eq_true rfl⟩ ?_
        refine lv_istore (lv' := [(10, .int r35), (9, .int x9), (7, .long x7), (6, .int x6), (5, .ref a6), (4, .ref a5), (0, .ref (ad 0)), (1, .ref (aa 1)), (2, .ref (aa 2)), (3, .ref (aa 4))]) hx hb dL_pieces_38 hl (by decide) rfl (fun ls hl => ?_)
        refine lv_aload_n hx hb dL_pieces_40 rfl (lv_at hl 7 rfl) ?_
        refine lv_iload hx hb dL_pieces_41 (lv_at hl 1 rfl) ?_
        refine lv_iload hx hb dL_pieces_43 (lv_at hl 0 rfl) ?_
        refine lv_aload_n hx hb dL_pieces_45 rfl (lv_at hl 9 rfl) ?_
        refine lv_iconst (v := 2) hx hb dL_pieces_46 (by decide) ?_
        obtain ⟨c_47, hm⟩ := ck hm
        refine va_iald hx hb hK hP 4 0 rfl rfl c_47 dL_pieces_47 ?_
        obtain ⟨r48, h_48, hm⟩ := ob hm
        refine z_callSi (As := [.ref (aa 1), .int x9, .int r35, .int (vq (Int32.toNatClampNeg 2))]) (rest := []) ⟨hx, hb, hml, hown, hts⟩ (c_L_steepest l dC dI cI (aa 1) 64 vr F x9 r35 (vq (Int32.toNatClampNeg 2)) r48 h_48) (va_cwS 4 hts gL_pieces_L_steepest rfl rfl rfl ks_L_steepest ⟨Nat.le_of_ble_eq_true rfl, Nat.le_of_ble_eq_true rfl⟩) hK (z_mid (pjP_1vr cI aa ad a5 a6 vm vr vh vl vq zk zm zb zs zr zu zt zf zg zbd zro zmc zmg zsp zjn vxl21 vyl21 vr) hP) rfl hl.1 rfl (Nat.le_of_ble_eq_true rfl) dL_pieces_48 ⟨Nat.le_of_ble_eq_true rfl, Nat.le_of_ble_eq_true rfl⟩ ?_
        refine lv_istore (lv' := [(11, .int r48), (10, .int r35), (9, .int x9), (7, .long x7), (6, .int x6), (5, .ref a6), (4, .ref a5), (0, .ref (ad 0)), (1, .ref (aa 1)), (2, .ref (aa 2)), (3, .ref (aa 4))]) hx hb dL_pieces_51 hl (by decide) rfl (fun ls hl => ?_)
        refine lv_iload hx hb dL_pieces_53 (lv_at hl 0 rfl) ?_
        refine lv_iload hx hb dL_pieces_55 (lv_at hl 2 rfl) ?_
        obtain ⟨z_73, hq_73, hm⟩ := ob hm
        have J_73 : ∀ (y73 : Int32), z_73 = y73 → W p l e (headSpec wsL_pieces ({ frames := 9, cells := 4, slots := 140, locals := 183 } : Room)).room s m ([.ref (ad 0), .ref (aa 1), .ref (aa 2), .ref (aa 4)] : List Value).toArray below meth c H locs 2 128 (MQ below (zQi (dC, dI) (wQ cI aa ad vm vr vh vl vq u_zk u_zm u_zb u_zs u_zr u_zu u_zt u_zf u_zg u_zbd u_zro u_zmc u_zmg u_zsp u_zjn) [(cI, .int)] A r) ([.ref (ad 0), .ref (aa 1), .ref (aa 2), .ref (aa 4)] : List Value).toArray s 4 140 A) (F0 m 73 ls [.int y73]) := by
          intro y73 ez
          rw [ez] at hm
          refine lv_istore (lv' := [(12, .int y73), (11, .int r48), (10, .int r35), (9, .int x9), (7, .long x7), (6, .int x6), (5, .ref a6), (4, .ref a5), (0, .ref (ad 0)), (1, .ref (aa 1)), (2, .ref (aa 2)), (3, .ref (aa 4))]) hx hb dL_pieces_73 hl (by decide) rfl (fun ls hl => ?_)
          refine lv_iload hx hb dL_pieces_75 (lv_at hl 1 rfl) ?_
          refine lv_iload hx hb dL_pieces_77 (lv_at hl 3 rfl) ?_
          obtain ⟨z_95, hq_95, hm⟩ := ob hm
          have J_95 : ∀ (y95 : Int32), z_95 = y95 → W p l e (headSpec wsL_pieces ({ frames := 9, cells := 4, slots := 140, locals := 183 } : Room)).room s m ([.ref (ad 0), .ref (aa 1), .ref (aa 2), .ref (aa 4)] : List Value).toArray below meth c H locs 2 128 (MQ below (zQi (dC, dI) (wQ cI aa ad vm vr vh vl vq u_zk u_zm u_zb u_zs u_zr u_zu u_zt u_zf u_zg u_zbd u_zro u_zmc u_zmg u_zsp u_zjn) [(cI, .int)] A r) ([.ref (ad 0), .ref (aa 1), .ref (aa 2), .ref (aa 4)] : List Value).toArray s 4 140 A) (F0 m 95 ls [.int y95]) := by
            intro y95 ez
            rw [ez] at hm
            refine lv_istore (lv' := [(13, .int y95), (12, .int y73), (11, .int r48), (10, .int r35), (9, .int x9), (7, .long x7), (6, .int x6), (5, .ref a6), (4, .ref a5), (0, .ref (ad 0)), (1, .ref (aa 1)), (2, .ref (aa 2)), (3, .ref (aa 4))]) hx hb dL_pieces_95 hl (by decide) rfl (fun ls hl => ?_)
            refine lv_iload hx hb dL_pieces_97 (lv_at hl 1 rfl) ?_
            refine lv_iload hx hb dL_pieces_99 (lv_at hl 0 rfl) ?_
            obtain ⟨r101, h_101, hm⟩ := ob hm
            refine z_callSi (As := [.int y73, .int y95]) (rest := []) ⟨hx, hb, hml, hown, hts⟩ (c_L_common l dC dI F y73 y95 r101 h_101) (va_cwS 2 hts gL_pieces_L_common rfl rfl rfl ks_L_common ⟨Nat.le_of_ble_eq_true rfl, Nat.le_of_ble_eq_true rfl⟩) (hK.sub (tys' := []) [] rfl) z_P0 rfl hl.1 rfl (Nat.le_of_ble_eq_true rfl) dL_pieces_101 ⟨Nat.le_of_ble_eq_true rfl, Nat.le_of_ble_eq_true rfl⟩ ?_
            refine lv_istore (lv' := [(14, .int r101), (13, .int y95), (12, .int y73), (11, .int r48), (10, .int r35), (9, .int x9), (7, .long x7), (6, .int x6), (5, .ref a6), (4, .ref a5), (0, .ref (ad 0)), (1, .ref (aa 1)), (2, .ref (aa 2)), (3, .ref (aa 4))]) hx hb dL_pieces_104 hl (by decide) rfl (fun ls hl => ?_)
            refine lv_aload hx hb dL_pieces_106 (lv_at hl 9 rfl) ?_
            refine lv_iload hx hb dL_pieces_108 (lv_at hl 7 rfl) ?_
            refine lv_iload hx hb dL_pieces_110 (lv_at hl 2 rfl) ?_
            refine lv_iload hx hb dL_pieces_112 (lv_at hl 0 rfl) ?_
            obtain ⟨c_114, hm⟩ := ck hm
            refine lv_idiv hx hb dL_pieces_114 c_114 ?_
            obtain ⟨c_115, hm⟩ := ck hm
            refine va_iast hx hb hK hP hD hS 23 0 rfl rfl c_115 dL_pieces_115 (fun H locs hP hD hS => ?_)
            have hP : va_P (dC, dI) vwCl (wP cI aa ad a5 a6 vm vr vh vl vq zk zm zb zs zr zu zt zf zg zbd zro zmc zmg zsp zjn (upd vxl21 (Int32.toNatClampNeg x6) (y73 / r101)) vyl21) H := hP
            have hD : va_D A (wP cI aa ad a5 a6 vm vr vh vl vq zk zm zb zs zr zu zt zf zg zbd zro zmc zmg zsp zjn (upd vxl21 (Int32.toNatClampNeg x6) (y73 / r101)) vyl21) := hD
            refine lv_aload hx hb dL_pieces_116 (lv_at hl 8 rfl) ?_
            refine lv_iload hx hb dL_pieces_118 (lv_at hl 7 rfl) ?_
            refine lv_iload hx hb dL_pieces_120 (lv_at hl 1 rfl) ?_
            refine lv_iload hx hb dL_pieces_122 (lv_at hl 0 rfl) ?_
            obtain ⟨c_124, hm⟩ := ck hm
            refine lv_idiv hx hb dL_pieces_124 c_124 ?_
            obtain ⟨c_125, hm⟩ := ck hm
            refine va_iast hx hb hK hP hD hS 24 0 rfl rfl c_125 dL_pieces_125 (fun H locs hP hD hS => ?_)
            have hP : va_P (dC, dI) vwCl (wP cI aa ad a5 a6 vm vr vh vl vq zk zm zb zs zr zu zt zf zg zbd zro zmc zmg zsp zjn (upd vxl21 (Int32.toNatClampNeg x6) (y73 / r101)) (upd vyl21 (Int32.toNatClampNeg x6) (y95 / r101))) H := hP
            have hD : va_D A (wP cI aa ad a5 a6 vm vr vh vl vq zk zm zb zs zr zu zt zf zg zbd zro zmc zmg zsp zjn (upd vxl21 (Int32.toNatClampNeg x6) (y73 / r101)) (upd vyl21 (Int32.toNatClampNeg x6) (y95 / r101))) := hD
            refine lv_aload_n hx hb dL_pieces_126 rfl (lv_at hl 11 rfl) ?_
            refine lv_iload hx hb dL_pieces_127 (lv_at hl 5 rfl) ?_
            refine lv_iload hx hb dL_pieces_129 (lv_at hl 4 rfl) ?_
            refine lv_aload_n hx hb dL_pieces_131 rfl (lv_at hl 13 rfl) ?_
            refine lv_iconst (v := 2) hx hb dL_pieces_132 (by decide) ?_
            obtain ⟨c_133, hm⟩ := ck hm
            refine va_iald hx hb hK hP 4 0 rfl rfl c_133 dL_pieces_133 ?_
            obtain ⟨r134, h_134, hm⟩ := ob hm
            refine z_callSi (As := [.ref (aa 1), .int x9, .int r35, .int (vq (Int32.toNatClampNeg 2))]) (rest := []) ⟨hx, hb, hml, hown, hts⟩ (c_L_fits l dC dI cI (aa 1) 64 vr F x9 r35 (vq (Int32.toNatClampNeg 2)) r134 h_134) (va_cwS 4 hts gL_pieces_L_fits rfl rfl rfl ks_L_fits ⟨Nat.le_of_ble_eq_true rfl, Nat.le_of_ble_eq_true rfl⟩) hK (z_mid (pjP_1vr cI aa ad a5 a6 vm vr vh vl vq zk zm zb zs zr zu zt zf zg zbd zro zmc zmg zsp zjn (upd vxl21 (Int32.toNatClampNeg x6) (y73 / r101)) (upd vyl21 (Int32.toNatClampNeg x6) (y95 / r101)) vr) hP) rfl hl.1 rfl (Nat.le_of_ble_eq_true rfl) dL_pieces_134 ⟨Nat.le_of_ble_eq_true rfl, Nat.le_of_ble_eq_true rfl⟩ ?_
            refine lv_if_eq (tgt := 192) hx hb dL_pieces_137 (by decide) (fun c_137 => ?_) (fun c_137 => ?_)
            · have hm := it_t hm c_137
              refine lv_iconst (v := 0) hx hb dL_pieces_192 (by decide) ?_
              have e_21 := o2 hm
              have hm := hmo_21
              rw [e_21] at hm
              have hP := z_mid (pjP_small cI aa ad a5 a6 vm vr vh vl vq zk zm zb zs zr zu zt zf zg zbd zro zmc zmg zsp zjn (upd vxl21 (Int32.toNatClampNeg x6) (y73 / r101)) (upd vyl21 (Int32.toNatClampNeg x6) (y95 / r101))) hP
              have hD := z_midD (pjP_small cI aa ad a5 a6 vm vr vh vl vq zk zm zb zs zr zu zt zf zg zbd zro zmc zmg zsp zjn (upd vxl21 (Int32.toNatClampNeg x6) (y73 / r101)) (upd vyl21 (Int32.toNatClampNeg x6) (y95 / r101))) hD
              cases o2 hm
              refine W.widen (k := 4) (n := 140) (Nat.le_of_ble_eq_true rfl) (Nat.le_of_ble_eq_true rfl) ?_
              exact W.zret hx hb hr rfl (fun t ht hW => ⟨⟨_, (), rfl, rfl, by rw [ht]; exact hP, va_K.moved hW.alike hK, hD⟩, hS.F ht⟩) hS.2.2 dL_pieces_193
            · have hm := it_f hm c_137
              refine lv_aload_n hx hb dL_pieces_140 rfl (lv_at hl 10 rfl) ?_
              refine lv_iload hx hb dL_pieces_141 (lv_at hl 7 rfl) ?_
              obtain ⟨r143, h_143, hm⟩ := ob hm
              have h_143 := nz_e h_143
              refine z_callWi (wc := (wL cI ad zk zm zb zs zr zu zt zf zg zbd zro zmc zmg zsp zjn)) (w1 := (wL cI ad zk zm zb zs zr zu zt zf zg zbd zro zmc zmg zsp zjn)) (ws := (wP cI aa ad a5 a6 vm vr vh vl vq zk zm zb zs zr zu zt zf zg zbd zro zmc zmg zsp zjn (upd vxl21 (Int32.toNatClampNeg x6) (y73 / r101)) (upd vyl21 (Int32.toNatClampNeg x6) (y95 / r101)))) (ws' := (wP cI aa ad a5 a6 vm vr vh vl vq zk zm zb zs zr zu zt zf zg zbd zro zmc zmg zsp zjn (upd vxl21 (Int32.toNatClampNeg x6) (y73 / r101)) (upd vyl21 (Int32.toNatClampNeg x6) (y95 / r101)))) (As := [.int x6]) (rest := []) (ci := 2) (q := (RX2, TX2, 15)) ⟨hx, hb, hml, hown, hts⟩ (n_X2_start l dC dI cI ad zk zm zb zs zr zu zt zf zg zbd zro zmc zmg zsp zjn F x6 H.size r143 h_143) (cwV 1 hts gL_pieces_X2_start rfl rfl rfl kv_X2_start ⟨Nat.le_of_ble_eq_true rfl, Nat.le_of_ble_eq_true rfl⟩) hK hP hD hS hA (pjP_L cI aa ad a5 a6 vm vr vh vl vq zk zm zb zs zr zu zt zf zg zbd zro zmc zmg zsp zjn (upd vxl21 (Int32.toNatClampNeg x6) (y73 / r101)) (upd vyl21 (Int32.toNatClampNeg x6) (y95 / r101)) zk zm zb zs zr zu zt zf zg zbd zro zmc zmg zsp zjn) ((paL cI ad zk zm zb zs zr zu zt zf zg zbd zro zmc zmg zsp zjn).trans (paL cI ad zk zm zb zs zr zu zt zf zg zbd zro zmc zmg zsp zjn).symm) rfl rfl rfl rfl hl.1 rfl (Nat.le_of_ble_eq_true rfl) dL_pieces_143 ⟨Nat.le_of_ble_eq_true rfl, Nat.le_of_ble_eq_true rfl⟩ (fun H locs hP hD hS => ?_)
              refine lv_iload hx hb dL_pieces_146 (lv_at hl 5 rfl) ?_
              refine lv_icmp_ne (tgt := 192) hx hb dL_pieces_148 (by decide) (fun c_148 => ?_) (fun c_148 => ?_)
              · have hm := it_f hm c_148
                refine lv_iconst (v := 0) hx hb dL_pieces_192 (by decide) ?_
                have e_21 := o2 hm
                have hm := hmo_21
                rw [e_21] at hm
                have hP := z_mid (pjP_small cI aa ad a5 a6 vm vr vh vl vq zk zm zb zs zr zu zt zf zg zbd zro zmc zmg zsp zjn (upd vxl21 (Int32.toNatClampNeg x6) (y73 / r101)) (upd vyl21 (Int32.toNatClampNeg x6) (y95 / r101))) hP
                have hD := z_midD (pjP_small cI aa ad a5 a6 vm vr vh vl vq zk zm zb zs zr zu zt zf zg zbd zro zmc zmg zsp zjn (upd vxl21 (Int32.toNatClampNeg x6) (y73 / r101)) (upd vyl21 (Int32.toNatClampNeg x6) (y95 / r101))) hD
                cases o2 hm
                refine W.widen (k := 4) (n := 140) (Nat.le_of_ble_eq_true rfl) (Nat.le_of_ble_eq_true rfl) ?_
                exact W.zret hx hb hr rfl (fun t ht hW => ⟨⟨_, (), rfl, rfl, by rw [ht]; exact hP, va_K.moved hW.alike hK, hD⟩, hS.F ht⟩) hS.2.2 dL_pieces_193
              · have hm := it_t hm c_148
                refine lv_aload_n hx hb dL_pieces_151 rfl (lv_at hl 10 rfl) ?_
                refine lv_iload hx hb dL_pieces_152 (lv_at hl 7 rfl) ?_
                obtain ⟨r154, h_154, hm⟩ := ob hm
                have h_154 := nz_e h_154
                refine z_callWi (wc := (wL cI ad zk zm zb zs zr zu zt zf zg zbd zro zmc zmg zsp zjn)) (w1 := (wL cI ad zk zm zb zs zr zu zt zf zg zbd zro zmc zmg zsp zjn)) (ws := (wP cI aa ad a5 a6 vm vr vh vl vq zk zm zb zs zr zu zt zf zg zbd zro zmc zmg zsp zjn (upd vxl21 (Int32.toNatClampNeg x6) (y73 / r101)) (upd vyl21 (Int32.toNatClampNeg x6) (y95 / r101)))) (ws' := (wP cI aa ad a5 a6 vm vr vh vl vq zk zm zb zs zr zu zt zf zg zbd zro zmc zmg zsp zjn (upd vxl21 (Int32.toNatClampNeg x6) (y73 / r101)) (upd vyl21 (Int32.toNatClampNeg x6) (y95 / r101)))) (As := [.int x6]) (rest := []) (ci := 2) (q := (RX2, TX2, 15)) ⟨hx, hb, hml, hown, hts⟩ (n_X2_firstKey l dC dI cI ad zk zm zb zs zr zu zt zf zg zbd zro zmc zmg zsp zjn F x6 H.size r154 h_154) (cwV 1 hts gL_pieces_X2_firstKey rfl rfl rfl kv_X2_firstKey ⟨Nat.le_of_ble_eq_true rfl, Nat.le_of_ble_eq_true rfl⟩) hK hP hD hS hA (pjP_L cI aa ad a5 a6 vm vr vh vl vq zk zm zb zs zr zu zt zf zg zbd zro zmc zmg zsp zjn (upd vxl21 (Int32.toNatClampNeg x6) (y73 / r101)) (upd vyl21 (Int32.toNatClampNeg x6) (y95 / r101)) zk zm zb zs zr zu zt zf zg zbd zro zmc zmg zsp zjn) ((paL cI ad zk zm zb zs zr zu zt zf zg zbd zro zmc zmg zsp zjn).trans (paL cI ad zk zm zb zs zr zu zt zf zg zbd zro zmc zmg zsp zjn).symm) rfl rfl rfl rfl hl.1 rfl (Nat.le_of_ble_eq_true rfl) dL_pieces_154 ⟨Nat.le_of_ble_eq_true rfl, Nat.le_of_ble_eq_true rfl⟩ (fun H locs hP hD hS => ?_)
                refine lv_aload_n hx hb dL_pieces_157 rfl (lv_at hl 11 rfl) ?_
                refine lv_iload hx hb dL_pieces_158 (lv_at hl 5 rfl) ?_
                obtain ⟨c_160, hm⟩ := ck hm
                refine va_iald hx hb hK hP 1 0 rfl rfl c_160 dL_pieces_160 ?_
                refine lv_icmp_ne (tgt := 192) hx hb dL_pieces_161 (by decide) (fun c_161 => ?_) (fun c_161 => ?_)
                · have hm := it_f hm c_161
                  refine lv_iconst (v := 0) hx hb dL_pieces_192 (by decide) ?_
                  have e_21 := o2 hm
                  have hm := hmo_21
                  rw [e_21] at hm
                  have hP := z_mid (pjP_small cI aa ad a5 a6 vm vr vh vl vq zk zm zb zs zr zu zt zf zg zbd zro zmc zmg zsp zjn (upd vxl21 (Int32.toNatClampNeg x6) (y73 / r101)) (upd vyl21 (Int32.toNatClampNeg x6) (y95 / r101))) hP
                  have hD := z_midD (pjP_small cI aa ad a5 a6 vm vr vh vl vq zk zm zb zs zr zu zt zf zg zbd zro zmc zmg zsp zjn (upd vxl21 (Int32.toNatClampNeg x6) (y73 / r101)) (upd vyl21 (Int32.toNatClampNeg x6) (y95 / r101))) hD
                  cases o2 hm
                  refine W.widen (k := 4) (n := 140) (Nat.le_of_ble_eq_true rfl) (Nat.le_of_ble_eq_true rfl) ?_
                  exact W.zret hx hb hr rfl (fun t ht hW => ⟨⟨_, (), rfl, rfl, by rw [ht]; exact hP, va_K.moved hW.alike hK, hD⟩, hS.F ht⟩) hS.2.2 dL_pieces_193
                · have hm := it_t hm c_161
                  refine lv_aload_n hx hb dL_pieces_164 rfl (lv_at hl 10 rfl) ?_
                  refine lv_iload hx hb dL_pieces_165 (lv_at hl 7 rfl) ?_
                  obtain ⟨r167, h_167, hm⟩ := ob hm
                  have h_167 := nz_e h_167
                  refine z_callWi (wc := (wL cI ad zk zm zb zs zr zu zt zf zg zbd zro zmc zmg zsp zjn)) (w1 := (wL cI ad zk zm zb zs zr zu zt zf zg zbd zro zmc zmg zsp zjn)) (ws := (wP cI aa ad a5 a6 vm vr vh vl vq zk zm zb zs zr zu zt zf zg zbd zro zmc zmg zsp zjn (upd vxl21 (Int32.toNatClampNeg x6) (y73 / r101)) (upd vyl21 (Int32.toNatClampNeg x6) (y95 / r101)))) (ws' := (wP cI aa ad a5 a6 vm vr vh vl vq zk zm zb zs zr zu zt zf zg zbd zro zmc zmg zsp zjn (upd vxl21 (Int32.toNatClampNeg x6) (y73 / r101)) (upd vyl21 (Int32.toNatClampNeg x6) (y95 / r101)))) (As := [.int x6]) (rest := []) (ci := 2) (q := (RX2, TX2, 15)) ⟨hx, hb, hml, hown, hts⟩ (n_X2_rise l dC dI cI ad zk zm zb zs zr zu zt zf zg zbd zro zmc zmg zsp zjn F x6 H.size r167 h_167) (cwV 1 hts gL_pieces_X2_rise rfl rfl rfl kv_X2_rise ⟨Nat.le_of_ble_eq_true rfl, Nat.le_of_ble_eq_true rfl⟩) hK hP hD hS hA (pjP_L cI aa ad a5 a6 vm vr vh vl vq zk zm zb zs zr zu zt zf zg zbd zro zmc zmg zsp zjn (upd vxl21 (Int32.toNatClampNeg x6) (y73 / r101)) (upd vyl21 (Int32.toNatClampNeg x6) (y95 / r101)) zk zm zb zs zr zu zt zf zg zbd zro zmc zmg zsp zjn) ((paL cI ad zk zm zb zs zr zu zt zf zg zbd zro zmc zmg zsp zjn).trans (paL cI ad zk zm zb zs zr zu zt zf zg zbd zro zmc zmg zsp zjn).symm) rfl rfl rfl rfl hl.1 rfl (Nat.le_of_ble_eq_true rfl) dL_pieces_167 ⟨Nat.le_of_ble_eq_true rfl, Nat.le_of_ble_eq_true rfl⟩ (fun H locs hP hD hS => ?_)
                  refine lv_aload hx hb dL_pieces_170 (lv_at hl 9 rfl) ?_
                  refine lv_iload hx hb dL_pieces_172 (lv_at hl 7 rfl) ?_
                  obtain ⟨c_174, hm⟩ := ck hm
                  refine va_iald hx hb hK hP 23 0 rfl rfl c_174 dL_pieces_174 ?_
                  refine lv_icmp_ne (tgt := 192) hx hb dL_pieces_175 (by decide) (fun c_175 => ?_) (fun c_175 => ?_)
                  · have hm := it_f hm c_175
                    refine lv_iconst (v := 0) hx hb dL_pieces_192 (by decide) ?_
                    have e_21 := o2 hm
                    have hm := hmo_21
                    rw [e_21] at hm
                    have hP := z_mid (pjP_small cI aa ad a5 a6 vm vr vh vl vq zk zm zb zs zr zu zt zf zg zbd zro zmc zmg zsp zjn (upd vxl21 (Int32.toNatClampNeg x6) (y73 / r101)) (upd vyl21 (Int32.toNatClampNeg x6) (y95 / r101))) hP
                    have hD := z_midD (pjP_small cI aa ad a5 a6 vm vr vh vl vq zk zm zb zs zr zu zt zf zg zbd zro zmc zmg zsp zjn (upd vxl21 (Int32.toNatClampNeg x6) (y73 / r101)) (upd vyl21 (Int32.toNatClampNeg x6) (y95 / r101))) hD
                    cases o2 hm
                    refine W.widen (k := 4) (n := 140) (Nat.le_of_ble_eq_true rfl) (Nat.le_of_ble_eq_true rfl) ?_
                    exact W.zret hx hb hr rfl (fun t ht hW => ⟨⟨_, (), rfl, rfl, by rw [ht]; exact hP, va_K.moved hW.alike hK, hD⟩, hS.F ht⟩) hS.2.2 dL_pieces_193
                  · have hm := it_t hm c_175
                    refine lv_aload_n hx hb dL_pieces_178 rfl (lv_at hl 10 rfl) ?_
                    refine lv_iload hx hb dL_pieces_179 (lv_at hl 7 rfl) ?_
                    obtain ⟨r181, h_181, hm⟩ := ob hm
                    have h_181 := nz_e h_181
                    refine z_callWi (wc := (wL cI ad zk zm zb zs zr zu zt zf zg zbd zro zmc zmg zsp zjn)) (w1 := (wL cI ad zk zm zb zs zr zu zt zf zg zbd zro zmc zmg zsp zjn)) (ws := (wP cI aa ad a5 a6 vm vr vh vl vq zk zm zb zs zr zu zt zf zg zbd zro zmc zmg zsp zjn (upd vxl21 (Int32.toNatClampNeg x6) (y73 / r101)) (upd vyl21 (Int32.toNatClampNeg x6) (y95 / r101)))) (ws' := (wP cI aa ad a5 a6 vm vr vh vl vq zk zm zb zs zr zu zt zf zg zbd zro zmc zmg zsp zjn (upd vxl21 (Int32.toNatClampNeg x6) (y73 / r101)) (upd vyl21 (Int32.toNatClampNeg x6) (y95 / r101)))) (As := [.int x6]) (rest := []) (ci := 2) (q := (RX2, TX2, 15)) ⟨hx, hb, hml, hown, hts⟩ (n_X2_run l dC dI cI ad zk zm zb zs zr zu zt zf zg zbd zro zmc zmg zsp zjn F x6 H.size r181 h_181) (cwV 1 hts gL_pieces_X2_run rfl rfl rfl kv_X2_run ⟨Nat.le_of_ble_eq_true rfl, Nat.le_of_ble_eq_true rfl⟩) hK hP hD hS hA (pjP_L cI aa ad a5 a6 vm vr vh vl vq zk zm zb zs zr zu zt zf zg zbd zro zmc zmg zsp zjn (upd vxl21 (Int32.toNatClampNeg x6) (y73 / r101)) (upd vyl21 (Int32.toNatClampNeg x6) (y95 / r101)) zk zm zb zs zr zu zt zf zg zbd zro zmc zmg zsp zjn) ((paL cI ad zk zm zb zs zr zu zt zf zg zbd zro zmc zmg zsp zjn).trans (paL cI ad zk zm zb zs zr zu zt zf zg zbd zro zmc zmg zsp zjn).symm) rfl rfl rfl rfl hl.1 rfl (Nat.le_of_ble_eq_true rfl) dL_pieces_181 ⟨Nat.le_of_ble_eq_true rfl, Nat.le_of_ble_eq_true rfl⟩ (fun H locs hP hD hS => ?_)
                    refine lv_aload hx hb dL_pieces_184 (lv_at hl 8 rfl) ?_
                    refine lv_iload hx hb dL_pieces_186 (lv_at hl 7 rfl) ?_
                    obtain ⟨c_188, hm⟩ := ck hm
                    refine va_iald hx hb hK hP 24 0 rfl rfl c_188 dL_pieces_188 ?_
                    refine lv_icmp_eq (tgt := 194) hx hb dL_pieces_189 (by decide) (fun c_189 => ?_) (fun c_189 => ?_)
                    · have hm := it_t hm c_189
                      refine lv_iload hx hb dL_pieces_194 (lv_at hl 5 rfl) ?_
                      refine lv_istore (lv' := [(15, .int x9), (14, .int r101), (13, .int y95), (12, .int y73), (11, .int r48), (10, .int r35), (9, .int x9), (7, .long x7), (6, .int x6), (5, .ref a6), (4, .ref a5), (0, .ref (ad 0)), (1, .ref (aa 1)), (2, .ref (aa 2)), (3, .ref (aa 4))]) hx hb dL_pieces_196 hl (by decide) rfl (fun ls hl => ?_)
                      obtain ⟨z_198, hq_198, hm⟩ := ob hm
                      have hmo_198 := hm
                      have K_198 : ∀ (x7_3 : Int64), z_198 = Sum.inr x7_3 → ∀ (H : Heap) (locs : List Loc), va_P (dC, dI) vwCl (wP cI aa ad a5 a6 vm vr vh vl vq zk zm zb zs zr zu zt zf zg zbd zro zmc zmg zsp zjn (upd vxl21 (Int32.toNatClampNeg x6) (y73 / r101)) (upd vyl21 (Int32.toNatClampNeg x6) (y95 / r101))) H → va_D A (wP cI aa ad a5 a6 vm vr vh vl vq zk zm zb zs zr zu zt zf zg zbd zro zmc zmg zsp zjn (upd vxl21 (Int32.toNatClampNeg x6) (y73 / r101)) (upd vyl21 (Int32.toNatClampNeg x6) (y95 / r101))) → va_S A s.heap H locs → ∀ (ls : Array Slot), lv_has ls 18 [(9, .int x9), (7, .long x7_3), (6, .int x6), (5, .ref a6), (4, .ref a5), (0, .ref (ad 0)), (1, .ref (aa 1)), (2, .ref (aa 2)), (3, .ref (aa 4))] → W p l e (headSpec wsL_pieces ({ frames := 9, cells := 4, slots := 140, locals := 183 } : Room)).room s m ([.ref (ad 0), .ref (aa 1), .ref (aa 2), .ref (aa 4)] : List Value).toArray below meth c H locs 2 128 (MQ below (zQi (dC, dI) (wQ cI aa ad vm vr vh vl vq u_zk u_zm u_zb u_zs u_zr u_zu u_zt u_zf u_zg u_zbd u_zro u_zmc u_zmg u_zsp u_zjn) [(cI, .int)] A r) ([.ref (ad 0), .ref (aa 1), .ref (aa 2), .ref (aa 4)] : List Value).toArray s 4 140 A) (F0 m 305 ls []) := by
                        intro x7_3 ez H locs hP hD hS ls hl
                        rw [ez] at hm
                        obtain ⟨x6_1, e_x6_1⟩ : ∃ y : Int32, y = x6 + 1 := ⟨_, rfl⟩
                        have hm := bnd_e hm e_x6_1
                        refine lv_iinc (v := x6_1) (lv' := [(6, .int x6_1), (9, .int x9), (7, .long x7_3), (5, .ref a6), (4, .ref a5), (0, .ref (ad 0)), (1, .ref (aa 1)), (2, .ref (aa 2)), (3, .ref (aa 4))]) hx hb dL_pieces_305 hl (k := 2) rfl (by rw [e_x6_1]; rfl) (by decide) rfl (fun ls hl => ?_)
                        refine lv_aload_n hx hb dL_pieces_308 rfl (lv_at hl 7 rfl) ?_
                        refine lv_iload hx hb dL_pieces_309 (lv_at hl 1 rfl) ?_
                        refine lv_aload_n hx hb dL_pieces_311 rfl (lv_at hl 8 rfl) ?_
                        refine lv_iconst (v := 0) hx hb dL_pieces_312 (by decide) ?_
                        obtain ⟨c_313, hm⟩ := ck hm
                        refine va_iald hx hb hK hP 4 0 rfl rfl c_313 dL_pieces_313 ?_
                        obtain ⟨r314, h_314, hm⟩ := ob hm
                        refine z_callSi (As := [.ref (aa 2), .int x9, .int (vq (Int32.toNatClampNeg 0))]) (rest := []) ⟨hx, hb, hml, hown, hts⟩ (c_L_behind l dC dI cI (aa 2) 64 vh F x9 (vq (Int32.toNatClampNeg 0)) r314 h_314) (va_cwS 3 hts gL_pieces_L_behind rfl rfl rfl ks_L_behind ⟨Nat.le_of_ble_eq_true rfl, Nat.le_of_ble_eq_true rfl⟩) hK (z_mid (pjP_1vh cI aa ad a5 a6 vm vr vh vl vq zk zm zb zs zr zu zt zf zg zbd zro zmc zmg zsp zjn (upd vxl21 (Int32.toNatClampNeg x6) (y73 / r101)) (upd vyl21 (Int32.toNatClampNeg x6) (y95 / r101)) vh) hP) rfl hl.1 rfl (Nat.le_of_ble_eq_true rfl) dL_pieces_314 ⟨Nat.le_of_ble_eq_true rfl, Nat.le_of_ble_eq_true rfl⟩ ?_
                        refine lv_istore (lv' := [(9, .int r314), (6, .int x6_1), (7, .long x7_3), (5, .ref a6), (4, .ref a5), (0, .ref (ad 0)), (1, .ref (aa 1)), (2, .ref (aa 2)), (3, .ref (aa 4))]) hx hb dL_pieces_317 hl (by decide) rfl (fun ls hl => ?_)
                        refine lv_goto (tgt := 21) hx hb dL_pieces_319 (by decide) ?_
                        exact ih_21 r314 x7_3 x6_1 (upd vxl21 (Int32.toNatClampNeg x6) (y73 / r101)) (upd vyl21 (Int32.toNatClampNeg x6) (y95 / r101)) hm _ _ hP hD hS _ (lv_sub hl [0, 2, 1, 3, 4, 5, 6, 7, 8] rfl)
                      have L_198 : ∀ (n : Nat) (x15 : Int32) (x7_1 : Int64), L_pieces_L198 vr vq zk zm zb zs zr zu zt zf zg zbd zro zmc zmg zsp zjn F x9 r35 n x15 x7_1 = some z_198 → ∀ (H : Heap) (locs : List Loc), va_P (dC, dI) vwCl (wP cI aa ad a5 a6 vm vr vh vl vq zk zm zb zs zr zu zt zf zg zbd zro zmc zmg zsp zjn (upd vxl21 (Int32.toNatClampNeg x6) (y73 / r101)) (upd vyl21 (Int32.toNatClampNeg x6) (y95 / r101))) H → va_D A (wP cI aa ad a5 a6 vm vr vh vl vq zk zm zb zs zr zu zt zf zg zbd zro zmc zmg zsp zjn (upd vxl21 (Int32.toNatClampNeg x6) (y73 / r101)) (upd vyl21 (Int32.toNatClampNeg x6) (y95 / r101))) → va_S A s.heap H locs → ∀ (ls : Array Slot), lv_has ls 18 [(15, .int x15), (10, .int r35), (9, .int x9), (7, .long x7_1), (6, .int x6), (5, .ref a6), (4, .ref a5), (0, .ref (ad 0)), (1, .ref (aa 1)), (2, .ref (aa 2)), (3, .ref (aa 4))] → W p l e (headSpec wsL_pieces ({ frames := 9, cells := 4, slots := 140, locals := 183 } : Room)).room s m ([.ref (ad 0), .ref (aa 1), .ref (aa 2), .ref (aa 4)] : List Value).toArray below meth c H locs 2 128 (MQ below (zQi (dC, dI) (wQ cI aa ad vm vr vh vl vq u_zk u_zm u_zb u_zs u_zr u_zu u_zt u_zf u_zg u_zbd u_zro u_zmc u_zmg u_zsp u_zjn) [(cI, .int)] A r) ([.ref (ad 0), .ref (aa 1), .ref (aa 2), .ref (aa 4)] : List Value).toArray s 4 140 A) (F0 m 198 ls []) := by
                        intro n
                        induction n with
                        | zero => intro x15 x7_1 hm; cases hm
                        | succ n ih_198 =>
                          intro x15 x7_1 hm H locs hP hD hS ls hl
                          refine lv_iload hx hb dL_pieces_198 (lv_at hl 0 rfl) ?_
                          refine lv_iload hx hb dL_pieces_200 (lv_at hl 1 rfl) ?_
                          refine lv_icmp_ge (tgt := 305) hx hb dL_pieces_202 (by decide) (fun c_202 => ?_) (fun c_202 => ?_)
                          · have hm := it_t hm c_202
                            exact K_198 x7_1 (o2 hm) _ _ hP hD hS _ (lv_sub hl [2, 3, 4, 5, 6, 7, 8, 9, 10] rfl)
                          · have hm := it_f hm c_202
                            refine lv_aload_n hx hb dL_pieces_205 rfl (lv_at hl 8 rfl) ?_
                            refine lv_iload hx hb dL_pieces_206 (lv_at hl 0 rfl) ?_
                            obtain ⟨c_208, hm⟩ := ck hm
                            refine va_iald hx hb hK hP 1 0 rfl rfl c_208 dL_pieces_208 ?_
                            refine lv_aload_n hx hb dL_pieces_209 rfl (lv_at hl 8 rfl) ?_
                            refine lv_iload hx hb dL_pieces_210 (lv_at hl 2 rfl) ?_
                            refine lv_iload hx hb dL_pieces_212 (lv_at hl 1 rfl) ?_
                            refine lv_aload_n hx hb dL_pieces_214 rfl (lv_at hl 10 rfl) ?_
                            refine lv_iconst (v := 2) hx hb dL_pieces_215 (by decide) ?_
                            obtain ⟨c_216, hm⟩ := ck hm
                            refine va_iald hx hb hK hP 4 0 rfl rfl c_216 dL_pieces_216 ?_
                            obtain ⟨r217, h_217, hm⟩ := ob hm
                            refine z_callSl (As := [.int (vr (Int32.toNatClampNeg x15)), .ref (aa 1), .int x9, .int r35, .int (vq (Int32.toNatClampNeg 2))]) (rest := []) ⟨hx, hb, hml, hown, hts⟩ (c_L_guess l dC dI cI (aa 1) 64 vr F (vr (Int32.toNatClampNeg x15)) x9 r35 (vq (Int32.toNatClampNeg 2)) r217 h_217) (va_cwS 5 hts gL_pieces_L_guess rfl rfl rfl ks_L_guess ⟨Nat.le_of_ble_eq_true rfl, Nat.le_of_ble_eq_true rfl⟩) hK (z_mid (pjP_1vr cI aa ad a5 a6 vm vr vh vl vq zk zm zb zs zr zu zt zf zg zbd zro zmc zmg zsp zjn (upd vxl21 (Int32.toNatClampNeg x6) (y73 / r101)) (upd vyl21 (Int32.toNatClampNeg x6) (y95 / r101)) vr) hP) rfl hl.1 rfl (Nat.le_of_ble_eq_true rfl) dL_pieces_217 ⟨Nat.le_of_ble_eq_true rfl, Nat.le_of_ble_eq_true rfl⟩ ?_
                            refine lv_iload hx hb dL_pieces_220 (lv_at hl 0 rfl) ?_
                            refine lv_i2l hx hb dL_pieces_222 rfl ?_
                            refine lv_lsub hx hb dL_pieces_223 ?_
                            refine lv_topl (fun x16 e_x16 => ?_)
                            have hm := bnd_e hm e_x16
                            refine lv_lstore (lv' := [(16, .long x16), (15, .int x15), (10, .int r35), (9, .int x9), (7, .long x7_1), (6, .int x6), (5, .ref a6), (4, .ref a5), (0, .ref (ad 0)), (1, .ref (aa 1)), (2, .ref (aa 2)), (3, .ref (aa 4))]) hx hb dL_pieces_224 hl (by decide) rfl (fun ls hl => ?_)
                            refine lv_aload_n hx hb dL_pieces_226 rfl (lv_at hl 8 rfl) ?_
                            refine lv_aload_n hx hb dL_pieces_227 rfl (lv_at hl 9 rfl) ?_
                            refine lv_iload hx hb dL_pieces_228 (lv_at hl 1 rfl) ?_
                            obtain ⟨c_230, hm⟩ := ck hm
                            refine va_iald hx hb hK hP 1 0 rfl rfl c_230 dL_pieces_230 ?_
                            obtain ⟨r231, h_231, hm⟩ := ob hm
                            have h_231 := nz_e h_231
                            refine z_callWl (wc := (wL cI ad zk zm zb zs zr zu zt zf zg zbd zro zmc zmg zsp zjn)) (w1 := (wL cI ad zk zm zb zs zr zu zt zf zg zbd zro zmc zmg zsp zjn)) (ws := (wP cI aa ad a5 a6 vm vr vh vl vq zk zm zb zs zr zu zt zf zg zbd zro zmc zmg zsp zjn (upd vxl21 (Int32.toNatClampNeg x6) (y73 / r101)) (upd vyl21 (Int32.toNatClampNeg x6) (y95 / r101)))) (ws' := (wP cI aa ad a5 a6 vm vr vh vl vq zk zm zb zs zr zu zt zf zg zbd zro zmc zmg zsp zjn (upd vxl21 (Int32.toNatClampNeg x6) (y73 / r101)) (upd vyl21 (Int32.toNatClampNeg x6) (y95 / r101)))) (As := [.int (vr (Int32.toNatClampNeg x15))]) (rest := []) (ci := 2) (q := (RX2, TX2, 15)) ⟨hx, hb, hml, hown, hts⟩ (n_X2_guess l dC dI cI ad zk zm zb zs zr zu zt zf zg zbd zro zmc zmg zsp zjn F (vr (Int32.toNatClampNeg x15)) H.size r231 h_231) (cwV 1 hts gL_pieces_X2_guess rfl rfl rfl kv_X2_guess ⟨Nat.le_of_ble_eq_true rfl, Nat.le_of_ble_eq_true rfl⟩) hK hP hD hS hA (pjP_L cI aa ad a5 a6 vm vr vh vl vq zk zm zb zs zr zu zt zf zg zbd zro zmc zmg zsp zjn (upd vxl21 (Int32.toNatClampNeg x6) (y73 / r101)) (upd vyl21 (Int32.toNatClampNeg x6) (y95 / r101)) zk zm zb zs zr zu zt zf zg zbd zro zmc zmg zsp zjn) ((paL cI ad zk zm zb zs zr zu zt zf zg zbd zro zmc zmg zsp zjn).trans (paL cI ad zk zm zb zs zr zu zt zf zg zbd zro zmc zmg zsp zjn).symm) rfl rfl rfl rfl hl.1 rfl (Nat.le_of_ble_eq_true rfl) dL_pieces_231 ⟨Nat.le_of_ble_eq_true rfl, Nat.le_of_ble_eq_true rfl⟩ (fun H locs hP hD hS => ?_)
                            refine lv_lload hx hb dL_pieces_234 (lv_at hl 0 rfl) ?_
                            refine lv_iload hx hb dL_pieces_236 (lv_at hl 1 rfl) ?_
                            refine lv_i2l hx hb dL_pieces_238 rfl ?_
                            refine lv_ladd hx hb dL_pieces_239 ?_
                            refine W.lcmp hx hb dL_pieces_240 ?_
                            refine lv_if_ne (tgt := 265) hx hb dL_pieces_241 (by decide) (fun c_241 => ?_) (fun c_241 => ?_)
                            · have c_241 : ¬ (r231 = (x16 + (Int32.toInt64 x15))) := fun h => c_241 ((lg_cmp_eq _ _).mpr h)
                              have hm := it_f hm c_241
                              refine lv_iconst (v := 0) hx hb dL_pieces_265 (by decide) ?_
                              have e_198 := o2 hm
                              have hm := hmo_198
                              rw [e_198] at hm
                              have e_21 := o2 hm
                              have hm := hmo_21
                              rw [e_21] at hm
                              have hP := z_mid (pjP_small cI aa ad a5 a6 vm vr vh vl vq zk zm zb zs zr zu zt zf zg zbd zro zmc zmg zsp zjn (upd vxl21 (Int32.toNatClampNeg x6) (y73 / r101)) (upd vyl21 (Int32.toNatClampNeg x6) (y95 / r101))) hP
                              have hD := z_midD (pjP_small cI aa ad a5 a6 vm vr vh vl vq zk zm zb zs zr zu zt zf zg zbd zro zmc zmg zsp zjn (upd vxl21 (Int32.toNatClampNeg x6) (y73 / r101)) (upd vyl21 (Int32.toNatClampNeg x6) (y95 / r101))) hD
                              cases o2 hm
                              refine W.widen (k := 4) (n := 140) (Nat.le_of_ble_eq_true rfl) (Nat.le_of_ble_eq_true rfl) ?_
                              exact W.zret hx hb hr rfl (fun t ht hW => ⟨⟨_, (), rfl, rfl, by rw [ht]; exact hP, va_K.moved hW.alike hK, hD⟩, hS.F ht⟩) hS.2.2 dL_pieces_266
                            · have c_241 : r231 = (x16 + (Int32.toInt64 x15)) := (lg_cmp_eq _ _).mp c_241
                              have hm := it_t hm c_241
                              refine lv_lload hx hb dL_pieces_244 (lv_at hl 0 rfl) ?_
                              refine lv_aload_n hx hb dL_pieces_246 rfl (lv_at hl 11 rfl) ?_
                              refine lv_iconst (v := 2) hx hb dL_pieces_247 (by decide) ?_
                              obtain ⟨c_248, hm⟩ := ck hm
                              refine va_iald hx hb hK hP 4 0 rfl rfl c_248 dL_pieces_248 ?_
                              refine lv_i2l hx hb dL_pieces_249 rfl ?_
                              refine W.lcmp hx hb dL_pieces_250 ?_
                              refine lv_if_gt (tgt := 265) hx hb dL_pieces_251 (by decide) (fun c_251 => ?_) (fun c_251 => ?_)
                              · have c_251 : (Int32.toInt64 (vq (Int32.toNatClampNeg 2))) < x16 := (lg_cmp_gt _ _).mp c_251
                                have hm := it_t hm c_251
                                refine lv_iconst (v := 0) hx hb dL_pieces_265 (by decide) ?_
                                have e_198 := o2 hm
                                have hm := hmo_198
                                rw [e_198] at hm
                                have e_21 := o2 hm
                                have hm := hmo_21
                                rw [e_21] at hm
                                have hP := z_mid (pjP_small cI aa ad a5 a6 vm vr vh vl vq zk zm zb zs zr zu zt zf zg zbd zro zmc zmg zsp zjn (upd vxl21 (Int32.toNatClampNeg x6) (y73 / r101)) (upd vyl21 (Int32.toNatClampNeg x6) (y95 / r101))) hP
                                have hD := z_midD (pjP_small cI aa ad a5 a6 vm vr vh vl vq zk zm zb zs zr zu zt zf zg zbd zro zmc zmg zsp zjn (upd vxl21 (Int32.toNatClampNeg x6) (y73 / r101)) (upd vyl21 (Int32.toNatClampNeg x6) (y95 / r101))) hD
                                cases o2 hm
                                refine W.widen (k := 4) (n := 140) (Nat.le_of_ble_eq_true rfl) (Nat.le_of_ble_eq_true rfl) ?_
                                exact W.zret hx hb hr rfl (fun t ht hW => ⟨⟨_, (), rfl, rfl, by rw [ht]; exact hP, va_K.moved hW.alike hK, hD⟩, hS.F ht⟩) hS.2.2 dL_pieces_266
                              · have c_251 : ¬ ((Int32.toInt64 (vq (Int32.toNatClampNeg 2))) < x16) := fun h => c_251 ((lg_cmp_gt _ _).mpr h)
                                have hm := it_f hm c_251
                                refine lv_lload hx hb dL_pieces_254 (lv_at hl 0 rfl) ?_
                                refine lv_aload_n hx hb dL_pieces_256 rfl (lv_at hl 11 rfl) ?_
                                refine lv_iconst (v := 2) hx hb dL_pieces_257 (by decide) ?_
                                obtain ⟨c_258, hm⟩ := ck hm
                                refine va_iald hx hb hK hP 4 0 rfl rfl c_258 dL_pieces_258 ?_
                                refine lv_ineg hx hb dL_pieces_259 ?_
                                refine lv_i2l hx hb dL_pieces_260 rfl ?_
                                refine W.lcmp hx hb dL_pieces_261 ?_
                                refine lv_if_ge (tgt := 267) hx hb dL_pieces_262 (by decide) (fun c_262 => ?_) (fun c_262 => ?_)
                                · have c_262 : (Int32.toInt64 (-(vq (Int32.toNatClampNeg 2)))) ≤ x16 := (lg_cmp_ge _ _).mp c_262
                                  have hm := it_t hm c_262
                                  refine lv_lload hx hb dL_pieces_267 (lv_at hl 0 rfl) ?_
                                  refine lv_lload hx hb dL_pieces_269 (lv_at hl 4 rfl) ?_
                                  refine W.lcmp hx hb dL_pieces_271 ?_
                                  refine lv_if_le (tgt := 280) hx hb dL_pieces_272 (by decide) (fun c_272 => ?_) (fun c_272 => ?_)
                                  · have c_272 : x16 ≤ x7_1 := (lg_cmp_le _ _).mp c_272
                                    have hm := it_t hm c_272
                                    refine lv_lload hx hb dL_pieces_280 (lv_at hl 0 rfl) ?_
                                    refine lv_lneg hx hb dL_pieces_282 ?_
                                    refine lv_lload hx hb dL_pieces_283 (lv_at hl 4 rfl) ?_
                                    refine W.lcmp hx hb dL_pieces_285 ?_
                                    refine lv_if_le (tgt := 295) hx hb dL_pieces_286 (by decide) (fun c_286 => ?_) (fun c_286 => ?_)
                                    · have c_286 : (-x16) ≤ x7_1 := (lg_cmp_le _ _).mp c_286
                                      have hm := it_t hm c_286
                                      refine lv_lload hx hb dL_pieces_295 (lv_at hl 4 rfl) ?_
                                      refine lv_lstore (lv' := [(7, .long x7_1), (16, .long x16), (15, .int x15), (10, .int r35), (9, .int x9), (6, .int x6), (5, .ref a6), (4, .ref a5), (0, .ref (ad 0)), (1, .ref (aa 1)), (2, .ref (aa 2)), (3, .ref (aa 4))]) hx hb dL_pieces_297 hl (by decide) rfl (fun ls hl => ?_)
                                      obtain ⟨x15_1, e_x15_1⟩ : ∃ y : Int32, y = x15 + 1 := ⟨_, rfl⟩
                                      have hm := bnd_e hm e_x15_1
                                      refine lv_iinc (v := x15_1) (lv' := [(15, .int x15_1), (7, .long x7_1), (16, .long x16), (10, .int r35), (9, .int x9), (6, .int x6), (5, .ref a6), (4, .ref a5), (0, .ref (ad 0)), (1, .ref (aa 1)), (2, .ref (aa 2)), (3, .ref (aa 4))]) hx hb dL_pieces_299 hl (k := 2) rfl (by rw [e_x15_1]; rfl) (by decide) rfl (fun ls hl => ?_)
                                      refine lv_goto (tgt := 198) hx hb dL_pieces_302 (by decide) ?_
                                      exact ih_198 x15_1 x7_1 hm _ _ hP hD hS _ (lv_sub hl [0, 3, 4, 1, 5, 6, 7, 8, 9, 10, 11] rfl)
                                    · have c_286 : ¬ ((-x16) ≤ x7_1) := fun h => c_286 ((lg_cmp_le _ _).mpr h)
                                      have hm := it_f hm c_286
                                      refine lv_lload hx hb dL_pieces_289 (lv_at hl 0 rfl) ?_
                                      refine lv_lneg hx hb dL_pieces_291 ?_
                                      refine lv_goto (tgt := 297) hx hb dL_pieces_292 (by decide) ?_
                                      refine lv_topl (fun x7_2 e_x7_2 => ?_)
                                      have hm := bnd_e hm e_x7_2
                                      refine lv_lstore (lv' := [(7, .long x7_2), (16, .long x16), (15, .int x15), (10, .int r35), (9, .int x9), (6, .int x6), (5, .ref a6), (4, .ref a5), (0, .ref (ad 0)), (1, .ref (aa 1)), (2, .ref (aa 2)), (3, .ref (aa 4))]) hx hb dL_pieces_297 hl (by decide) rfl (fun ls hl => ?_)
                                      obtain ⟨x15_2, e_x15_2⟩ : ∃ y : Int32, y = x15 + 1 := ⟨_, rfl⟩
                                      have hm := bnd_e hm e_x15_2
                                      refine lv_iinc (v := x15_2) (lv' := [(15, .int x15_2), (7, .long x7_2), (16, .long x16), (10, .int r35), (9, .int x9), (6, .int x6), (5, .ref a6), (4, .ref a5), (0, .ref (ad 0)), (1, .ref (aa 1)), (2, .ref (aa 2)), (3, .ref (aa 4))]) hx hb dL_pieces_299 hl (k := 2) rfl (by rw [e_x15_2]; rfl) (by decide) rfl (fun ls hl => ?_)
                                      refine lv_goto (tgt := 198) hx hb dL_pieces_302 (by decide) ?_
                                      exact ih_198 x15_2 x7_2 hm _ _ hP hD hS _ (lv_sub hl [0, 3, 4, 1, 5, 6, 7, 8, 9, 10, 11] rfl)
                                  · have c_272 : ¬ (x16 ≤ x7_1) := fun h => c_272 ((lg_cmp_le _ _).mpr h)
                                    have hm := it_f hm c_272
                                    refine lv_lload hx hb dL_pieces_275 (lv_at hl 0 rfl) ?_
                                    refine lv_goto (tgt := 297) hx hb dL_pieces_277 (by decide) ?_
                                    refine lv_lstore (lv' := [(7, .long x16), (16, .long x16), (15, .int x15), (10, .int r35), (9, .int x9), (6, .int x6), (5, .ref a6), (4, .ref a5), (0, .ref (ad 0)), (1, .ref (aa 1)), (2, .ref (aa 2)), (3, .ref (aa 4))]) hx hb dL_pieces_297 hl (by decide) rfl (fun ls hl => ?_)
                                    obtain ⟨x15_3, e_x15_3⟩ : ∃ y : Int32, y = x15 + 1 := ⟨_, rfl⟩
                                    have hm := bnd_e hm e_x15_3
                                    refine lv_iinc (v := x15_3) (lv' := [(15, .int x15_3), (7, .long x16), (16, .long x16), (10, .int r35), (9, .int x9), (6, .int x6), (5, .ref a6), (4, .ref a5), (0, .ref (ad 0)), (1, .ref (aa 1)), (2, .ref (aa 2)), (3, .ref (aa 4))]) hx hb dL_pieces_299 hl (k := 2) rfl (by rw [e_x15_3]; rfl) (by decide) rfl (fun ls hl => ?_)
                                    refine lv_goto (tgt := 198) hx hb dL_pieces_302 (by decide) ?_
                                    exact ih_198 x15_3 x16 hm _ _ hP hD hS _ (lv_sub hl [0, 3, 4, 1, 5, 6, 7, 8, 9, 10, 11] rfl)
                                · have c_262 : ¬ ((Int32.toInt64 (-(vq (Int32.toNatClampNeg 2)))) ≤ x16) := fun h => c_262 ((lg_cmp_ge _ _).mpr h)
                                  have hm := it_f hm c_262
                                  refine lv_iconst (v := 0) hx hb dL_pieces_265 (by decide) ?_
                                  have e_198 := o2 hm
                                  have hm := hmo_198
                                  rw [e_198] at hm
                                  have e_21 := o2 hm
                                  have hm := hmo_21
                                  rw [e_21] at hm
                                  have hP := z_mid (pjP_small cI aa ad a5 a6 vm vr vh vl vq zk zm zb zs zr zu zt zf zg zbd zro zmc zmg zsp zjn (upd vxl21 (Int32.toNatClampNeg x6) (y73 / r101)) (upd vyl21 (Int32.toNatClampNeg x6) (y95 / r101))) hP
                                  have hD := z_midD (pjP_small cI aa ad a5 a6 vm vr vh vl vq zk zm zb zs zr zu zt zf zg zbd zro zmc zmg zsp zjn (upd vxl21 (Int32.toNatClampNeg x6) (y73 / r101)) (upd vyl21 (Int32.toNatClampNeg x6) (y95 / r101))) hD
                                  cases o2 hm
                                  refine W.widen (k := 4) (n := 140) (Nat.le_of_ble_eq_true rfl) (Nat.le_of_ble_eq_true rfl) ?_
                                  exact W.zret hx hb hr rfl (fun t ht hW => ⟨⟨_, (), rfl, rfl, by rw [ht]; exact hP, va_K.moved hW.alike hK, hD⟩, hS.F ht⟩) hS.2.2 dL_pieces_266
                      exact L_198 F x9 x7 hq_198 _ _ hP hD hS _ (lv_sub hl [0, 5, 6, 7, 8, 9, 10, 11, 12, 13, 14] rfl)
                    · have hm := it_f hm c_189
                      refine lv_iconst (v := 0) hx hb dL_pieces_192 (by decide) ?_
                      have e_21 := o2 hm
                      have hm := hmo_21
                      rw [e_21] at hm
                      have hP := z_mid (pjP_small cI aa ad a5 a6 vm vr vh vl vq zk zm zb zs zr zu zt zf zg zbd zro zmc zmg zsp zjn (upd vxl21 (Int32.toNatClampNeg x6) (y73 / r101)) (upd vyl21 (Int32.toNatClampNeg x6) (y95 / r101))) hP
                      have hD := z_midD (pjP_small cI aa ad a5 a6 vm vr vh vl vq zk zm zb zs zr zu zt zf zg zbd zro zmc zmg zsp zjn (upd vxl21 (Int32.toNatClampNeg x6) (y73 / r101)) (upd vyl21 (Int32.toNatClampNeg x6) (y95 / r101))) hD
                      cases o2 hm
                      refine W.widen (k := 4) (n := 140) (Nat.le_of_ble_eq_true rfl) (Nat.le_of_ble_eq_true rfl) ?_
                      exact W.zret hx hb hr rfl (fun t ht hW => ⟨⟨_, (), rfl, rfl, by rw [ht]; exact hP, va_K.moved hW.alike hK, hD⟩, hS.F ht⟩) hS.2.2 dL_pieces_193
          have hm := hq_95
          refine lv_icmp_ne (tgt := 86) hx hb dL_pieces_79 (by decide) (fun c_79 => ?_) (fun c_79 => ?_)
          · have hm := it_f hm c_79
            refine lv_aload_n hx hb dL_pieces_86 rfl (lv_at hl 9 rfl) ?_
            refine lv_iload hx hb dL_pieces_87 (lv_at hl 1 rfl) ?_
            obtain ⟨c_89, hm⟩ := ck hm
            refine va_iald hx hb hK hP 1 0 rfl rfl c_89 dL_pieces_89 ?_
            refine lv_aload_n hx hb dL_pieces_90 rfl (lv_at hl 9 rfl) ?_
            refine lv_iload hx hb dL_pieces_91 (lv_at hl 3 rfl) ?_
            obtain ⟨c_93, hm⟩ := ck hm
            refine va_iald hx hb hK hP 1 0 rfl rfl c_93 dL_pieces_93 ?_
            refine lv_isub hx hb dL_pieces_94 ?_
            exact J_95 ((vr (Int32.toNatClampNeg r48)) - (vr (Int32.toNatClampNeg x9))) (o2 hm)
          · have hm := it_t hm c_79
            refine lv_iconst (v := 1) hx hb dL_pieces_82 (by decide) ?_
            refine lv_goto (tgt := 95) hx hb dL_pieces_83 (by decide) ?_
            exact J_95 1 (o2 hm)
        have hm := hq_73
        refine lv_icmp_ne (tgt := 64) hx hb dL_pieces_57 (by decide) (fun c_57 => ?_) (fun c_57 => ?_)
        · have hm := it_f hm c_57
          refine lv_iload hx hb dL_pieces_64 (lv_at hl 0 rfl) ?_
          refine lv_iload hx hb dL_pieces_66 (lv_at hl 2 rfl) ?_
          refine lv_isub hx hb dL_pieces_68 ?_
          refine lv_aload_n hx hb dL_pieces_69 rfl (lv_at hl 10 rfl) ?_
          refine lv_iconst (v := 2) hx hb dL_pieces_70 (by decide) ?_
          obtain ⟨c_71, hm⟩ := ck hm
          refine va_iald hx hb hK hP 4 0 rfl rfl c_71 dL_pieces_71 ?_
          refine lv_isub hx hb dL_pieces_72 ?_
          exact J_73 ((r48 - x9) - (vq (Int32.toNatClampNeg 2))) (o2 hm)
        · have hm := it_t hm c_57
          refine lv_iconst (v := 0) hx hb dL_pieces_60 (by decide) ?_
          refine lv_goto (tgt := 73) hx hb dL_pieces_61 (by decide) ?_
          exact J_73 0 (o2 hm)
  exact L_21 F 0 0 0 (fun _ => 0) (fun _ => 0) hq_21 _ _ hP hD hS _ (lv_sub hl [0, 1, 2, 3, 4, 5, 6, 7, 8] rfl)
