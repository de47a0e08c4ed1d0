set_option maxHeartbeats 4000000 in
set_option maxRecDepth 100000 in
theorem c_L_append (l : Launch) (dC : Nat → ClassId) (dI : Nat → Nat → Nat) (cI : ClassId) (cJ : ClassId) (ad : Nat → Nat) (ao : Nat) (zk : zN) (zm : zN) (zb : zN) (zs : zN) (zr : zN) (zu : zN) (zt : zT) (zf : zN) (zg : zN) (zbd : Int32) (zro : Int32) (zmc : Int32) (zmg : Int32) (zsp : Int32) (zjn : Int32) (xo : Nat → Int64) (F : Nat) (p2 : Int32) (sz : Nat) (sa : Nat → Nat) (hl9 : l.stackTraces = false) (r : Int32) (u_zk : zN) (u_zm : zN) (u_zs : zN) (u_zr : zN) (u_zu : zN) (u_zt : zT) (u_xo : Nat → Int64) (hm : L_append F zk zm zb zs zr zu zt zbd xo p2 = some (r, u_zk, u_zm, u_zs, u_zr, u_zu, u_zt, u_xo)) : Met l yL_append wsL_append ({ frames := 8, cells := 2, slots := 12, locals := 134 }) (va_Pc [.ref (ad 0), .int p2, .ref ao] (zH (dC, dI) (wB cI cJ ad ao zk zm zb zs zr zu zt zf zg zbd zro zmc zmg zsp zjn xo) [(cI, .int), (cJ, .long)] sz sa)) (zQi (dC, dI) (wB cI cJ ad ao u_zk u_zm zb u_zs u_zr u_zu u_zt zf zg zbd zro zmc zmg zsp zjn u_xo) [(cI, .int), (cJ, .long)] (va_A (wB cI cJ ad ao zk zm zb zs zr zu zt zf zg zbd zro zmc zmg zsp zjn xo) sz) r) 2 12 (va_A (wB cI cJ ad ao zk zm zb zs zr zu zt zf zg zbd zro zmc zmg zsp zjn xo) sz) := by
  refine va_MetW (cc := cL_append) (maxL := 4) (ret := (some .int)) (by decide) rfl ?_
  intro p e s m args below meth c s₁ B hml hv
  obtain ⟨rfl, ⟨⟨hsz, hP, hK, hD0⟩, hV⟩, hNc⟩ := hv
  have htab : c.exceptionTable.toList = tableOf [(0, 9, 12, 13), (0, 9, 15, 15)] := vx_table (x := yL_append) B (atoms_spec (ws := wsL_append) B.pre (.codeWith yL_append cL_append 4 (some .int) [(0, 9, 12, 13), (0, 9, 15, 15)]) List.mem_cons_self)
  have hx := B.exec
  have hb := B.bytes
  have hr := B.returns
  have hts := atoms_spec (ws := wsL_append) B.pre
  have hown : s.vm.findClass RL = some m.cls := findClass_of_methodNamed B.named
  have hlocks := B.notSynchronized
  subst hsz
  have hD := hD0.self (sz := s.heap.size)
  generalize hAe : va_A (wB cI cJ ad ao zk zm zb zs zr zu zt zf zg zbd zro zmc zmg zsp zjn xo) s.heap.size = A at hD hV ⊢
  have hA : ∀ q : Nat, s.heap.size ≤ q → A q := fun q h => by rw [← hAe]; exact Or.inr h
  have hS : va_S A s.heap s.heap [] := va_S.rf
  generalize eL : ([] : List Loc) = locs at hS ⊢
  obtain ⟨H, eH⟩ : ∃ z : Heap, z = s.heap := ⟨_, rfl⟩
  have hP : va_P (dC, dI) vwCl (wB cI cJ ad ao zk zm zb zs zr zu zt zf zg zbd zro zmc zmg zsp zjn xo) H := by rw [eH]; exact hP
  have hS : va_S A s.heap H locs := by rw [eH]; exact hS
  refine z_heap eH ?_
  have hl := lv_entry ([.ref (ad 0), .int p2, .ref ao]) (n := 4) (Nat.le_of_ble_eq_true rfl)
  rw [lg_entry_eq]
  generalize (lg_sl ([.ref (ad 0), .int p2, .ref ao]) ++ List.replicate (4 - (lg_sl ([.ref (ad 0), .int p2, .ref ao])).length) Slot.unset).toArray = ls at hl ⊢
  have hl : lv_has ls 4 [(0, .ref (ad 0)), (1, .int p2), (2, .ref ao)] := hl
  have zw0 := hts (.classLink RL 13 "java/lang/IllegalArgumentException") (List.mem_cons_of_mem _ (List.mem_append_left _ (List.mem_append_left _ (List.mem_append_left _ (List.mem_append_left _ (List.mem_append_left _ (List.mem_append_left _ (List.mem_of_getElem? (i := 0) rfl))))))))
  have zw1 := hts (.classLink RL 15 "java/lang/IllegalStateException") (List.mem_cons_of_mem _ (List.mem_append_left _ (List.mem_append_left _ (List.mem_append_left _ (List.mem_append_left _ (List.mem_append_left _ (List.mem_append_left _ (List.mem_of_getElem? (i := 1) rfl))))))))
  refine lv_aload_n hx hb dL_append_0 rfl (lv_at hl 2 rfl) ?_
  refine lv_iconst (v := 0) hx hb dL_append_1 (by decide) ?_
  refine lv_aload_n hx hb dL_append_2 rfl (lv_at hl 0 rfl) ?_
  refine lv_iload_n hx hb dL_append_3 rfl (lv_at hl 1 rfl) ?_
  obtain ⟨z_4, h_4, hm⟩ := ob hm
  refine z_xVi (U := zN × zN × zN × zN × zN × zT) (w1 := fun u_ => (wL cI ad u_.1 u_.2.1 zb u_.2.2.1 u_.2.2.2.1 u_.2.2.2.2.1 u_.2.2.2.2.2 zf zg zbd zro zmc zmg zsp zjn)) (ws' := fun u_ => (wB cI cJ ad ao u_.1 u_.2.1 zb u_.2.2.1 u_.2.2.2.1 u_.2.2.2.2.1 u_.2.2.2.2.2 zf zg zbd zro zmc zmg zsp zjn xo)) (As := [.int p2]) (rest := [.int 0, .ref ao]) (wc := (wL cI ad zk zm zb zs zr zu zt zf zg zbd zro zmc zmg zsp zjn)) (ws := (wB cI cJ ad ao zk zm zb zs zr zu zt zf zg zbd zro zmc zmg zsp zjn xo)) (ci := 2) (q := (RX2, TX2, 15)) ⟨hx, hb, hml, hown, hts⟩ (c_X2_append l dC dI cI ad zk zm zb zs zr zu zt zf zg zbd zro zmc zmg zsp zjn F p2 H.size sa hl9 z_4 h_4) (cwV 1 hts gL_append_X2_append rfl rfl rfl kv_X2_append ⟨(Nat.le_of_ble_eq_true rfl), (Nat.le_of_ble_eq_true rfl)⟩) hV (hK.sub (tys' := [(cI, .int)]) [0] rfl) hP hD hS hA (pjB_L cI cJ ad ao zk zm zb zs zr zu zt zf zg zbd zro zmc zmg zsp zjn xo zk zm zb zs zr zu zt zf zg zbd zro zmc zmg zsp zjn) (fun u_ => (pjB_L cI cJ ad ao zk zm zb zs zr zu zt zf zg zbd zro zmc zmg zsp zjn xo u_.1 u_.2.1 zb u_.2.2.1 u_.2.2.2.1 u_.2.2.2.2.1 u_.2.2.2.2.2 zf zg zbd zro zmc zmg zsp zjn)) (fun u_ => ((paL cI ad u_.1 u_.2.1 zb u_.2.2.1 u_.2.2.2.1 u_.2.2.2.2.1 u_.2.2.2.2.2 zf zg zbd zro zmc zmg zsp zjn).trans (paL cI ad zk zm zb zs zr zu zt zf zg zbd zro zmc zmg zsp zjn).symm)) rfl rfl rfl rfl hl.1 rfl (Nat.le_of_ble_eq_true rfl) dL_append_4 ⟨(Nat.le_of_ble_eq_true rfl), (Nat.le_of_ble_eq_true rfl)⟩ (fun k ce q9 H locs ez hP hS hce hcv hcl => ?_) (fun r4 u_4 H locs hw hP hD hS => ?_)
  · rw [ez] at hm
    by_cases hk1 : k = 1
    · have hm := it_t hm hk1
      subst hk1
      refine vx_catch hown [] { startPc := 0, endPc := 9, handlerPc := 12, catchType := 13 } [{ startPc := 0, endPc := 9, handlerPc := 15, catchType := 15 }] (htab.trans rfl) (fun z hz => absurd hz List.not_mem_nil) (by decide) (by decide) zw0 (zV_ng hV (.castable (xN 1) (xN 1)) (by decide +kernel)) hce hcv hcl ?_
      refine lv_astore_n (lv' := [(3, .ref q9), (0, .ref (ad 0)), (1, .int p2), (2, .ref ao)]) hx hb dL_append_12 rfl hl (by decide) rfl (fun ls hl => ?_)
      refine lv_iconst (v := 1) hx hb dL_append_13 (by decide) ?_
      cases o2 hm
      refine W.widen (k := 2) (n := 12) (Nat.le_of_ble_eq_true rfl) (Nat.le_of_ble_eq_true rfl) ?_
      exact W.iret hx hb hr (fun t ht hW => ⟨⟨_, (), rfl, rfl, by rw [ht]; exact hP, va_K.moved hW.alike hK, hD⟩, hS.F ht⟩) hS.2.2 dL_append_14
    have hm := it_f hm hk1
    by_cases hk2 : k = 2
    · have hm := it_t hm hk2
      subst hk2
      refine vx_catch hown [{ startPc := 0, endPc := 9, handlerPc := 12, catchType := 13 }] { startPc := 0, endPc := 9, handlerPc := 15, catchType := 15 } [] (htab.trans rfl) (fun z hz => by rw [List.mem_singleton.mp hz]; exact Or.inr ⟨by decide, _, zw0, hNc⟩) (by decide) (by decide) zw1 (zV_ng hV (.castable (xN 2) (xN 2)) (by decide +kernel)) hce hcv hcl ?_
      refine lv_astore_n (lv' := [(3, .ref q9), (0, .ref (ad 0)), (1, .int p2), (2, .ref ao)]) hx hb dL_append_15 rfl hl (by decide) rfl (fun ls hl => ?_)
      refine lv_iconst (v := 2) hx hb dL_append_16 (by decide) ?_
      cases o2 hm
      refine W.widen (k := 2) (n := 12) (Nat.le_of_ble_eq_true rfl) (Nat.le_of_ble_eq_true rfl) ?_
      exact W.iret hx hb hr (fun t ht hW => ⟨⟨_, (), rfl, rfl, by rw [ht]; exact hP, va_K.moved hW.alike hK, hD⟩, hS.F ht⟩) hS.2.2 dL_append_17
    have hm := it_f hm hk2
    cases hm
  · obtain ⟨zk4, zm4, zs4, zr4, zu4, zt4⟩ := u_4
    rw [hw] at hm
    have hP : va_P (dC, dI) vwCl (wB cI cJ ad ao zk4 zm4 zb zs4 zr4 zu4 zt4 zf zg zbd zro zmc zmg zsp zjn xo) H := hP
    have hD : va_D A (wB cI cJ ad ao zk4 zm4 zb zs4 zr4 zu4 zt4 zf zg zbd zro zmc zmg zsp zjn xo) := hD
    refine lv_i2l hx hb dL_append_7 rfl ?_
    obtain ⟨c_8, hm⟩ := ck hm
    refine va_last hx hb hK hP hD hS 18 1 rfl rfl c_8 dL_append_8 (fun H locs hP hD hS => ?_)
    have hP : va_P (dC, dI) vwCl (wB cI cJ ad ao zk4 zm4 zb zs4 zr4 zu4 zt4 zf zg zbd zro zmc zmg zsp zjn (vp_updL xo (Int32.toNatClampNeg 0) (Int32.toInt64 r4))) H := hP
    have hD : va_D A (wB cI cJ ad ao zk4 zm4 zb zs4 zr4 zu4 zt4 zf zg zbd zro zmc zmg zsp zjn (vp_updL xo (Int32.toNatClampNeg 0) (Int32.toInt64 r4))) := hD
    refine lv_goto (tgt := 18) hx hb dL_append_9 (by decide) ?_
    refine lv_iconst (v := 0) hx hb dL_append_18 (by decide) ?_
    cases o2 hm
    refine W.widen (k := 2) (n := 12) (Nat.le_of_ble_eq_true rfl) (Nat.le_of_ble_eq_true rfl) ?_
    exact W.iret hx hb hr (fun t ht hW => ⟨⟨_, (), rfl, rfl, by rw [ht]; exact hP, va_K.moved hW.alike hK, hD⟩, hS.F ht⟩) hS.2.2 dL_append_19
set_option maxHeartbeats 4000000 in
set_option maxRecDepth 100000 in
theorem c_L_appendMany (l : Launch) (dC : Nat → ClassId) (dI : Nat → Nat → Nat) (cI : ClassId) (cJ : ClassId) (ad : Nat → Nat) (ao : Nat) (zk : zN) (zm : zN) (zb : zN) (zs : zN) (zr : zN) (zu : zN) (zt : zT) (zf : zN) (zg : zN) (zbd : Int32) (zro : Int32) (zmc : Int32) (zmg : Int32) (zsp : Int32) (zjn : Int32) (xo : Nat → Int64) (F : Nat) (p2 : Int32) (p3 : Int32) (p4 : Int32) (sz : Nat) (sa : Nat → Nat) (hl9 : l.stackTraces = false) (r : Int32) (u_zk : zN) (u_zm : zN) (u_zs : zN) (u_zr : zN) (u_zu : zN) (u_zt : zT) (u_xo : Nat → Int64) (hm : L_appendMany F zk zm zb zs zr zu zt zbd xo p2 p3 p4 = some (r, u_zk, u_zm, u_zs, u_zr, u_zu, u_zt, u_xo)) : Met l yL_appendMany wsL_appendMany ({ frames := 8, cells := 3, slots := 18, locals := 139 }) (va_Pc [.ref (ad 0), .int p2, .int p3, .int p4, .ref ao] (zH (dC, dI) (wB cI cJ ad ao zk zm zb zs zr zu zt zf zg zbd zro zmc zmg zsp zjn xo) [(cI, .int), (cJ, .long)] sz sa)) (zQi (dC, dI) (wB cI cJ ad ao u_zk u_zm zb u_zs u_zr u_zu u_zt zf zg zbd zro zmc zmg zsp zjn u_xo) [(cI, .int), (cJ, .long)] (va_A (wB cI cJ ad ao zk zm zb zs zr zu zt zf zg zbd zro zmc zmg zsp zjn xo) sz) r) 3 18 (va_A (wB cI cJ ad ao zk zm zb zs zr zu zt zf zg zbd zro zmc zmg zsp zjn xo) sz) := by
  refine va_MetW (cc := cL_appendMany) (maxL := 6) (ret := (some .int)) (by decide) rfl ?_
  intro p e s m args below meth c s₁ B hml hv
  obtain ⟨rfl, ⟨⟨hsz, hP, hK, hD0⟩, hV⟩, hNc⟩ := hv
  have htab : c.exceptionTable.toList = tableOf [(0, 12, 15, 13), (0, 12, 19, 15)] := vx_table (x := yL_appendMany) B (atoms_spec (ws := wsL_appendMany) B.pre (.codeWith yL_appendMany cL_appendMany 6 (some .int) [(0, 12, 15, 13), (0, 12, 19, 15)]) List.mem_cons_self)
  have hx := B.exec
  have hb := B.bytes
  have hr := B.returns
  have hts := atoms_spec (ws := wsL_appendMany) B.pre
  have hown : s.vm.findClass RL = some m.cls := findClass_of_methodNamed B.named
  have hlocks := B.notSynchronized
  subst hsz
  have hD := hD0.self (sz := s.heap.size)
  generalize hAe : va_A (wB cI cJ ad ao zk zm zb zs zr zu zt zf zg zbd zro zmc zmg zsp zjn xo) s.heap.size = A at hD hV ⊢
  have hA : ∀ q : Nat, s.heap.size ≤ q → A q := fun q h => by rw [← hAe]; exact Or.inr h
  have hS : va_S A s.heap s.heap [] := va_S.rf
  generalize eL : ([] : List Loc) = locs at hS ⊢
  obtain ⟨H, eH⟩ : ∃ z : Heap, z = s.heap := ⟨_, rfl⟩
  have hP : va_P (dC, dI) vwCl (wB cI cJ ad ao zk zm zb zs zr zu zt zf zg zbd zro zmc zmg zsp zjn xo) H := by rw [eH]; exact hP
  have hS : va_S A s.heap H locs := by rw [eH]; exact hS
  refine z_heap eH ?_
  have hl := lv_entry ([.ref (ad 0), .int p2, .int p3, .int p4, .ref ao]) (n := 6) (Nat.le_of_ble_eq_true rfl)
  rw [lg_entry_eq]
  generalize (lg_sl ([.ref (ad 0), .int p2, .int p3, .int p4, .ref ao]) ++ List.replicate (6 - (lg_sl ([.ref (ad 0), .int p2, .int p3, .int p4, .ref ao])).length) Slot.unset).toArray = ls at hl ⊢
  have hl : lv_has ls 6 [(0, .ref (ad 0)), (1, .int p2), (2, .int p3), (3, .int p4), (4, .ref ao)] := hl
  have zw0 := hts (.classLink RL 13 "java/lang/IllegalArgumentException") (List.mem_cons_of_mem _ (List.mem_append_left _ (List.mem_append_left _ (List.mem_append_left _ (List.mem_append_left _ (List.mem_append_left _ (List.mem_append_left _ (List.mem_of_getElem? (i := 0) rfl))))))))
  have zw1 := hts (.classLink RL 15 "java/lang/IllegalStateException") (List.mem_cons_of_mem _ (List.mem_append_left _ (List.mem_append_left _ (List.mem_append_left _ (List.mem_append_left _ (List.mem_append_left _ (List.mem_append_left _ (List.mem_of_getElem? (i := 1) rfl))))))))
  refine lv_aload hx hb dL_appendMany_0 (lv_at hl 4 rfl) ?_
  refine lv_iconst (v := 0) hx hb dL_appendMany_2 (by decide) ?_
  refine lv_aload_n hx hb dL_appendMany_3 rfl (lv_at hl 0 rfl) ?_
  refine lv_iload_n hx hb dL_appendMany_4 rfl (lv_at hl 1 rfl) ?_
  refine lv_iload_n hx hb dL_appendMany_5 rfl (lv_at hl 2 rfl) ?_
  refine lv_iload_n hx hb dL_appendMany_6 rfl (lv_at hl 3 rfl) ?_
  obtain ⟨z_7, h_7, hm⟩ := ob hm
  refine z_xVi (U := zN × zN × zN × zN × zN × zT) (w1 := fun u_ => (wL cI ad u_.1 u_.2.1 zb u_.2.2.1 u_.2.2.2.1 u_.2.2.2.2.1 u_.2.2.2.2.2 zf zg zbd zro zmc zmg zsp zjn)) (ws' := fun u_ => (wB cI cJ ad ao u_.1 u_.2.1 zb u_.2.2.1 u_.2.2.2.1 u_.2.2.2.2.1 u_.2.2.2.2.2 zf zg zbd zro zmc zmg zsp zjn xo)) (As := [.int p2, .int p3, .int p4]) (rest := [.int 0, .ref ao]) (wc := (wL cI ad zk zm zb zs zr zu zt zf zg zbd zro zmc zmg zsp zjn)) (ws := (wB cI cJ ad ao zk zm zb zs zr zu zt zf zg zbd zro zmc zmg zsp zjn xo)) (ci := 2) (q := (RX2, TX2, 15)) ⟨hx, hb, hml, hown, hts⟩ (c_X2_appendMany l dC dI cI ad zk zm zb zs zr zu zt zf zg zbd zro zmc zmg zsp zjn F p2 p3 p4 H.size sa hl9 z_7 h_7) (cwV 3 hts gL_appendMany_X2_appendMany rfl rfl rfl kv_X2_appendMany ⟨(Nat.le_of_ble_eq_true rfl), (Nat.le_of_ble_eq_true rfl)⟩) hV (hK.sub (tys' := [(cI, .int)]) [0] rfl) hP hD hS hA (pjB_L cI cJ ad ao zk zm zb zs zr zu zt zf zg zbd zro zmc zmg zsp zjn xo zk zm zb zs zr zu zt zf zg zbd zro zmc zmg zsp zjn) (fun u_ => (pjB_L cI cJ ad ao zk zm zb zs zr zu zt zf zg zbd zro zmc zmg zsp zjn xo u_.1 u_.2.1 zb u_.2.2.1 u_.2.2.2.1 u_.2.2.2.2.1 u_.2.2.2.2.2 zf zg zbd zro zmc zmg zsp zjn)) (fun u_ => ((paL cI ad u_.1 u_.2.1 zb u_.2.2.1 u_.2.2.2.1 u_.2.2.2.2.1 u_.2.2.2.2.2 zf zg zbd zro zmc zmg zsp zjn).trans (paL cI ad zk zm zb zs zr zu zt zf zg zbd zro zmc zmg zsp zjn).symm)) rfl rfl rfl rfl hl.1 rfl (Nat.le_of_ble_eq_true rfl) dL_appendMany_7 ⟨(Nat.le_of_ble_eq_true rfl), (Nat.le_of_ble_eq_true rfl)⟩ (fun k ce q9 H locs ez hP hS hce hcv hcl => ?_) (fun r7 u_7 H locs hw hP hD hS => ?_)
  · rw [ez] at hm
    by_cases hk1 : k = 1
    · have hm := it_t hm hk1
      subst hk1
      refine vx_catch hown [] { startPc := 0, endPc := 12, handlerPc := 15, catchType := 13 } [{ startPc := 0, endPc := 12, handlerPc := 19, catchType := 15 }] (htab.trans rfl) (fun z hz => absurd hz List.not_mem_nil) (by decide) (by decide) zw0 (zV_ng hV (.castable (xN 1) (xN 1)) (by decide +kernel)) hce hcv hcl ?_
      refine lv_astore (lv' := [(5, .ref q9), (0, .ref (ad 0)), (1, .int p2), (2, .int p3), (3, .int p4), (4, .ref ao)]) hx hb dL_appendMany_15 hl (by decide) rfl (fun ls hl => ?_)
      refine lv_iconst (v := 1) hx hb dL_appendMany_17 (by decide) ?_
      cases o2 hm
      refine W.widen (k := 3) (n := 18) (Nat.le_of_ble_eq_true rfl) (Nat.le_of_ble_eq_true rfl) ?_
      exact W.iret hx hb hr (fun t ht hW => ⟨⟨_, (), rfl, rfl, by rw [ht]; exact hP, va_K.moved hW.alike hK, hD⟩, hS.F ht⟩) hS.2.2 dL_appendMany_18
    have hm := it_f hm hk1
    by_cases hk2 : k = 2
    · have hm := it_t hm hk2
      subst hk2
      refine vx_catch hown [{ startPc := 0, endPc := 12, handlerPc := 15, catchType := 13 }] { startPc := 0, endPc := 12, handlerPc := 19, catchType := 15 } [] (htab.trans rfl) (fun z hz => by rw [List.mem_singleton.mp hz]; exact Or.inr ⟨by decide, _, zw0, hNc⟩) (by decide) (by decide) zw1 (zV_ng hV (.castable (xN 2) (xN 2)) (by decide +kernel)) hce hcv hcl ?_
      refine lv_astore (lv' := [(5, .ref q9), (0, .ref (ad 0)), (1, .int p2), (2, .int p3), (3, .int p4), (4, .ref ao)]) hx hb dL_appendMany_19 hl (by decide) rfl (fun ls hl => ?_)
      refine lv_iconst (v := 2) hx hb dL_appendMany_21 (by decide) ?_
      cases o2 hm
      refine W.widen (k := 3) (n := 18) (Nat.le_of_ble_eq_true rfl) (Nat.le_of_ble_eq_true rfl) ?_
      exact W.iret hx hb hr (fun t ht hW => ⟨⟨_, (), rfl, rfl, by rw [ht]; exact hP, va_K.moved hW.alike hK, hD⟩, hS.F ht⟩) hS.2.2 dL_appendMany_22
    have hm := it_f hm hk2
    cases hm
  · obtain ⟨zk7, zm7, zs7, zr7, zu7, zt7⟩ := u_7
    rw [hw] at hm
    have hP : va_P (dC, dI) vwCl (wB cI cJ ad ao zk7 zm7 zb zs7 zr7 zu7 zt7 zf zg zbd zro zmc zmg zsp zjn xo) H := hP
    have hD : va_D A (wB cI cJ ad ao zk7 zm7 zb zs7 zr7 zu7 zt7 zf zg zbd zro zmc zmg zsp zjn xo) := hD
    refine lv_i2l hx hb dL_appendMany_10 rfl ?_
    obtain ⟨c_11, hm⟩ := ck hm
    refine va_last hx hb hK hP hD hS 18 1 rfl rfl c_11 dL_appendMany_11 (fun H locs hP hD hS => ?_)
    have hP : va_P (dC, dI) vwCl (wB cI cJ ad ao zk7 zm7 zb zs7 zr7 zu7 zt7 zf zg zbd zro zmc zmg zsp zjn (vp_updL xo (Int32.toNatClampNeg 0) (Int32.toInt64 r7))) H := hP
    have hD : va_D A (wB cI cJ ad ao zk7 zm7 zb zs7 zr7 zu7 zt7 zf zg zbd zro zmc zmg zsp zjn (vp_updL xo (Int32.toNatClampNeg 0) (Int32.toInt64 r7))) := hD
    refine lv_goto (tgt := 23) hx hb dL_appendMany_12 (by decide) ?_
    refine lv_iconst (v := 0) hx hb dL_appendMany_23 (by decide) ?_
    cases o2 hm
    refine W.widen (k := 3) (n := 18) (Nat.le_of_ble_eq_true rfl) (Nat.le_of_ble_eq_true rfl) ?_
    exact W.iret hx hb hr (fun t ht hW => ⟨⟨_, (), rfl, rfl, by rw [ht]; exact hP, va_K.moved hW.alike hK, hD⟩, hS.F ht⟩) hS.2.2 dL_appendMany_24
set_option maxHeartbeats 4000000 in
set_option maxRecDepth 100000 in
theorem c_L_insert (l : Launch) (dC : Nat → ClassId) (dI : Nat → Nat → Nat) (cI : ClassId) (cJ : ClassId) (ad : Nat → Nat) (ao : Nat) (zk : zN) (zm : zN) (zb : zN) (zs : zN) (zr : zN) (zu : zN) (zt : zT) (zf : zN) (zg : zN) (zbd : Int32) (zro : Int32) (zmc : Int32) (zmg : Int32) (zsp : Int32) (zjn : Int32) (xo : Nat → Int64) (F : Nat) (p2 : Int32) (sz : Nat) (sa : Nat → Nat) (hl9 : l.stackTraces = false) (r : Int32) (u_zk : zN) (u_zm : zN) (u_zb : zN) (u_zs : zN) (u_zr : zN) (u_zu : zN) (u_zt : zT) (u_zf : zN) (u_zg : zN) (u_zmc : Int32) (u_zmg : Int32) (u_zsp : Int32) (u_zjn : Int32) (u_xo : Nat → Int64) (hm : L_insert F zk zm zb zs zr zu zt zf zg zbd zro zmc zmg zsp zjn xo p2 = some (r, u_zk, u_zm, u_zb, u_zs, u_zr, u_zu, u_zt, u_zf, u_zg, u_zmc, u_zmg, u_zsp, u_zjn, u_xo)) : Met l yL_insert wsL_insert ({ frames := 8, cells := 2, slots := 12, locals := 159 }) (va_Pc [.ref (ad 0), .int p2, .ref ao] (zH (dC, dI) (wB cI cJ ad ao zk zm zb zs zr zu zt zf zg zbd zro zmc zmg zsp zjn xo) [(cI, .int), (cJ, .long)] sz sa)) (zQi (dC, dI) (wB cI cJ ad ao u_zk u_zm u_zb u_zs u_zr u_zu u_zt u_zf u_zg zbd zro u_zmc u_zmg u_zsp u_zjn u_xo) [(cI, .int), (cJ, .long)] (va_A (wB cI cJ ad ao zk zm zb zs zr zu zt zf zg zbd zro zmc zmg zsp zjn xo) sz) r) 2 12 (va_A (wB cI cJ ad ao zk zm zb zs zr zu zt zf zg zbd zro zmc zmg zsp zjn xo) sz) := by
  refine va_MetW (cc := cL_insert) (maxL := 4) (ret := (some .int)) (by decide) rfl ?_
  intro p e s m args below meth c s₁ B hml hv
  obtain ⟨rfl, ⟨⟨hsz, hP, hK, hD0⟩, hV⟩, hNc⟩ := hv
  have htab : c.exceptionTable.toList = tableOf [(0, 9, 12, 13), (0, 9, 15, 15)] := vx_table (x := yL_insert) B (atoms_spec (ws := wsL_insert) B.pre (.codeWith yL_insert cL_insert 4 (some .int) [(0, 9, 12, 13), (0, 9, 15, 15)]) List.mem_cons_self)
  have hx := B.exec
  have hb := B.bytes
  have hr := B.returns
  have hts := atoms_spec (ws := wsL_insert) B.pre
  have hown : s.vm.findClass RL = some m.cls := findClass_of_methodNamed B.named
  have hlocks := B.notSynchronized
  subst hsz
  have hD := hD0.self (sz := s.heap.size)
  generalize hAe : va_A (wB cI cJ ad ao zk zm zb zs zr zu zt zf zg zbd zro zmc zmg zsp zjn xo) s.heap.size = A at hD hV ⊢
  have hA : ∀ q : Nat, s.heap.size ≤ q → A q := fun q h => by rw [← hAe]; exact Or.inr h
  have hS : va_S A s.heap s.heap [] := va_S.rf
  generalize eL : ([] : List Loc) = locs at hS ⊢
  obtain ⟨H, eH⟩ : ∃ z : Heap, z = s.heap := ⟨_, rfl⟩
  have hP : va_P (dC, dI) vwCl (wB cI cJ ad ao zk zm zb zs zr zu zt zf zg zbd zro zmc zmg zsp zjn xo) H := by rw [eH]; exact hP
  have hS : va_S A s.heap H locs := by rw [eH]; exact hS
  refine z_heap eH ?_
  have hl := lv_entry ([.ref (ad 0), .int p2, .ref ao]) (n := 4) (Nat.le_of_ble_eq_true rfl)
  rw [lg_entry_eq]
  generalize (lg_sl ([.ref (ad 0), .int p2, .ref ao]) ++ List.replicate (4 - (lg_sl ([.ref (ad 0), .int p2, .ref ao])).length) Slot.unset).toArray = ls at hl ⊢
  have hl : lv_has ls 4 [(0, .ref (ad 0)), (1, .int p2), (2, .ref ao)] := hl
  have zw0 := hts (.classLink RL 13 "java/lang/IllegalArgumentException") (List.mem_cons_of_mem _ (List.mem_append_left _ (List.mem_append_left _ (List.mem_append_left _ (List.mem_append_left _ (List.mem_append_left _ (List.mem_append_left _ (List.mem_of_getElem? (i := 0) rfl))))))))
  have zw1 := hts (.classLink RL 15 "java/lang/IllegalStateException") (List.mem_cons_of_mem _ (List.mem_append_left _ (List.mem_append_left _ (List.mem_append_left _ (List.mem_append_left _ (List.mem_append_left _ (List.mem_append_left _ (List.mem_of_getElem? (i := 1) rfl))))))))
  refine lv_aload_n hx hb dL_insert_0 rfl (lv_at hl 2 rfl) ?_
  refine lv_iconst (v := 0) hx hb dL_insert_1 (by decide) ?_
  refine lv_aload_n hx hb dL_insert_2 rfl (lv_at hl 0 rfl) ?_
  refine lv_iload_n hx hb dL_insert_3 rfl (lv_at hl 1 rfl) ?_
  obtain ⟨z_4, h_4, hm⟩ := ob hm
  refine z_xVi (U := zN × zN × zN × zN × zN × zN × zT × zN × zN × Int32 × Int32 × Int32 × Int32) (w1 := fun u_ => (wL cI ad u_.1 u_.2.1 u_.2.2.1 u_.2.2.2.1 u_.2.2.2.2.1 u_.2.2.2.2.2.1 u_.2.2.2.2.2.2.1 u_.2.2.2.2.2.2.2.1 u_.2.2.2.2.2.2.2.2.1 zbd zro u_.2.2.2.2.2.2.2.2.2.1 u_.2.2.2.2.2.2.2.2.2.2.1 u_.2.2.2.2.2.2.2.2.2.2.2.1 u_.2.2.2.2.2.2.2.2.2.2.2.2)) (ws' := fun u_ => (wB cI cJ ad ao u_.1 u_.2.1 u_.2.2.1 u_.2.2.2.1 u_.2.2.2.2.1 u_.2.2.2.2.2.1 u_.2.2.2.2.2.2.1 u_.2.2.2.2.2.2.2.1 u_.2.2.2.2.2.2.2.2.1 zbd zro u_.2.2.2.2.2.2.2.2.2.1 u_.2.2.2.2.2.2.2.2.2.2.1 u_.2.2.2.2.2.2.2.2.2.2.2.1 u_.2.2.2.2.2.2.2.2.2.2.2.2 xo)) (As := [.int p2]) (rest := [.int 0, .ref ao]) (wc := (wL cI ad zk zm zb zs zr zu zt zf zg zbd zro zmc zmg zsp zjn)) (ws := (wB cI cJ ad ao zk zm zb zs zr zu zt zf zg zbd zro zmc zmg zsp zjn xo)) (ci := 2) (q := (RX2, TX2, 15)) ⟨hx, hb, hml, hown, hts⟩ (c_X2_insert l dC dI cI ad zk zm zb zs zr zu zt zf zg zbd zro zmc zmg zsp zjn F p2 H.size sa hl9 z_4 h_4) (cwV 1 hts gL_insert_X2_insert rfl rfl rfl kv_X2_insert ⟨(Nat.le_of_ble_eq_true rfl), (Nat.le_of_ble_eq_true rfl)⟩) hV (hK.sub (tys' := [(cI, .int)]) [0] rfl) hP hD hS hA (pjB_L cI cJ ad ao zk zm zb zs zr zu zt zf zg zbd zro zmc zmg zsp zjn xo zk zm zb zs zr zu zt zf zg zbd zro zmc zmg zsp zjn) (fun u_ => (pjB_L cI cJ ad ao zk zm zb zs zr zu zt zf zg zbd zro zmc zmg zsp zjn xo u_.1 u_.2.1 u_.2.2.1 u_.2.2.2.1 u_.2.2.2.2.1 u_.2.2.2.2.2.1 u_.2.2.2.2.2.2.1 u_.2.2.2.2.2.2.2.1 u_.2.2.2.2.2.2.2.2.1 zbd zro u_.2.2.2.2.2.2.2.2.2.1 u_.2.2.2.2.2.2.2.2.2.2.1 u_.2.2.2.2.2.2.2.2.2.2.2.1 u_.2.2.2.2.2.2.2.2.2.2.2.2)) (fun u_ => ((paL cI ad u_.1 u_.2.1 u_.2.2.1 u_.2.2.2.1 u_.2.2.2.2.1 u_.2.2.2.2.2.1 u_.2.2.2.2.2.2.1 u_.2.2.2.2.2.2.2.1 u_.2.2.2.2.2.2.2.2.1 zbd zro u_.2.2.2.2.2.2.2.2.2.1 u_.2.2.2.2.2.2.2.2.2.2.1 u_.2.2.2.2.2.2.2.2.2.2.2.1 u_.2.2.2.2.2.2.2.2.2.2.2.2).trans (paL cI ad zk zm zb zs zr zu zt zf zg zbd zro zmc zmg zsp zjn).symm)) rfl rfl rfl rfl hl.1 rfl (Nat.le_of_ble_eq_true rfl) dL_insert_4 ⟨(Nat.le_of_ble_eq_true rfl), (Nat.le_of_ble_eq_true rfl)⟩ (fun k ce q9 H locs ez hP hS hce hcv hcl => ?_) (fun r4 u_4 H locs hw hP hD hS => ?_)
  · rw [ez] at hm
    by_cases hk1 : k = 1
    · have hm := it_t hm hk1
      subst hk1
      refine vx_catch hown [] { startPc := 0, endPc := 9, handlerPc := 12, catchType := 13 } [{ startPc := 0, endPc := 9, handlerPc := 15, catchType := 15 }] (htab.trans rfl) (fun z hz => absurd hz List.not_mem_nil) (by decide) (by decide) zw0 (zV_ng hV (.castable (xN 1) (xN 1)) (by decide +kernel)) hce hcv hcl ?_
      refine lv_astore_n (lv' := [(3, .ref q9), (0, .ref (ad 0)), (1, .int p2), (2, .ref ao)]) hx hb dL_insert_12 rfl hl (by decide) rfl (fun ls hl => ?_)
      refine lv_iconst (v := 1) hx hb dL_insert_13 (by decide) ?_
      cases o2 hm
      refine W.widen (k := 2) (n := 12) (Nat.le_of_ble_eq_true rfl) (Nat.le_of_ble_eq_true rfl) ?_
      exact W.iret hx hb hr (fun t ht hW => ⟨⟨_, (), rfl, rfl, by rw [ht]; exact hP, va_K.moved hW.alike hK, hD⟩, hS.F ht⟩) hS.2.2 dL_insert_14
    have hm := it_f hm hk1
    by_cases hk2 : k = 2
    · have hm := it_t hm hk2
      subst hk2
      refine vx_catch hown [{ startPc := 0, endPc := 9, handlerPc := 12, catchType := 13 }] { startPc := 0, endPc := 9, handlerPc := 15, catchType := 15 } [] (htab.trans rfl) (fun z hz => by rw [List.mem_singleton.mp hz]; exact Or.inr ⟨by decide, _, zw0, hNc⟩) (by decide) (by decide) zw1 (zV_ng hV (.castable (xN 2) (xN 2)) (by decide +kernel)) hce hcv hcl ?_
      refine lv_astore_n (lv' := [(3, .ref q9), (0, .ref (ad 0)), (1, .int p2), (2, .ref ao)]) hx hb dL_insert_15 rfl hl (by decide) rfl (fun ls hl => ?_)
      refine lv_iconst (v := 2) hx hb dL_insert_16 (by decide) ?_
      cases o2 hm
      refine W.widen (k := 2) (n := 12) (Nat.le_of_ble_eq_true rfl) (Nat.le_of_ble_eq_true rfl) ?_
      exact W.iret hx hb hr (fun t ht hW => ⟨⟨_, (), rfl, rfl, by rw [ht]; exact hP, va_K.moved hW.alike hK, hD⟩, hS.F ht⟩) hS.2.2 dL_insert_17
    have hm := it_f hm hk2
    cases hm
  · obtain ⟨zk4, zm4, zb4, zs4, zr4, zu4, zt4, zf4, zg4, zmc4, zmg4, zsp4, zjn4⟩ := u_4
    rw [hw] at hm
    have hP : va_P (dC, dI) vwCl (wB cI cJ ad ao zk4 zm4 zb4 zs4 zr4 zu4 zt4 zf4 zg4 zbd zro zmc4 zmg4 zsp4 zjn4 xo) H := hP
    have hD : va_D A (wB cI cJ ad ao zk4 zm4 zb4 zs4 zr4 zu4 zt4 zf4 zg4 zbd zro zmc4 zmg4 zsp4 zjn4 xo) := hD
    refine lv_i2l hx hb dL_insert_7 rfl ?_
    obtain ⟨c_8, hm⟩ := ck hm
    refine va_last hx hb hK hP hD hS 18 1 rfl rfl c_8 dL_insert_8 (fun H locs hP hD hS => ?_)
    have hP : va_P (dC, dI) vwCl (wB cI cJ ad ao zk4 zm4 zb4 zs4 zr4 zu4 zt4 zf4 zg4 zbd zro zmc4 zmg4 zsp4 zjn4 (vp_updL xo (Int32.toNatClampNeg 0) (Int32.toInt64 r4))) H := hP
    have hD : va_D A (wB cI cJ ad ao zk4 zm4 zb4 zs4 zr4 zu4 zt4 zf4 zg4 zbd zro zmc4 zmg4 zsp4 zjn4 (vp_updL xo (Int32.toNatClampNeg 0) (Int32.toInt64 r4))) := hD
    refine lv_goto (tgt := 18) hx hb dL_insert_9 (by decide) ?_
    refine lv_iconst (v := 0) hx hb dL_insert_18 (by decide) ?_
    cases o2 hm
    refine W.widen (k := 2) (n := 12) (Nat.le_of_ble_eq_true rfl) (Nat.le_of_ble_eq_true rfl) ?_
    exact W.iret hx hb hr (fun t ht hW => ⟨⟨_, (), rfl, rfl, by rw [ht]; exact hP, va_K.moved hW.alike hK, hD⟩, hS.F ht⟩) hS.2.2 dL_insert_19
set_option maxHeartbeats 4000000 in
set_option maxRecDepth 100000 in
theorem c_L_remove (l : Launch) (dC : Nat → ClassId) (dI : Nat → Nat → Nat) (cI : ClassId) (cJ : ClassId) (ad : Nat → Nat) (ao : Nat) (zk : zN) (zm : zN) (zb : zN) (zs : zN) (zr : zN) (zu : zN) (zt : zT) (zf : zN) (zg : zN) (zbd : Int32) (zro : Int32) (zmc : Int32) (zmg : Int32) (zsp : Int32) (zjn : Int32) (xo : Nat → Int64) (F : Nat) (p2 : Int32) (sz : Nat) (sa : Nat → Nat) (hl9 : l.stackTraces = false) (r : Int32) (u_zm : zN) (u_zb : zN) (u_zmc : Int32) (u_xo : Nat → Int64) (hm : L_remove F zk zm zb zmc xo p2 = some (r, u_zm, u_zb, u_zmc, u_xo)) : Met l yL_remove wsL_remove ({ frames := 7, cells := 1, slots := 6, locals := 133 }) (va_Pc [.ref (ad 0), .int p2, .ref ao] (zH (dC, dI) (wB cI cJ ad ao zk zm zb zs zr zu zt zf zg zbd zro zmc zmg zsp zjn xo) [(cI, .int), (cJ, .long)] sz sa)) (zQi (dC, dI) (wB cI cJ ad ao zk u_zm u_zb zs zr zu zt zf zg zbd zro u_zmc zmg zsp zjn u_xo) [(cI, .int), (cJ, .long)] (va_A (wB cI cJ ad ao zk zm zb zs zr zu zt zf zg zbd zro zmc zmg zsp zjn xo) sz) r) 1 6 (va_A (wB cI cJ ad ao zk zm zb zs zr zu zt zf zg zbd zro zmc zmg zsp zjn xo) sz) := by
  refine va_MetW (cc := cL_remove) (maxL := 4) (ret := (some .int)) (by decide) rfl ?_
  intro p e s m args below meth c s₁ B hml hv
  obtain ⟨rfl, ⟨⟨hsz, hP, hK, hD0⟩, hV⟩, hNc⟩ := hv
  have htab : c.exceptionTable.toList = tableOf [(0, 9, 12, 27)] := vx_table (x := yL_remove) B (atoms_spec (ws := wsL_remove) B.pre (.codeWith yL_remove cL_remove 4 (some .int) [(0, 9, 12, 27)]) List.mem_cons_self)
  have hx := B.exec
  have hb := B.bytes
  have hr := B.returns
  have hts := atoms_spec (ws := wsL_remove) B.pre
  have hown : s.vm.findClass RL = some m.cls := findClass_of_methodNamed B.named
  have hlocks := B.notSynchronized
  subst hsz
  have hD := hD0.self (sz := s.heap.size)
  generalize hAe : va_A (wB cI cJ ad ao zk zm zb zs zr zu zt zf zg zbd zro zmc zmg zsp zjn xo) s.heap.size = A at hD hV ⊢
  have hA : ∀ q : Nat, s.heap.size ≤ q → A q := fun q h => by rw [← hAe]; exact Or.inr h
  have hS : va_S A s.heap s.heap [] := va_S.rf
  generalize eL : ([] : List Loc) = locs at hS ⊢
  obtain ⟨H, eH⟩ : ∃ z : Heap, z = s.heap := ⟨_, rfl⟩
  have hP : va_P (dC, dI) vwCl (wB cI cJ ad ao zk zm zb zs zr zu zt zf zg zbd zro zmc zmg zsp zjn xo) H := by rw [eH]; exact hP
  have hS : va_S A s.heap H locs := by rw [eH]; exact hS
  refine z_heap eH ?_
  have hl := lv_entry ([.ref (ad 0), .int p2, .ref ao]) (n := 4) (Nat.le_of_ble_eq_true rfl)
  rw [lg_entry_eq]
  generalize (lg_sl ([.ref (ad 0), .int p2, .ref ao]) ++ List.replicate (4 - (lg_sl ([.ref (ad 0), .int p2, .ref ao])).length) Slot.unset).toArray = ls at hl ⊢
  have hl : lv_has ls 4 [(0, .ref (ad 0)), (1, .int p2), (2, .ref ao)] := hl
  have zw0 := hts (.classLink RL 27 "java/util/NoSuchElementException") (List.mem_cons_of_mem _ (List.mem_append_left _ (List.mem_append_left _ (List.mem_append_left _ (List.mem_append_left _ (List.mem_of_getElem? (i := 0) rfl))))))
  refine lv_aload_n hx hb dL_remove_0 rfl (lv_at hl 2 rfl) ?_
  refine lv_iconst (v := 0) hx hb dL_remove_1 (by decide) ?_
  refine lv_aload_n hx hb dL_remove_2 rfl (lv_at hl 0 rfl) ?_
  refine lv_iload_n hx hb dL_remove_3 rfl (lv_at hl 1 rfl) ?_
  obtain ⟨z_4, h_4, hm⟩ := ob hm
  refine z_xVi (U := zN × zN × Int32) (w1 := fun u_ => (wL cI ad zk u_.1 u_.2.1 zs zr zu zt zf zg zbd zro u_.2.2 zmg zsp zjn)) (ws' := fun u_ => (wB cI cJ ad ao zk u_.1 u_.2.1 zs zr zu zt zf zg zbd zro u_.2.2 zmg zsp zjn xo)) (As := [.int p2]) (rest := [.int 0, .ref ao]) (wc := (wL cI ad zk zm zb zs zr zu zt zf zg zbd zro zmc zmg zsp zjn)) (ws := (wB cI cJ ad ao zk zm zb zs zr zu zt zf zg zbd zro zmc zmg zsp zjn xo)) (ci := 2) (q := (RX2, TX2, 15)) ⟨hx, hb, hml, hown, hts⟩ (c_X2_remove l dC dI cI ad zk zm zb zs zr zu zt zf zg zbd zro zmc zmg zsp zjn F p2 H.size sa hl9 z_4 h_4) (cwV 1 hts gL_remove_X2_remove rfl rfl rfl kv_X2_remove ⟨(Nat.le_of_ble_eq_true rfl), (Nat.le_of_ble_eq_true rfl)⟩) hV (hK.sub (tys' := [(cI, .int)]) [0] rfl) hP hD hS hA (pjB_L cI cJ ad ao zk zm zb zs zr zu zt zf zg zbd zro zmc zmg zsp zjn xo zk zm zb zs zr zu zt zf zg zbd zro zmc zmg zsp zjn) (fun u_ => (pjB_L cI cJ ad ao zk zm zb zs zr zu zt zf zg zbd zro zmc zmg zsp zjn xo zk u_.1 u_.2.1 zs zr zu zt zf zg zbd zro u_.2.2 zmg zsp zjn)) (fun u_ => ((paL cI ad zk u_.1 u_.2.1 zs zr zu zt zf zg zbd zro u_.2.2 zmg zsp zjn).trans (paL cI ad zk zm zb zs zr zu zt zf zg zbd zro zmc zmg zsp zjn).symm)) rfl rfl rfl rfl hl.1 rfl (Nat.le_of_ble_eq_true rfl) dL_remove_4 ⟨(Nat.le_of_ble_eq_true rfl), (Nat.le_of_ble_eq_true rfl)⟩ (fun k ce q9 H locs ez hP hS hce hcv hcl => ?_) (fun r4 u_4 H locs hw hP hD hS => ?_)
  · rw [ez] at hm
    by_cases hk4 : k = 4
    · have hm := it_t hm hk4
      subst hk4
      refine vx_catch hown [] { startPc := 0, endPc := 9, handlerPc := 12, catchType := 27 } [] (htab.trans rfl) (fun z hz => absurd hz List.not_mem_nil) (by decide) (by decide) zw0 (zV_ng hV (.castable (xN 4) (xN 4)) (by decide +kernel)) hce hcv hcl ?_
      refine lv_astore_n (lv' := [(3, .ref q9), (0, .ref (ad 0)), (1, .int p2), (2, .ref ao)]) hx hb dL_remove_12 rfl hl (by decide) rfl (fun ls hl => ?_)
      refine lv_iconst (v := 1) hx hb dL_remove_13 (by decide) ?_
      cases o2 hm
      refine W.widen (k := 1) (n := 6) (Nat.le_of_ble_eq_true rfl) (Nat.le_of_ble_eq_true rfl) ?_
      exact W.iret hx hb hr (fun t ht hW => ⟨⟨_, (), rfl, rfl, by rw [ht]; exact hP, va_K.moved hW.alike hK, hD⟩, hS.F ht⟩) hS.2.2 dL_remove_14
    have hm := it_f hm hk4
    cases hm
  · obtain ⟨zm4, zb4, zmc4⟩ := u_4
    rw [hw] at hm
    have hP : va_P (dC, dI) vwCl (wB cI cJ ad ao zk zm4 zb4 zs zr zu zt zf zg zbd zro zmc4 zmg zsp zjn xo) H := hP
    have hD : va_D A (wB cI cJ ad ao zk zm4 zb4 zs zr zu zt zf zg zbd zro zmc4 zmg zsp zjn xo) := hD
    refine lv_i2l hx hb dL_remove_7 rfl ?_
    obtain ⟨c_8, hm⟩ := ck hm
    refine va_last hx hb hK hP hD hS 18 1 rfl rfl c_8 dL_remove_8 (fun H locs hP hD hS => ?_)
    have hP : va_P (dC, dI) vwCl (wB cI cJ ad ao zk zm4 zb4 zs zr zu zt zf zg zbd zro zmc4 zmg zsp zjn (vp_updL xo (Int32.toNatClampNeg 0) (Int32.toInt64 r4))) H := hP
    have hD : va_D A (wB cI cJ ad ao zk zm4 zb4 zs zr zu zt zf zg zbd zro zmc4 zmg zsp zjn (vp_updL xo (Int32.toNatClampNeg 0) (Int32.toInt64 r4))) := hD
    refine lv_goto (tgt := 15) hx hb dL_remove_9 (by decide) ?_
    refine lv_iconst (v := 0) hx hb dL_remove_15 (by decide) ?_
    cases o2 hm
    refine W.widen (k := 1) (n := 6) (Nat.le_of_ble_eq_true rfl) (Nat.le_of_ble_eq_true rfl) ?_
    exact W.iret hx hb hr (fun t ht hW => ⟨⟨_, (), rfl, rfl, by rw [ht]; exact hP, va_K.moved hW.alike hK, hD⟩, hS.F ht⟩) hS.2.2 dL_remove_16
set_option maxHeartbeats 4000000 in
set_option maxRecDepth 100000 in
theorem c_L_rebuild (l : Launch) (dC : Nat → ClassId) (dI : Nat → Nat → Nat) (cI : ClassId) (cJ : ClassId) (ad : Nat → Nat) (ao : Nat) (zk : zN) (zm : zN) (zb : zN) (zs : zN) (zr : zN) (zu : zN) (zt : zT) (zf : zN) (zg : zN) (zbd : Int32) (zro : Int32) (zmc : Int32) (zmg : Int32) (zsp : Int32) (zjn : Int32) (xo : Nat → Int64) (F : Nat) (p2 : Int32) (p3 : Int32) (sz : Nat) (sa : Nat → Nat) (hl9 : l.stackTraces = false) (r : Int32) (u_zk : zN) (u_zm : zN) (u_zb : zN) (u_zs : zN) (u_zr : zN) (u_zu : zN) (u_zt : zT) (u_zf : zN) (u_zbd : Int32) (u_zro : Int32) (u_zmc : Int32) (u_xo : Nat → Int64) (hm : L_rebuild F zk zm zb zs zr zu zt zf zbd zro zmc xo p2 p3 = some (r, u_zk, u_zm, u_zb, u_zs, u_zr, u_zu, u_zt, u_zf, u_zbd, u_zro, u_zmc, u_xo)) : Met l yL_rebuild wsL_rebuild ({ frames := 7, cells := 1, slots := 6, locals := 114 }) (va_Pc [.ref (ad 0), .int p2, .int p3, .ref ao] (zH (dC, dI) (wB cI cJ ad ao zk zm zb zs zr zu zt zf zg zbd zro zmc zmg zsp zjn xo) [(cI, .int), (cJ, .long)] sz sa)) (zQi (dC, dI) (wB cI cJ ad ao u_zk u_zm u_zb u_zs u_zr u_zu u_zt u_zf zg u_zbd u_zro u_zmc zmg zsp zjn u_xo) [(cI, .int), (cJ, .long)] (va_A (wB cI cJ ad ao zk zm zb zs zr zu zt zf zg zbd zro zmc zmg zsp zjn xo) sz) r) 1 6 (va_A (wB cI cJ ad ao zk zm zb zs zr zu zt zf zg zbd zro zmc zmg zsp zjn xo) sz) := by
  refine va_MetW (cc := cL_rebuild) (maxL := 5) (ret := (some .int)) (by decide) rfl ?_
  intro p e s m args below meth c s₁ B hml hv
  obtain ⟨rfl, ⟨⟨hsz, hP, hK, hD0⟩, hV⟩, hNc⟩ := hv
  have htab : c.exceptionTable.toList = tableOf [(0, 10, 13, 13)] := vx_table (x := yL_rebuild) B (atoms_spec (ws := wsL_rebuild) B.pre (.codeWith yL_rebuild cL_rebuild 5 (some .int) [(0, 10, 13, 13)]) List.mem_cons_self)
  have hx := B.exec
  have hb := B.bytes
  have hr := B.returns
  have hts := atoms_spec (ws := wsL_rebuild) B.pre
  have hown : s.vm.findClass RL = some m.cls := findClass_of_methodNamed B.named
  have hlocks := B.notSynchronized
  subst hsz
  have hD := hD0.self (sz := s.heap.size)
  generalize hAe : va_A (wB cI cJ ad ao zk zm zb zs zr zu zt zf zg zbd zro zmc zmg zsp zjn xo) s.heap.size = A at hD hV ⊢
  have hA : ∀ q : Nat, s.heap.size ≤ q → A q := fun q h => by rw [← hAe]; exact Or.inr h
  have hS : va_S A s.heap s.heap [] := va_S.rf
  generalize eL : ([] : List Loc) = locs at hS ⊢
  obtain ⟨H, eH⟩ : ∃ z : Heap, z = s.heap := ⟨_, rfl⟩
  have hP : va_P (dC, dI) vwCl (wB cI cJ ad ao zk zm zb zs zr zu zt zf zg zbd zro zmc zmg zsp zjn xo) H := by rw [eH]; exact hP
  have hS : va_S A s.heap H locs := by rw [eH]; exact hS
  refine z_heap eH ?_
  have hl := lv_entry ([.ref (ad 0), .int p2, .int p3, .ref ao]) (n := 5) (Nat.le_of_ble_eq_true rfl)
  rw [lg_entry_eq]
  generalize (lg_sl ([.ref (ad 0), .int p2, .int p3, .ref ao]) ++ List.replicate (5 - (lg_sl ([.ref (ad 0), .int p2, .int p3, .ref ao])).length) Slot.unset).toArray = ls at hl ⊢
  have hl : lv_has ls 5 [(0, .ref (ad 0)), (1, .int p2), (2, .int p3), (3, .ref ao)] := hl
  have zw0 := hts (.classLink RL 13 "java/lang/IllegalArgumentException") (List.mem_cons_of_mem _ (List.mem_append_left _ (List.mem_append_left _ (List.mem_append_left _ (List.mem_append_left _ (List.mem_append_left _ (List.mem_of_getElem? (i := 0) rfl)))))))
  refine lv_aload_n hx hb dL_rebuild_0 rfl (lv_at hl 3 rfl) ?_
  refine lv_iconst (v := 0) hx hb dL_rebuild_1 (by decide) ?_
  refine lv_aload_n hx hb dL_rebuild_2 rfl (lv_at hl 0 rfl) ?_
  refine lv_iload_n hx hb dL_rebuild_3 rfl (lv_at hl 1 rfl) ?_
  refine lv_iload_n hx hb dL_rebuild_4 rfl (lv_at hl 2 rfl) ?_
  obtain ⟨z_5, h_5, hm⟩ := ob hm
  refine z_xVi (U := zN × zN × zN × zN × zN × zN × zT × zN × Int32 × Int32 × Int32) (w1 := fun u_ => (wL cI ad u_.1 u_.2.1 u_.2.2.1 u_.2.2.2.1 u_.2.2.2.2.1 u_.2.2.2.2.2.1 u_.2.2.2.2.2.2.1 u_.2.2.2.2.2.2.2.1 zg u_.2.2.2.2.2.2.2.2.1 u_.2.2.2.2.2.2.2.2.2.1 u_.2.2.2.2.2.2.2.2.2.2 zmg zsp zjn)) (ws' := fun u_ => (wB cI cJ ad ao u_.1 u_.2.1 u_.2.2.1 u_.2.2.2.1 u_.2.2.2.2.1 u_.2.2.2.2.2.1 u_.2.2.2.2.2.2.1 u_.2.2.2.2.2.2.2.1 zg u_.2.2.2.2.2.2.2.2.1 u_.2.2.2.2.2.2.2.2.2.1 u_.2.2.2.2.2.2.2.2.2.2 zmg zsp zjn xo)) (As := [.int p2, .int p3]) (rest := [.int 0, .ref ao]) (wc := (wL cI ad zk zm zb zs zr zu zt zf zg zbd zro zmc zmg zsp zjn)) (ws := (wB cI cJ ad ao zk zm zb zs zr zu zt zf zg zbd zro zmc zmg zsp zjn xo)) (ci := 2) (q := (RX2, TX2, 15)) ⟨hx, hb, hml, hown, hts⟩ (c_X2_rebuild l dC dI cI ad zk zm zb zs zr zu zt zf zg zbd zro zmc zmg zsp zjn F p2 p3 H.size sa hl9 z_5 h_5) (cwV 2 hts gL_rebuild_X2_rebuild rfl rfl rfl kv_X2_rebuild ⟨(Nat.le_of_ble_eq_true rfl), (Nat.le_of_ble_eq_true rfl)⟩) hV (hK.sub (tys' := [(cI, .int)]) [0] rfl) hP hD hS hA (pjB_L cI cJ ad ao zk zm zb zs zr zu zt zf zg zbd zro zmc zmg zsp zjn xo zk zm zb zs zr zu zt zf zg zbd zro zmc zmg zsp zjn) (fun u_ => (pjB_L cI cJ ad ao zk zm zb zs zr zu zt zf zg zbd zro zmc zmg zsp zjn xo u_.1 u_.2.1 u_.2.2.1 u_.2.2.2.1 u_.2.2.2.2.1 u_.2.2.2.2.2.1 u_.2.2.2.2.2.2.1 u_.2.2.2.2.2.2.2.1 zg u_.2.2.2.2.2.2.2.2.1 u_.2.2.2.2.2.2.2.2.2.1 u_.2.2.2.2.2.2.2.2.2.2 zmg zsp zjn)) (fun u_ => ((paL cI ad u_.1 u_.2.1 u_.2.2.1 u_.2.2.2.1 u_.2.2.2.2.1 u_.2.2.2.2.2.1 u_.2.2.2.2.2.2.1 u_.2.2.2.2.2.2.2.1 zg u_.2.2.2.2.2.2.2.2.1 u_.2.2.2.2.2.2.2.2.2.1 u_.2.2.2.2.2.2.2.2.2.2 zmg zsp zjn).trans (paL cI ad zk zm zb zs zr zu zt zf zg zbd zro zmc zmg zsp zjn).symm)) rfl rfl rfl rfl hl.1 rfl (Nat.le_of_ble_eq_true rfl) dL_rebuild_5 ⟨(Nat.le_of_ble_eq_true rfl), (Nat.le_of_ble_eq_true rfl)⟩ (fun k ce q9 H locs ez hP hS hce hcv hcl => ?_) (fun r5 u_5 H locs hw hP hD hS => ?_)
  · rw [ez] at hm
    by_cases hk1 : k = 1
    · have hm := it_t hm hk1
      subst hk1
      refine vx_catch hown [] { startPc := 0, endPc := 10, handlerPc := 13, catchType := 13 } [] (htab.trans rfl) (fun z hz => absurd hz List.not_mem_nil) (by decide) (by decide) zw0 (zV_ng hV (.castable (xN 1) (xN 1)) (by decide +kernel)) hce hcv hcl ?_
      refine lv_astore (lv' := [(4, .ref q9), (0, .ref (ad 0)), (1, .int p2), (2, .int p3), (3, .ref ao)]) hx hb dL_rebuild_13 hl (by decide) rfl (fun ls hl => ?_)
      refine lv_iconst (v := 1) hx hb dL_rebuild_15 (by decide) ?_
      cases o2 hm
      refine W.widen (k := 1) (n := 6) (Nat.le_of_ble_eq_true rfl) (Nat.le_of_ble_eq_true rfl) ?_
      exact W.iret hx hb hr (fun t ht hW => ⟨⟨_, (), rfl, rfl, by rw [ht]; exact hP, va_K.moved hW.alike hK, hD⟩, hS.F ht⟩) hS.2.2 dL_rebuild_16
    have hm := it_f hm hk1
    cases hm
  · obtain ⟨zk5, zm5, zb5, zs5, zr5, zu5, zt5, zf5, zbd5, zro5, zmc5⟩ := u_5
    rw [hw] at hm
    have hP : va_P (dC, dI) vwCl (wB cI cJ ad ao zk5 zm5 zb5 zs5 zr5 zu5 zt5 zf5 zg zbd5 zro5 zmc5 zmg zsp zjn xo) H := hP
    have hD : va_D A (wB cI cJ ad ao zk5 zm5 zb5 zs5 zr5 zu5 zt5 zf5 zg zbd5 zro5 zmc5 zmg zsp zjn xo) := hD
    refine lv_i2l hx hb dL_rebuild_8 rfl ?_
    obtain ⟨c_9, hm⟩ := ck hm
    refine va_last hx hb hK hP hD hS 18 1 rfl rfl c_9 dL_rebuild_9 (fun H locs hP hD hS => ?_)
    have hP : va_P (dC, dI) vwCl (wB cI cJ ad ao zk5 zm5 zb5 zs5 zr5 zu5 zt5 zf5 zg zbd5 zro5 zmc5 zmg zsp zjn (vp_updL xo (Int32.toNatClampNeg 0) (Int32.toInt64 r5))) H := hP
    have hD : va_D A (wB cI cJ ad ao zk5 zm5 zb5 zs5 zr5 zu5 zt5 zf5 zg zbd5 zro5 zmc5 zmg zsp zjn (vp_updL xo (Int32.toNatClampNeg 0) (Int32.toInt64 r5))) := hD
    refine lv_goto (tgt := 17) hx hb dL_rebuild_10 (by decide) ?_
    refine lv_iconst (v := 0) hx hb dL_rebuild_17 (by decide) ?_
    cases o2 hm
    refine W.widen (k := 1) (n := 6) (Nat.le_of_ble_eq_true rfl) (Nat.le_of_ble_eq_true rfl) ?_
    exact W.iret hx hb hr (fun t ht hW => ⟨⟨_, (), rfl, rfl, by rw [ht]; exact hP, va_K.moved hW.alike hK, hD⟩, hS.F ht⟩) hS.2.2 dL_rebuild_18
set_option maxHeartbeats 4000000 in
set_option maxRecDepth 100000 in
theorem c_L_select (l : Launch) (dC : Nat → ClassId) (dI : Nat → Nat → Nat) (cI : ClassId) (cJ : ClassId) (ad : Nat → Nat) (ao : Nat) (zk : zN) (zm : zN) (zb : zN) (zs : zN) (zr : zN) (zu : zN) (zt : zT) (zf : zN) (zg : zN) (zbd : Int32) (zro : Int32) (zmc : Int32) (zmg : Int32) (zsp : Int32) (zjn : Int32) (xo : Nat → Int64) (F : Nat) (p2 : Int32) (sz : Nat) (sa : Nat → Nat) (hl9 : l.stackTraces = false) (r : Int32) (u_zf : zN) (u_xo : Nat → Int64) (hm : L_select F zk zm zb zf zmc xo p2 = some (r, u_zf, u_xo)) : Met l yL_select wsL_select ({ frames := 7, cells := 1, slots := 6, locals := 132 }) (va_Pc [.ref (ad 0), .int p2, .ref ao] (zH (dC, dI) (wB cI cJ ad ao zk zm zb zs zr zu zt zf zg zbd zro zmc zmg zsp zjn xo) [(cI, .int), (cJ, .long)] sz sa)) (zQi (dC, dI) (wB cI cJ ad ao zk zm zb zs zr zu zt u_zf zg zbd zro zmc zmg zsp zjn u_xo) [(cI, .int), (cJ, .long)] (va_A (wB cI cJ ad ao zk zm zb zs zr zu zt zf zg zbd zro zmc zmg zsp zjn xo) sz) r) 1 6 (va_A (wB cI cJ ad ao zk zm zb zs zr zu zt zf zg zbd zro zmc zmg zsp zjn xo) sz) := by
  refine va_MetW (cc := cL_select) (maxL := 4) (ret := (some .int)) (by decide) rfl ?_
  intro p e s m args below meth c s₁ B hml hv
  obtain ⟨rfl, ⟨⟨hsz, hP, hK, hD0⟩, hV⟩, hNc⟩ := hv
  have htab : c.exceptionTable.toList = tableOf [(0, 9, 12, 36)] := vx_table (x := yL_select) B (atoms_spec (ws := wsL_select) B.pre (.codeWith yL_select cL_select 4 (some .int) [(0, 9, 12, 36)]) List.mem_cons_self)
  have hx := B.exec
  have hb := B.bytes
  have hr := B.returns
  have hts := atoms_spec (ws := wsL_select) B.pre
  have hown : s.vm.findClass RL = some m.cls := findClass_of_methodNamed B.named
  have hlocks := B.notSynchronized
  subst hsz
  have hD := hD0.self (sz := s.heap.size)
  generalize hAe : va_A (wB cI cJ ad ao zk zm zb zs zr zu zt zf zg zbd zro zmc zmg zsp zjn xo) s.heap.size = A at hD hV ⊢
  have hA : ∀ q : Nat, s.heap.size ≤ q → A q := fun q h => by rw [← hAe]; exact Or.inr h
  have hS : va_S A s.heap s.heap [] := va_S.rf
  generalize eL : ([] : List Loc) = locs at hS ⊢
  obtain ⟨H, eH⟩ : ∃ z : Heap, z = s.heap := ⟨_, rfl⟩
  have hP : va_P (dC, dI) vwCl (wB cI cJ ad ao zk zm zb zs zr zu zt zf zg zbd zro zmc zmg zsp zjn xo) H := by rw [eH]; exact hP
  have hS : va_S A s.heap H locs := by rw [eH]; exact hS
  refine z_heap eH ?_
  have hl := lv_entry ([.ref (ad 0), .int p2, .ref ao]) (n := 4) (Nat.le_of_ble_eq_true rfl)
  rw [lg_entry_eq]
  generalize (lg_sl ([.ref (ad 0), .int p2, .ref ao]) ++ List.replicate (4 - (lg_sl ([.ref (ad 0), .int p2, .ref ao])).length) Slot.unset).toArray = ls at hl ⊢
  have hl : lv_has ls 4 [(0, .ref (ad 0)), (1, .int p2), (2, .ref ao)] := hl
  have zw0 := hts (.classLink RL 36 "java/lang/IndexOutOfBoundsException") (List.mem_cons_of_mem _ (List.mem_append_left _ (List.mem_append_left _ (List.mem_append_left _ (List.mem_append_left _ (List.mem_of_getElem? (i := 0) rfl))))))
  refine lv_aload_n hx hb dL_select_0 rfl (lv_at hl 2 rfl) ?_
  refine lv_iconst (v := 0) hx hb dL_select_1 (by decide) ?_
  refine lv_aload_n hx hb dL_select_2 rfl (lv_at hl 0 rfl) ?_
  refine lv_iload_n hx hb dL_select_3 rfl (lv_at hl 1 rfl) ?_
  obtain ⟨z_4, h_4, hm⟩ := ob hm
  refine z_xVi (U := zN) (w1 := fun u_ => (wL cI ad zk zm zb zs zr zu zt u_ zg zbd zro zmc zmg zsp zjn)) (ws' := fun u_ => (wB cI cJ ad ao zk zm zb zs zr zu zt u_ zg zbd zro zmc zmg zsp zjn xo)) (As := [.int p2]) (rest := [.int 0, .ref ao]) (wc := (wL cI ad zk zm zb zs zr zu zt zf zg zbd zro zmc zmg zsp zjn)) (ws := (wB cI cJ ad ao zk zm zb zs zr zu zt zf zg zbd zro zmc zmg zsp zjn xo)) (ci := 2) (q := (RX2, TX2, 15)) ⟨hx, hb, hml, hown, hts⟩ (c_X2_select l dC dI cI ad zk zm zb zs zr zu zt zf zg zbd zro zmc zmg zsp zjn F p2 H.size sa hl9 z_4 h_4) (cwV 1 hts gL_select_X2_select rfl rfl rfl kv_X2_select ⟨(Nat.le_of_ble_eq_true rfl), (Nat.le_of_ble_eq_true rfl)⟩) hV (hK.sub (tys' := [(cI, .int)]) [0] rfl) hP hD hS hA (pjB_L cI cJ ad ao zk zm zb zs zr zu zt zf zg zbd zro zmc zmg zsp zjn xo zk zm zb zs zr zu zt zf zg zbd zro zmc zmg zsp zjn) (fun u_ => (pjB_L cI cJ ad ao zk zm zb zs zr zu zt zf zg zbd zro zmc zmg zsp zjn xo zk zm zb zs zr zu zt u_ zg zbd zro zmc zmg zsp zjn)) (fun u_ => ((paL cI ad zk zm zb zs zr zu zt u_ zg zbd zro zmc zmg zsp zjn).trans (paL cI ad zk zm zb zs zr zu zt zf zg zbd zro zmc zmg zsp zjn).symm)) rfl rfl rfl rfl hl.1 rfl (Nat.le_of_ble_eq_true rfl) dL_select_4 ⟨(Nat.le_of_ble_eq_true rfl), (Nat.le_of_ble_eq_true rfl)⟩ (fun k ce q9 H locs ez hP hS hce hcv hcl => ?_) (fun r4 u_4 H locs hw hP hD hS => ?_)
  · rw [ez] at hm
    by_cases hk3 : k = 3
    · have hm := it_t hm hk3
      subst hk3
      refine vx_catch hown [] { startPc := 0, endPc := 9, handlerPc := 12, catchType := 36 } [] (htab.trans rfl) (fun z hz => absurd hz List.not_mem_nil) (by decide) (by decide) zw0 (zV_ng hV (.castable (xN 3) (xN 3)) (by decide +kernel)) hce hcv hcl ?_
      refine lv_astore_n (lv' := [(3, .ref q9), (0, .ref (ad 0)), (1, .int p2), (2, .ref ao)]) hx hb dL_select_12 rfl hl (by decide) rfl (fun ls hl => ?_)
      refine lv_iconst (v := 1) hx hb dL_select_13 (by decide) ?_
      cases o2 hm
      refine W.widen (k := 1) (n := 6) (Nat.le_of_ble_eq_true rfl) (Nat.le_of_ble_eq_true rfl) ?_
      exact W.iret hx hb hr (fun t ht hW => ⟨⟨_, (), rfl, rfl, by rw [ht]; exact hP, va_K.moved hW.alike hK, hD⟩, hS.F ht⟩) hS.2.2 dL_select_14
    have hm := it_f hm hk3
    cases hm
  · obtain ⟨zf4, rfl⟩ : ∃ y, y = u_4 := ⟨_, rfl⟩
    rw [hw] at hm
    have hP : va_P (dC, dI) vwCl (wB cI cJ ad ao zk zm zb zs zr zu zt zf4 zg zbd zro zmc zmg zsp zjn xo) H := hP
    have hD : va_D A (wB cI cJ ad ao zk zm zb zs zr zu zt zf4 zg zbd zro zmc zmg zsp zjn xo) := hD
    refine lv_i2l hx hb dL_select_7 rfl ?_
    obtain ⟨c_8, hm⟩ := ck hm
    refine va_last hx hb hK hP hD hS 18 1 rfl rfl c_8 dL_select_8 (fun H locs hP hD hS => ?_)
    have hP : va_P (dC, dI) vwCl (wB cI cJ ad ao zk zm zb zs zr zu zt zf4 zg zbd zro zmc zmg zsp zjn (vp_updL xo (Int32.toNatClampNeg 0) (Int32.toInt64 r4))) H := hP
    have hD : va_D A (wB cI cJ ad ao zk zm zb zs zr zu zt zf4 zg zbd zro zmc zmg zsp zjn (vp_updL xo (Int32.toNatClampNeg 0) (Int32.toInt64 r4))) := hD
    refine lv_goto (tgt := 15) hx hb dL_select_9 (by decide) ?_
    refine lv_iconst (v := 0) hx hb dL_select_15 (by decide) ?_
    cases o2 hm
    refine W.widen (k := 1) (n := 6) (Nat.le_of_ble_eq_true rfl) (Nat.le_of_ble_eq_true rfl) ?_
    exact W.iret hx hb hr (fun t ht hW => ⟨⟨_, (), rfl, rfl, by rw [ht]; exact hP, va_K.moved hW.alike hK, hD⟩, hS.F ht⟩) hS.2.2 dL_select_16
set_option maxHeartbeats 4000000 in
set_option maxRecDepth 100000 in
theorem c_L_ceiling (l : Launch) (dC : Nat → ClassId) (dI : Nat → Nat → Nat) (cI : ClassId) (cJ : ClassId) (ad : Nat → Nat) (ao : Nat) (zk : zN) (zm : zN) (zb : zN) (zs : zN) (zr : zN) (zu : zN) (zt : zT) (zf : zN) (zg : zN) (zbd : Int32) (zro : Int32) (zmc : Int32) (zmg : Int32) (zsp : Int32) (zjn : Int32) (xo : Nat → Int64) (F : Nat) (p2 : Int32) (sz : Nat) (sa : Nat → Nat) (hl9 : l.stackTraces = false) (r : Int32) (u_zf : zN) (u_xo : Nat → Int64) (hm : L_ceiling F zk zm zb zf zmc xo p2 = some (r, u_zf, u_xo)) : Met l yL_ceiling wsL_ceiling ({ frames := 7, cells := 1, slots := 6, locals := 133 }) (va_Pc [.ref (ad 0), .int p2, .ref ao] (zH (dC, dI) (wB cI cJ ad ao zk zm zb zs zr zu zt zf zg zbd zro zmc zmg zsp zjn xo) [(cI, .int), (cJ, .long)] sz sa)) (zQi (dC, dI) (wB cI cJ ad ao zk zm zb zs zr zu zt u_zf zg zbd zro zmc zmg zsp zjn u_xo) [(cI, .int), (cJ, .long)] (va_A (wB cI cJ ad ao zk zm zb zs zr zu zt zf zg zbd zro zmc zmg zsp zjn xo) sz) r) 1 6 (va_A (wB cI cJ ad ao zk zm zb zs zr zu zt zf zg zbd zro zmc zmg zsp zjn xo) sz) := by
  refine va_MetW (cc := cL_ceiling) (maxL := 4) (ret := (some .int)) (by decide) rfl ?_
  intro p e s m args below meth c s₁ B hml hv
  obtain ⟨rfl, ⟨⟨hsz, hP, hK, hD0⟩, hV⟩, hNc⟩ := hv
  have htab : c.exceptionTable.toList = tableOf [(0, 9, 12, 27)] := vx_table (x := yL_ceiling) B (atoms_spec (ws := wsL_ceiling) B.pre (.codeWith yL_ceiling cL_ceiling 4 (some .int) [(0, 9, 12, 27)]) List.mem_cons_self)
  have hx := B.exec
  have hb := B.bytes
  have hr := B.returns
  have hts := atoms_spec (ws := wsL_ceiling) B.pre
  have hown : s.vm.findClass RL = some m.cls := findClass_of_methodNamed B.named
  have hlocks := B.notSynchronized
  subst hsz
  have hD := hD0.self (sz := s.heap.size)
  generalize hAe : va_A (wB cI cJ ad ao zk zm zb zs zr zu zt zf zg zbd zro zmc zmg zsp zjn xo) s.heap.size = A at hD hV ⊢
  have hA : ∀ q : Nat, s.heap.size ≤ q → A q := fun q h => by rw [← hAe]; exact Or.inr h
  have hS : va_S A s.heap s.heap [] := va_S.rf
  generalize eL : ([] : List Loc) = locs at hS ⊢
  obtain ⟨H, eH⟩ : ∃ z : Heap, z = s.heap := ⟨_, rfl⟩
  have hP : va_P (dC, dI) vwCl (wB cI cJ ad ao zk zm zb zs zr zu zt zf zg zbd zro zmc zmg zsp zjn xo) H := by rw [eH]; exact hP
  have hS : va_S A s.heap H locs := by rw [eH]; exact hS
  refine z_heap eH ?_
  have hl := lv_entry ([.ref (ad 0), .int p2, .ref ao]) (n := 4) (Nat.le_of_ble_eq_true rfl)
  rw [lg_entry_eq]
  generalize (lg_sl ([.ref (ad 0), .int p2, .ref ao]) ++ List.replicate (4 - (lg_sl ([.ref (ad 0), .int p2, .ref ao])).length) Slot.unset).toArray = ls at hl ⊢
  have hl : lv_has ls 4 [(0, .ref (ad 0)), (1, .int p2), (2, .ref ao)] := hl
  have zw0 := hts (.classLink RL 27 "java/util/NoSuchElementException") (List.mem_cons_of_mem _ (List.mem_append_left _ (List.mem_append_left _ (List.mem_append_left _ (List.mem_append_left _ (List.mem_of_getElem? (i := 0) rfl))))))
  refine lv_aload_n hx hb dL_ceiling_0 rfl (lv_at hl 2 rfl) ?_
  refine lv_iconst (v := 0) hx hb dL_ceiling_1 (by decide) ?_
  refine lv_aload_n hx hb dL_ceiling_2 rfl (lv_at hl 0 rfl) ?_
  refine lv_iload_n hx hb dL_ceiling_3 rfl (lv_at hl 1 rfl) ?_
  obtain ⟨z_4, h_4, hm⟩ := ob hm
  refine z_xVi (U := zN) (w1 := fun u_ => (wL cI ad zk zm zb zs zr zu zt u_ zg zbd zro zmc zmg zsp zjn)) (ws' := fun u_ => (wB cI cJ ad ao zk zm zb zs zr zu zt u_ zg zbd zro zmc zmg zsp zjn xo)) (As := [.int p2]) (rest := [.int 0, .ref ao]) (wc := (wL cI ad zk zm zb zs zr zu zt zf zg zbd zro zmc zmg zsp zjn)) (ws := (wB cI cJ ad ao zk zm zb zs zr zu zt zf zg zbd zro zmc zmg zsp zjn xo)) (ci := 2) (q := (RX2, TX2, 15)) ⟨hx, hb, hml, hown, hts⟩ (c_X2_ceiling l dC dI cI ad zk zm zb zs zr zu zt zf zg zbd zro zmc zmg zsp zjn F p2 H.size sa hl9 z_4 h_4) (cwV 1 hts gL_ceiling_X2_ceiling rfl rfl rfl kv_X2_ceiling ⟨(Nat.le_of_ble_eq_true rfl), (Nat.le_of_ble_eq_true rfl)⟩) hV (hK.sub (tys' := [(cI, .int)]) [0] rfl) hP hD hS hA (pjB_L cI cJ ad ao zk zm zb zs zr zu zt zf zg zbd zro zmc zmg zsp zjn xo zk zm zb zs zr zu zt zf zg zbd zro zmc zmg zsp zjn) (fun u_ => (pjB_L cI cJ ad ao zk zm zb zs zr zu zt zf zg zbd zro zmc zmg zsp zjn xo zk zm zb zs zr zu zt u_ zg zbd zro zmc zmg zsp zjn)) (fun u_ => ((paL cI ad zk zm zb zs zr zu zt u_ zg zbd zro zmc zmg zsp zjn).trans (paL cI ad zk zm zb zs zr zu zt zf zg zbd zro zmc zmg zsp zjn).symm)) rfl rfl rfl rfl hl.1 rfl (Nat.le_of_ble_eq_true rfl) dL_ceiling_4 ⟨(Nat.le_of_ble_eq_true rfl), (Nat.le_of_ble_eq_true rfl)⟩ (fun k ce q9 H locs ez hP hS hce hcv hcl => ?_) (fun r4 u_4 H locs hw hP hD hS => ?_)
  · rw [ez] at hm
    by_cases hk4 : k = 4
    · have hm := it_t hm hk4
      subst hk4
      refine vx_catch hown [] { startPc := 0, endPc := 9, handlerPc := 12, catchType := 27 } [] (htab.trans rfl) (fun z hz => absurd hz List.not_mem_nil) (by decide) (by decide) zw0 (zV_ng hV (.castable (xN 4) (xN 4)) (by decide +kernel)) hce hcv hcl ?_
      refine lv_astore_n (lv' := [(3, .ref q9), (0, .ref (ad 0)), (1, .int p2), (2, .ref ao)]) hx hb dL_ceiling_12 rfl hl (by decide) rfl (fun ls hl => ?_)
      refine lv_iconst (v := 1) hx hb dL_ceiling_13 (by decide) ?_
      cases o2 hm
      refine W.widen (k := 1) (n := 6) (Nat.le_of_ble_eq_true rfl) (Nat.le_of_ble_eq_true rfl) ?_
      exact W.iret hx hb hr (fun t ht hW => ⟨⟨_, (), rfl, rfl, by rw [ht]; exact hP, va_K.moved hW.alike hK, hD⟩, hS.F ht⟩) hS.2.2 dL_ceiling_14
    have hm := it_f hm hk4
    cases hm
  · obtain ⟨zf4, rfl⟩ : ∃ y, y = u_4 := ⟨_, rfl⟩
    rw [hw] at hm
    have hP : va_P (dC, dI) vwCl (wB cI cJ ad ao zk zm zb zs zr zu zt zf4 zg zbd zro zmc zmg zsp zjn xo) H := hP
    have hD : va_D A (wB cI cJ ad ao zk zm zb zs zr zu zt zf4 zg zbd zro zmc zmg zsp zjn xo) := hD
    refine lv_i2l hx hb dL_ceiling_7 rfl ?_
    obtain ⟨c_8, hm⟩ := ck hm
    refine va_last hx hb hK hP hD hS 18 1 rfl rfl c_8 dL_ceiling_8 (fun H locs hP hD hS => ?_)
    have hP : va_P (dC, dI) vwCl (wB cI cJ ad ao zk zm zb zs zr zu zt zf4 zg zbd zro zmc zmg zsp zjn (vp_updL xo (Int32.toNatClampNeg 0) (Int32.toInt64 r4))) H := hP
    have hD : va_D A (wB cI cJ ad ao zk zm zb zs zr zu zt zf4 zg zbd zro zmc zmg zsp zjn (vp_updL xo (Int32.toNatClampNeg 0) (Int32.toInt64 r4))) := hD
    refine lv_goto (tgt := 15) hx hb dL_ceiling_9 (by decide) ?_
    refine lv_iconst (v := 0) hx hb dL_ceiling_15 (by decide) ?_
    cases o2 hm
    refine W.widen (k := 1) (n := 6) (Nat.le_of_ble_eq_true rfl) (Nat.le_of_ble_eq_true rfl) ?_
    exact W.iret hx hb hr (fun t ht hW => ⟨⟨_, (), rfl, rfl, by rw [ht]; exact hP, va_K.moved hW.alike hK, hD⟩, hS.F ht⟩) hS.2.2 dL_ceiling_16
set_option maxHeartbeats 4000000 in
set_option maxRecDepth 100000 in
theorem c_L_guess (l : Launch) (dC : Nat → ClassId) (dI : Nat → Nat → Nat) (cI : ClassId) (cJ : ClassId) (ad : Nat → Nat) (ao : Nat) (zk : zN) (zm : zN) (zb : zN) (zs : zN) (zr : zN) (zu : zN) (zt : zT) (zf : zN) (zg : zN) (zbd : Int32) (zro : Int32) (zmc : Int32) (zmg : Int32) (zsp : Int32) (zjn : Int32) (xo : Nat → Int64) (F : Nat) (p2 : Int32) (sz : Nat) (sa : Nat → Nat) (hl9 : l.stackTraces = false) (r : Int32) (u_xo : Nat → Int64) (hm : L_guess F zk zs zr zu xo p2 = some (r, u_xo)) : Met l yL_guess wsL_guess ({ frames := 8, cells := 1, slots := 6, locals := 132 }) (va_Pc [.ref (ad 0), .int p2, .ref ao] (zH (dC, dI) (wB cI cJ ad ao zk zm zb zs zr zu zt zf zg zbd zro zmc zmg zsp zjn xo) [(cI, .int), (cJ, .long)] sz sa)) (zQi (dC, dI) (wB cI cJ ad ao zk zm zb zs zr zu zt zf zg zbd zro zmc zmg zsp zjn u_xo) [(cI, .int), (cJ, .long)] (va_A (wB cI cJ ad ao zk zm zb zs zr zu zt zf zg zbd zro zmc zmg zsp zjn xo) sz) r) 1 6 (va_A (wB cI cJ ad ao zk zm zb zs zr zu zt zf zg zbd zro zmc zmg zsp zjn xo) sz) := by
  refine va_MetW (cc := cL_guess) (maxL := 4) (ret := (some .int)) (by decide) rfl ?_
  intro p e s m args below meth c s₁ B hml hv
  obtain ⟨rfl, ⟨⟨hsz, hP, hK, hD0⟩, hV⟩, hNc⟩ := hv
  have htab : c.exceptionTable.toList = tableOf [(0, 8, 11, 13)] := vx_table (x := yL_guess) B (atoms_spec (ws := wsL_guess) B.pre (.codeWith yL_guess cL_guess 4 (some .int) [(0, 8, 11, 13)]) List.mem_cons_self)
  have hx := B.exec
  have hb := B.bytes
  have hr := B.returns
  have hts := atoms_spec (ws := wsL_guess) B.pre
  have hown : s.vm.findClass RL = some m.cls := findClass_of_methodNamed B.named
  have hlocks := B.notSynchronized
  subst hsz
  have hD := hD0.self (sz := s.heap.size)
  generalize hAe : va_A (wB cI cJ ad ao zk zm zb zs zr zu zt zf zg zbd zro zmc zmg zsp zjn xo) s.heap.size = A at hD hV ⊢
  have hA : ∀ q : Nat, s.heap.size ≤ q → A q := fun q h => by rw [← hAe]; exact Or.inr h
  have hS : va_S A s.heap s.heap [] := va_S.rf
  generalize eL : ([] : List Loc) = locs at hS ⊢
  obtain ⟨H, eH⟩ : ∃ z : Heap, z = s.heap := ⟨_, rfl⟩
  have hP : va_P (dC, dI) vwCl (wB cI cJ ad ao zk zm zb zs zr zu zt zf zg zbd zro zmc zmg zsp zjn xo) H := by rw [eH]; exact hP
  have hS : va_S A s.heap H locs := by rw [eH]; exact hS
  refine z_heap eH ?_
  have hl := lv_entry ([.ref (ad 0), .int p2, .ref ao]) (n := 4) (Nat.le_of_ble_eq_true rfl)
  rw [lg_entry_eq]
  generalize (lg_sl ([.ref (ad 0), .int p2, .ref ao]) ++ List.replicate (4 - (lg_sl ([.ref (ad 0), .int p2, .ref ao])).length) Slot.unset).toArray = ls at hl ⊢
  have hl : lv_has ls 4 [(0, .ref (ad 0)), (1, .int p2), (2, .ref ao)] := hl
  have zw0 := hts (.classLink RL 13 "java/lang/IllegalArgumentException") (List.mem_cons_of_mem _ (List.mem_append_left _ (List.mem_append_left _ (List.mem_append_left _ (List.mem_append_left _ (List.mem_of_getElem? (i := 0) rfl))))))
  refine lv_aload_n hx hb dL_guess_0 rfl (lv_at hl 2 rfl) ?_
  refine lv_iconst (v := 0) hx hb dL_guess_1 (by decide) ?_
  refine lv_aload_n hx hb dL_guess_2 rfl (lv_at hl 0 rfl) ?_
  refine lv_iload_n hx hb dL_guess_3 rfl (lv_at hl 1 rfl) ?_
  obtain ⟨z_4, h_4, hm⟩ := ob hm
  refine z_xVl (U := Unit) (w1 := fun u_ => (wL cI ad zk zm zb zs zr zu zt zf zg zbd zro zmc zmg zsp zjn)) (ws' := fun u_ => (wB cI cJ ad ao zk zm zb zs zr zu zt zf zg zbd zro zmc zmg zsp zjn xo)) (As := [.int p2]) (rest := [.int 0, .ref ao]) (wc := (wL cI ad zk zm zb zs zr zu zt zf zg zbd zro zmc zmg zsp zjn)) (ws := (wB cI cJ ad ao zk zm zb zs zr zu zt zf zg zbd zro zmc zmg zsp zjn xo)) (ci := 2) (q := (RX2, TX2, 15)) ⟨hx, hb, hml, hown, hts⟩ (c_X2_guess l dC dI cI ad zk zm zb zs zr zu zt zf zg zbd zro zmc zmg zsp zjn F p2 H.size sa hl9 z_4 h_4) (cwV 1 hts gL_guess_X2_guess rfl rfl rfl kv_X2_guess ⟨(Nat.le_of_ble_eq_true rfl), (Nat.le_of_ble_eq_true rfl)⟩) hV (hK.sub (tys' := [(cI, .int)]) [0] rfl) hP hD hS hA (pjB_L cI cJ ad ao zk zm zb zs zr zu zt zf zg zbd zro zmc zmg zsp zjn xo zk zm zb zs zr zu zt zf zg zbd zro zmc zmg zsp zjn) (fun u_ => (pjB_L cI cJ ad ao zk zm zb zs zr zu zt zf zg zbd zro zmc zmg zsp zjn xo zk zm zb zs zr zu zt zf zg zbd zro zmc zmg zsp zjn)) (fun u_ => ((paL cI ad zk zm zb zs zr zu zt zf zg zbd zro zmc zmg zsp zjn).trans (paL cI ad zk zm zb zs zr zu zt zf zg zbd zro zmc zmg zsp zjn).symm)) rfl rfl rfl rfl hl.1 rfl (Nat.le_of_ble_eq_true rfl) dL_guess_4 ⟨(Nat.le_of_ble_eq_true rfl), (Nat.le_of_ble_eq_true rfl)⟩ (fun k ce q9 H locs ez hP hS hce hcv hcl => ?_) (fun r4 u_4 H locs hw hP hD hS => ?_)
  · rw [ez] at hm
    by_cases hk1 : k = 1
    · have hm := it_t hm hk1
      subst hk1
      refine vx_catch hown [] { startPc := 0, endPc := 8, handlerPc := 11, catchType := 13 } [] (htab.trans rfl) (fun z hz => absurd hz List.not_mem_nil) (by decide) (by decide) zw0 (zV_ng hV (.castable (xN 1) (xN 1)) (by decide +kernel)) hce hcv hcl ?_
      refine lv_astore_n (lv' := [(3, .ref q9), (0, .ref (ad 0)), (1, .int p2), (2, .ref ao)]) hx hb dL_guess_11 rfl hl (by decide) rfl (fun ls hl => ?_)
      refine lv_iconst (v := 1) hx hb dL_guess_12 (by decide) ?_
      cases o2 hm
      refine W.widen (k := 1) (n := 6) (Nat.le_of_ble_eq_true rfl) (Nat.le_of_ble_eq_true rfl) ?_
      exact W.iret hx hb hr (fun t ht hW => ⟨⟨_, (), rfl, rfl, by rw [ht]; exact hP, va_K.moved hW.alike hK, hD⟩, hS.F ht⟩) hS.2.2 dL_guess_13
    have hm := it_f hm hk1
    cases hm
  · rw [hw] at hm
    have hP : va_P (dC, dI) vwCl (wB cI cJ ad ao zk zm zb zs zr zu zt zf zg zbd zro zmc zmg zsp zjn xo) H := hP
    have hD : va_D A (wB cI cJ ad ao zk zm zb zs zr zu zt zf zg zbd zro zmc zmg zsp zjn xo) := hD
    obtain ⟨c_7, hm⟩ := ck hm
    refine va_last hx hb hK hP hD hS 18 1 rfl rfl c_7 dL_guess_7 (fun H locs hP hD hS => ?_)
    have hP : va_P (dC, dI) vwCl (wB cI cJ ad ao zk zm zb zs zr zu zt zf zg zbd zro zmc zmg zsp zjn (vp_updL xo (Int32.toNatClampNeg 0) r4)) H := hP
    have hD : va_D A (wB cI cJ ad ao zk zm zb zs zr zu zt zf zg zbd zro zmc zmg zsp zjn (vp_updL xo (Int32.toNatClampNeg 0) r4)) := hD
    refine lv_goto (tgt := 14) hx hb dL_guess_8 (by decide) ?_
    refine lv_iconst (v := 0) hx hb dL_guess_14 (by decide) ?_
    cases o2 hm
    refine W.widen (k := 1) (n := 6) (Nat.le_of_ble_eq_true rfl) (Nat.le_of_ble_eq_true rfl) ?_
    exact W.iret hx hb hr (fun t ht hW => ⟨⟨_, (), rfl, rfl, by rw [ht]; exact hP, va_K.moved hW.alike hK, hD⟩, hS.F ht⟩) hS.2.2 dL_guess_15
set_option maxHeartbeats 4000000 in
set_option maxRecDepth 100000 in
theorem c_L_looks (l : Launch) (dC : Nat → ClassId) (dI : Nat → Nat → Nat) (cI : ClassId) (cJ : ClassId) (ad : Nat → Nat) (ao : Nat) (zk : zN) (zm : zN) (zb : zN) (zs : zN) (zr : zN) (zu : zN) (zt : zT) (zf : zN) (zg : zN) (zbd : Int32) (zro : Int32) (zmc : Int32) (zmg : Int32) (zsp : Int32) (zjn : Int32) (xo : Nat → Int64) (F : Nat) (p2 : Int32) (sz : Nat) (sa : Nat → Nat) (hl9 : l.stackTraces = false) (r : Int32) (u_xo : Nat → Int64) (hm : L_looks F zk zs zr zu zbd xo p2 = some (r, u_xo)) : Met l yL_looks wsL_looks ({ frames := 8, cells := 1, slots := 6, locals := 141 }) (va_Pc [.ref (ad 0), .int p2, .ref ao] (zH (dC, dI) (wB cI cJ ad ao zk zm zb zs zr zu zt zf zg zbd zro zmc zmg zsp zjn xo) [(cI, .int), (cJ, .long)] sz sa)) (zQi (dC, dI) (wB cI cJ ad ao zk zm zb zs zr zu zt zf zg zbd zro zmc zmg zsp zjn u_xo) [(cI, .int), (cJ, .long)] (va_A (wB cI cJ ad ao zk zm zb zs zr zu zt zf zg zbd zro zmc zmg zsp zjn xo) sz) r) 1 6 (va_A (wB cI cJ ad ao zk zm zb zs zr zu zt zf zg zbd zro zmc zmg zsp zjn xo) sz) := by
  refine va_MetW (cc := cL_looks) (maxL := 4) (ret := (some .int)) (by decide) rfl ?_
  intro p e s m args below meth c s₁ B hml hv
  obtain ⟨rfl, ⟨⟨hsz, hP, hK, hD0⟩, hV⟩, hNc⟩ := hv
  have htab : c.exceptionTable.toList = tableOf [(0, 9, 12, 13)] := vx_table (x := yL_looks) B (atoms_spec (ws := wsL_looks) B.pre (.codeWith yL_looks cL_looks 4 (some .int) [(0, 9, 12, 13)]) List.mem_cons_self)
  have hx := B.exec
  have hb := B.bytes
  have hr := B.returns
  have hts := atoms_spec (ws := wsL_looks) B.pre
  have hown : s.vm.findClass RL = some m.cls := findClass_of_methodNamed B.named
  have hlocks := B.notSynchronized
  subst hsz
  have hD := hD0.self (sz := s.heap.size)
  generalize hAe : va_A (wB cI cJ ad ao zk zm zb zs zr zu zt zf zg zbd zro zmc zmg zsp zjn xo) s.heap.size = A at hD hV ⊢
  have hA : ∀ q : Nat, s.heap.size ≤ q → A q := fun q h => by rw [← hAe]; exact Or.inr h
  have hS : va_S A s.heap s.heap [] := va_S.rf
  generalize eL : ([] : List Loc) = locs at hS ⊢
  obtain ⟨H, eH⟩ : ∃ z : Heap, z = s.heap := ⟨_, rfl⟩
  have hP : va_P (dC, dI) vwCl (wB cI cJ ad ao zk zm zb zs zr zu zt zf zg zbd zro zmc zmg zsp zjn xo) H := by rw [eH]; exact hP
  have hS : va_S A s.heap H locs := by rw [eH]; exact hS
  refine z_heap eH ?_
  have hl := lv_entry ([.ref (ad 0), .int p2, .ref ao]) (n := 4) (Nat.le_of_ble_eq_true rfl)
  rw [lg_entry_eq]
  generalize (lg_sl ([.ref (ad 0), .int p2, .ref ao]) ++ List.replicate (4 - (lg_sl ([.ref (ad 0), .int p2, .ref ao])).length) Slot.unset).toArray = ls at hl ⊢
  have hl : lv_has ls 4 [(0, .ref (ad 0)), (1, .int p2), (2, .ref ao)] := hl
  have zw0 := hts (.classLink RL 13 "java/lang/IllegalArgumentException") (List.mem_cons_of_mem _ (List.mem_append_left _ (List.mem_append_left _ (List.mem_append_left _ (List.mem_append_left _ (List.mem_of_getElem? (i := 0) rfl))))))
  refine lv_aload_n hx hb dL_looks_0 rfl (lv_at hl 2 rfl) ?_
  refine lv_iconst (v := 0) hx hb dL_looks_1 (by decide) ?_
  refine lv_aload_n hx hb dL_looks_2 rfl (lv_at hl 0 rfl) ?_
  refine lv_iload_n hx hb dL_looks_3 rfl (lv_at hl 1 rfl) ?_
  obtain ⟨z_4, h_4, hm⟩ := ob hm
  refine z_xVi (U := Unit) (w1 := fun u_ => (wL cI ad zk zm zb zs zr zu zt zf zg zbd zro zmc zmg zsp zjn)) (ws' := fun u_ => (wB cI cJ ad ao zk zm zb zs zr zu zt zf zg zbd zro zmc zmg zsp zjn xo)) (As := [.int p2]) (rest := [.int 0, .ref ao]) (wc := (wL cI ad zk zm zb zs zr zu zt zf zg zbd zro zmc zmg zsp zjn)) (ws := (wB cI cJ ad ao zk zm zb zs zr zu zt zf zg zbd zro zmc zmg zsp zjn xo)) (ci := 2) (q := (RX2, TX2, 15)) ⟨hx, hb, hml, hown, hts⟩ (c_X2_looks l dC dI cI ad zk zm zb zs zr zu zt zf zg zbd zro zmc zmg zsp zjn F p2 H.size sa hl9 z_4 h_4) (cwV 1 hts gL_looks_X2_looks rfl rfl rfl kv_X2_looks ⟨(Nat.le_of_ble_eq_true rfl), (Nat.le_of_ble_eq_true rfl)⟩) hV (hK.sub (tys' := [(cI, .int)]) [0] rfl) hP hD hS hA (pjB_L cI cJ ad ao zk zm zb zs zr zu zt zf zg zbd zro zmc zmg zsp zjn xo zk zm zb zs zr zu zt zf zg zbd zro zmc zmg zsp zjn) (fun u_ => (pjB_L cI cJ ad ao zk zm zb zs zr zu zt zf zg zbd zro zmc zmg zsp zjn xo zk zm zb zs zr zu zt zf zg zbd zro zmc zmg zsp zjn)) (fun u_ => ((paL cI ad zk zm zb zs zr zu zt zf zg zbd zro zmc zmg zsp zjn).trans (paL cI ad zk zm zb zs zr zu zt zf zg zbd zro zmc zmg zsp zjn).symm)) rfl rfl rfl rfl hl.1 rfl (Nat.le_of_ble_eq_true rfl) dL_looks_4 ⟨(Nat.le_of_ble_eq_true rfl), (Nat.le_of_ble_eq_true rfl)⟩ (fun k ce q9 H locs ez hP hS hce hcv hcl => ?_) (fun r4 u_4 H locs hw hP hD hS => ?_)
  · rw [ez] at hm
    by_cases hk1 : k = 1
    · have hm := it_t hm hk1
      subst hk1
      refine vx_catch hown [] { startPc := 0, endPc := 9, handlerPc := 12, catchType := 13 } [] (htab.trans rfl) (fun z hz => absurd hz List.not_mem_nil) (by decide) (by decide) zw0 (zV_ng hV (.castable (xN 1) (xN 1)) (by decide +kernel)) hce hcv hcl ?_
      refine lv_astore_n (lv' := [(3, .ref q9), (0, .ref (ad 0)), (1, .int p2), (2, .ref ao)]) hx hb dL_looks_12 rfl hl (by decide) rfl (fun ls hl => ?_)
      refine lv_iconst (v := 1) hx hb dL_looks_13 (by decide) ?_
      cases o2 hm
      refine W.widen (k := 1) (n := 6) (Nat.le_of_ble_eq_true rfl) (Nat.le_of_ble_eq_true rfl) ?_
      exact W.iret hx hb hr (fun t ht hW => ⟨⟨_, (), rfl, rfl, by rw [ht]; exact hP, va_K.moved hW.alike hK, hD⟩, hS.F ht⟩) hS.2.2 dL_looks_14
    have hm := it_f hm hk1
    cases hm
  · rw [hw] at hm
    have hP : va_P (dC, dI) vwCl (wB cI cJ ad ao zk zm zb zs zr zu zt zf zg zbd zro zmc zmg zsp zjn xo) H := hP
    have hD : va_D A (wB cI cJ ad ao zk zm zb zs zr zu zt zf zg zbd zro zmc zmg zsp zjn xo) := hD
    refine lv_i2l hx hb dL_looks_7 rfl ?_
    obtain ⟨c_8, hm⟩ := ck hm
    refine va_last hx hb hK hP hD hS 18 1 rfl rfl c_8 dL_looks_8 (fun H locs hP hD hS => ?_)
    have hP : va_P (dC, dI) vwCl (wB cI cJ ad ao zk zm zb zs zr zu zt zf zg zbd zro zmc zmg zsp zjn (vp_updL xo (Int32.toNatClampNeg 0) (Int32.toInt64 r4))) H := hP
    have hD : va_D A (wB cI cJ ad ao zk zm zb zs zr zu zt zf zg zbd zro zmc zmg zsp zjn (vp_updL xo (Int32.toNatClampNeg 0) (Int32.toInt64 r4))) := hD
    refine lv_goto (tgt := 15) hx hb dL_looks_9 (by decide) ?_
    refine lv_iconst (v := 0) hx hb dL_looks_15 (by decide) ?_
    cases o2 hm
    refine W.widen (k := 1) (n := 6) (Nat.le_of_ble_eq_true rfl) (Nat.le_of_ble_eq_true rfl) ?_
    exact W.iret hx hb hr (fun t ht hW => ⟨⟨_, (), rfl, rfl, by rw [ht]; exact hP, va_K.moved hW.alike hK, hD⟩, hS.F ht⟩) hS.2.2 dL_looks_16
set_option maxHeartbeats 4000000 in
set_option maxRecDepth 100000 in
theorem c_L_start (l : Launch) (dC : Nat → ClassId) (dI : Nat → Nat → Nat) (cI : ClassId) (cJ : ClassId) (ad : Nat → Nat) (ao : Nat) (zk : zN) (zm : zN) (zb : zN) (zs : zN) (zr : zN) (zu : zN) (zt : zT) (zf : zN) (zg : zN) (zbd : Int32) (zro : Int32) (zmc : Int32) (zmg : Int32) (zsp : Int32) (zjn : Int32) (xo : Nat → Int64) (F : Nat) (p2 : Int32) (sz : Nat) (sa : Nat → Nat) (hl9 : l.stackTraces = false) (r : Int32) (u_xo : Nat → Int64) (hm : L_start F zs xo p2 = some (r, u_xo)) : Met l yL_start wsL_start ({ frames := 8, cells := 1, slots := 6, locals := 132 }) (va_Pc [.ref (ad 0), .int p2, .ref ao] (zH (dC, dI) (wB cI cJ ad ao zk zm zb zs zr zu zt zf zg zbd zro zmc zmg zsp zjn xo) [(cI, .int), (cJ, .long)] sz sa)) (zQi (dC, dI) (wB cI cJ ad ao zk zm zb zs zr zu zt zf zg zbd zro zmc zmg zsp zjn u_xo) [(cI, .int), (cJ, .long)] (va_A (wB cI cJ ad ao zk zm zb zs zr zu zt zf zg zbd zro zmc zmg zsp zjn xo) sz) r) 1 6 (va_A (wB cI cJ ad ao zk zm zb zs zr zu zt zf zg zbd zro zmc zmg zsp zjn xo) sz) := by
  refine va_MetW (cc := cL_start) (maxL := 4) (ret := (some .int)) (by decide) rfl ?_
  intro p e s m args below meth c s₁ B hml hv
  obtain ⟨rfl, ⟨⟨hsz, hP, hK, hD0⟩, hV⟩, hNc⟩ := hv
  have htab : c.exceptionTable.toList = tableOf [(0, 9, 12, 36)] := vx_table (x := yL_start) B (atoms_spec (ws := wsL_start) B.pre (.codeWith yL_start cL_start 4 (some .int) [(0, 9, 12, 36)]) List.mem_cons_self)
  have hx := B.exec
  have hb := B.bytes
  have hr := B.returns
  have hts := atoms_spec (ws := wsL_start) B.pre
  have hown : s.vm.findClass RL = some m.cls := findClass_of_methodNamed B.named
  have hlocks := B.notSynchronized
  subst hsz
  have hD := hD0.self (sz := s.heap.size)
  generalize hAe : va_A (wB cI cJ ad ao zk zm zb zs zr zu zt zf zg zbd zro zmc zmg zsp zjn xo) s.heap.size = A at hD hV ⊢
  have hA : ∀ q : Nat, s.heap.size ≤ q → A q := fun q h => by rw [← hAe]; exact Or.inr h
  have hS : va_S A s.heap s.heap [] := va_S.rf
  generalize eL : ([] : List Loc) = locs at hS ⊢
  obtain ⟨H, eH⟩ : ∃ z : Heap, z = s.heap := ⟨_, rfl⟩
  have hP : va_P (dC, dI) vwCl (wB cI cJ ad ao zk zm zb zs zr zu zt zf zg zbd zro zmc zmg zsp zjn xo) H := by rw [eH]; exact hP
  have hS : va_S A s.heap H locs := by rw [eH]; exact hS
  refine z_heap eH ?_
  have hl := lv_entry ([.ref (ad 0), .int p2, .ref ao]) (n := 4) (Nat.le_of_ble_eq_true rfl)
  rw [lg_entry_eq]
  generalize (lg_sl ([.ref (ad 0), .int p2, .ref ao]) ++ List.replicate (4 - (lg_sl ([.ref (ad 0), .int p2, .ref ao])).length) Slot.unset).toArray = ls at hl ⊢
  have hl : lv_has ls 4 [(0, .ref (ad 0)), (1, .int p2), (2, .ref ao)] := hl
  have zw0 := hts (.classLink RL 36 "java/lang/IndexOutOfBoundsException") (List.mem_cons_of_mem _ (List.mem_append_left _ (List.mem_append_left _ (List.mem_append_left _ (List.mem_append_left _ (List.mem_of_getElem? (i := 0) rfl))))))
  refine lv_aload_n hx hb dL_start_0 rfl (lv_at hl 2 rfl) ?_
  refine lv_iconst (v := 0) hx hb dL_start_1 (by decide) ?_
  refine lv_aload_n hx hb dL_start_2 rfl (lv_at hl 0 rfl) ?_
  refine lv_iload_n hx hb dL_start_3 rfl (lv_at hl 1 rfl) ?_
  obtain ⟨z_4, h_4, hm⟩ := ob hm
  refine z_xVi (U := Unit) (w1 := fun u_ => (wL cI ad zk zm zb zs zr zu zt zf zg zbd zro zmc zmg zsp zjn)) (ws' := fun u_ => (wB cI cJ ad ao zk zm zb zs zr zu zt zf zg zbd zro zmc zmg zsp zjn xo)) (As := [.int p2]) (rest := [.int 0, .ref ao]) (wc := (wL cI ad zk zm zb zs zr zu zt zf zg zbd zro zmc zmg zsp zjn)) (ws := (wB cI cJ ad ao zk zm zb zs zr zu zt zf zg zbd zro zmc zmg zsp zjn xo)) (ci := 2) (q := (RX2, TX2, 15)) ⟨hx, hb, hml, hown, hts⟩ (c_X2_start l dC dI cI ad zk zm zb zs zr zu zt zf zg zbd zro zmc zmg zsp zjn F p2 H.size sa hl9 z_4 h_4) (cwV 1 hts gL_start_X2_start rfl rfl rfl kv_X2_start ⟨(Nat.le_of_ble_eq_true rfl), (Nat.le_of_ble_eq_true rfl)⟩) hV (hK.sub (tys' := [(cI, .int)]) [0] rfl) hP hD hS hA (pjB_L cI cJ ad ao zk zm zb zs zr zu zt zf zg zbd zro zmc zmg zsp zjn xo zk zm zb zs zr zu zt zf zg zbd zro zmc zmg zsp zjn) (fun u_ => (pjB_L cI cJ ad ao zk zm zb zs zr zu zt zf zg zbd zro zmc zmg zsp zjn xo zk zm zb zs zr zu zt zf zg zbd zro zmc zmg zsp zjn)) (fun u_ => ((paL cI ad zk zm zb zs zr zu zt zf zg zbd zro zmc zmg zsp zjn).trans (paL cI ad zk zm zb zs zr zu zt zf zg zbd zro zmc zmg zsp zjn).symm)) rfl rfl rfl rfl hl.1 rfl (Nat.le_of_ble_eq_true rfl) dL_start_4 ⟨(Nat.le_of_ble_eq_true rfl), (Nat.le_of_ble_eq_true rfl)⟩ (fun k ce q9 H locs ez hP hS hce hcv hcl => ?_) (fun r4 u_4 H locs hw hP hD hS => ?_)
  · rw [ez] at hm
    by_cases hk3 : k = 3
    · have hm := it_t hm hk3
      subst hk3
      refine vx_catch hown [] { startPc := 0, endPc := 9, handlerPc := 12, catchType := 36 } [] (htab.trans rfl) (fun z hz => absurd hz List.not_mem_nil) (by decide) (by decide) zw0 (zV_ng hV (.castable (xN 3) (xN 3)) (by decide +kernel)) hce hcv hcl ?_
      refine lv_astore_n (lv' := [(3, .ref q9), (0, .ref (ad 0)), (1, .int p2), (2, .ref ao)]) hx hb dL_start_12 rfl hl (by decide) rfl (fun ls hl => ?_)
      refine lv_iconst (v := 1) hx hb dL_start_13 (by decide) ?_
      cases o2 hm
      refine W.widen (k := 1) (n := 6) (Nat.le_of_ble_eq_true rfl) (Nat.le_of_ble_eq_true rfl) ?_
      exact W.iret hx hb hr (fun t ht hW => ⟨⟨_, (), rfl, rfl, by rw [ht]; exact hP, va_K.moved hW.alike hK, hD⟩, hS.F ht⟩) hS.2.2 dL_start_14
    have hm := it_f hm hk3
    cases hm
  · rw [hw] at hm
    have hP : va_P (dC, dI) vwCl (wB cI cJ ad ao zk zm zb zs zr zu zt zf zg zbd zro zmc zmg zsp zjn xo) H := hP
    have hD : va_D A (wB cI cJ ad ao zk zm zb zs zr zu zt zf zg zbd zro zmc zmg zsp zjn xo) := hD
    refine lv_i2l hx hb dL_start_7 rfl ?_
    obtain ⟨c_8, hm⟩ := ck hm
    refine va_last hx hb hK hP hD hS 18 1 rfl rfl c_8 dL_start_8 (fun H locs hP hD hS => ?_)
    have hP : va_P (dC, dI) vwCl (wB cI cJ ad ao zk zm zb zs zr zu zt zf zg zbd zro zmc zmg zsp zjn (vp_updL xo (Int32.toNatClampNeg 0) (Int32.toInt64 r4))) H := hP
    have hD : va_D A (wB cI cJ ad ao zk zm zb zs zr zu zt zf zg zbd zro zmc zmg zsp zjn (vp_updL xo (Int32.toNatClampNeg 0) (Int32.toInt64 r4))) := hD
    refine lv_goto (tgt := 15) hx hb dL_start_9 (by decide) ?_
    refine lv_iconst (v := 0) hx hb dL_start_15 (by decide) ?_
    cases o2 hm
    refine W.widen (k := 1) (n := 6) (Nat.le_of_ble_eq_true rfl) (Nat.le_of_ble_eq_true rfl) ?_
    exact W.iret hx hb hr (fun t ht hW => ⟨⟨_, (), rfl, rfl, by rw [ht]; exact hP, va_K.moved hW.alike hK, hD⟩, hS.F ht⟩) hS.2.2 dL_start_16
set_option maxHeartbeats 4000000 in
set_option maxRecDepth 100000 in
theorem c_L_firstKey (l : Launch) (dC : Nat → ClassId) (dI : Nat → Nat → Nat) (cI : ClassId) (cJ : ClassId) (ad : Nat → Nat) (ao : Nat) (zk : zN) (zm : zN) (zb : zN) (zs : zN) (zr : zN) (zu : zN) (zt : zT) (zf : zN) (zg : zN) (zbd : Int32) (zro : Int32) (zmc : Int32) (zmg : Int32) (zsp : Int32) (zjn : Int32) (xo : Nat → Int64) (F : Nat) (p2 : Int32) (sz : Nat) (sa : Nat → Nat) (hl9 : l.stackTraces = false) (r : Int32) (u_xo : Nat → Int64) (hm : L_firstKey F zk zs xo p2 = some (r, u_xo)) : Met l yL_firstKey wsL_firstKey ({ frames := 8, cells := 1, slots := 6, locals := 132 }) (va_Pc [.ref (ad 0), .int p2, .ref ao] (zH (dC, dI) (wB cI cJ ad ao zk zm zb zs zr zu zt zf zg zbd zro zmc zmg zsp zjn xo) [(cI, .int), (cJ, .long)] sz sa)) (zQi (dC, dI) (wB cI cJ ad ao zk zm zb zs zr zu zt zf zg zbd zro zmc zmg zsp zjn u_xo) [(cI, .int), (cJ, .long)] (va_A (wB cI cJ ad ao zk zm zb zs zr zu zt zf zg zbd zro zmc zmg zsp zjn xo) sz) r) 1 6 (va_A (wB cI cJ ad ao zk zm zb zs zr zu zt zf zg zbd zro zmc zmg zsp zjn xo) sz) := by
  refine va_MetW (cc := cL_firstKey) (maxL := 4) (ret := (some .int)) (by decide) rfl ?_
  intro p e s m args below meth c s₁ B hml hv
  obtain ⟨rfl, ⟨⟨hsz, hP, hK, hD0⟩, hV⟩, hNc⟩ := hv
  have htab : c.exceptionTable.toList = tableOf [(0, 9, 12, 36)] := vx_table (x := yL_firstKey) B (atoms_spec (ws := wsL_firstKey) B.pre (.codeWith yL_firstKey cL_firstKey 4 (some .int) [(0, 9, 12, 36)]) List.mem_cons_self)
  have hx := B.exec
  have hb := B.bytes
  have hr := B.returns
  have hts := atoms_spec (ws := wsL_firstKey) B.pre
  have hown : s.vm.findClass RL = some m.cls := findClass_of_methodNamed B.named
  have hlocks := B.notSynchronized
  subst hsz
  have hD := hD0.self (sz := s.heap.size)
  generalize hAe : va_A (wB cI cJ ad ao zk zm zb zs zr zu zt zf zg zbd zro zmc zmg zsp zjn xo) s.heap.size = A at hD hV ⊢
  have hA : ∀ q : Nat, s.heap.size ≤ q → A q := fun q h => by rw [← hAe]; exact Or.inr h
  have hS : va_S A s.heap s.heap [] := va_S.rf
  generalize eL : ([] : List Loc) = locs at hS ⊢
  obtain ⟨H, eH⟩ : ∃ z : Heap, z = s.heap := ⟨_, rfl⟩
  have hP : va_P (dC, dI) vwCl (wB cI cJ ad ao zk zm zb zs zr zu zt zf zg zbd zro zmc zmg zsp zjn xo) H := by rw [eH]; exact hP
  have hS : va_S A s.heap H locs := by rw [eH]; exact hS
  refine z_heap eH ?_
  have hl := lv_entry ([.ref (ad 0), .int p2, .ref ao]) (n := 4) (Nat.le_of_ble_eq_true rfl)
  rw [lg_entry_eq]
  generalize (lg_sl ([.ref (ad 0), .int p2, .ref ao]) ++ List.replicate (4 - (lg_sl ([.ref (ad 0), .int p2, .ref ao])).length) Slot.unset).toArray = ls at hl ⊢
  have hl : lv_has ls 4 [(0, .ref (ad 0)), (1, .int p2), (2, .ref ao)] := hl
  have zw0 := hts (.classLink RL 36 "java/lang/IndexOutOfBoundsException") (List.mem_cons_of_mem _ (List.mem_append_left _ (List.mem_append_left _ (List.mem_append_left _ (List.mem_append_left _ (List.mem_of_getElem? (i := 0) rfl))))))
  refine lv_aload_n hx hb dL_firstKey_0 rfl (lv_at hl 2 rfl) ?_
  refine lv_iconst (v := 0) hx hb dL_firstKey_1 (by decide) ?_
  refine lv_aload_n hx hb dL_firstKey_2 rfl (lv_at hl 0 rfl) ?_
  refine lv_iload_n hx hb dL_firstKey_3 rfl (lv_at hl 1 rfl) ?_
  obtain ⟨z_4, h_4, hm⟩ := ob hm
  refine z_xVi (U := Unit) (w1 := fun u_ => (wL cI ad zk zm zb zs zr zu zt zf zg zbd zro zmc zmg zsp zjn)) (ws' := fun u_ => (wB cI cJ ad ao zk zm zb zs zr zu zt zf zg zbd zro zmc zmg zsp zjn xo)) (As := [.int p2]) (rest := [.int 0, .ref ao]) (wc := (wL cI ad zk zm zb zs zr zu zt zf zg zbd zro zmc zmg zsp zjn)) (ws := (wB cI cJ ad ao zk zm zb zs zr zu zt zf zg zbd zro zmc zmg zsp zjn xo)) (ci := 2) (q := (RX2, TX2, 15)) ⟨hx, hb, hml, hown, hts⟩ (c_X2_firstKey l dC dI cI ad zk zm zb zs zr zu zt zf zg zbd zro zmc zmg zsp zjn F p2 H.size sa hl9 z_4 h_4) (cwV 1 hts gL_firstKey_X2_firstKey rfl rfl rfl kv_X2_firstKey ⟨(Nat.le_of_ble_eq_true rfl), (Nat.le_of_ble_eq_true rfl)⟩) hV (hK.sub (tys' := [(cI, .int)]) [0] rfl) hP hD hS hA (pjB_L cI cJ ad ao zk zm zb zs zr zu zt zf zg zbd zro zmc zmg zsp zjn xo zk zm zb zs zr zu zt zf zg zbd zro zmc zmg zsp zjn) (fun u_ => (pjB_L cI cJ ad ao zk zm zb zs zr zu zt zf zg zbd zro zmc zmg zsp zjn xo zk zm zb zs zr zu zt zf zg zbd zro zmc zmg zsp zjn)) (fun u_ => ((paL cI ad zk zm zb zs zr zu zt zf zg zbd zro zmc zmg zsp zjn).trans (paL cI ad zk zm zb zs zr zu zt zf zg zbd zro zmc zmg zsp zjn).symm)) rfl rfl rfl rfl hl.1 rfl (Nat.le_of_ble_eq_true rfl) dL_firstKey_4 ⟨(Nat.le_of_ble_eq_true rfl), (Nat.le_of_ble_eq_true rfl)⟩ (fun k ce q9 H locs ez hP hS hce hcv hcl => ?_) (fun r4 u_4 H locs hw hP hD hS => ?_)
  · rw [ez] at hm
    by_cases hk3 : k = 3
    · have hm := it_t hm hk3
      subst hk3
      refine vx_catch hown [] { startPc := 0, endPc := 9, handlerPc := 12, catchType := 36 } [] (htab.trans rfl) (fun z hz => absurd hz List.not_mem_nil) (by decide) (by decide) zw0 (zV_ng hV (.castable (xN 3) (xN 3)) (by decide +kernel)) hce hcv hcl ?_
      refine lv_astore_n (lv' := [(3, .ref q9), (0, .ref (ad 0)), (1, .int p2), (2, .ref ao)]) hx hb dL_firstKey_12 rfl hl (by decide) rfl (fun ls hl => ?_)
      refine lv_iconst (v := 1) hx hb dL_firstKey_13 (by decide) ?_
      cases o2 hm
      refine W.widen (k := 1) (n := 6) (Nat.le_of_ble_eq_true rfl) (Nat.le_of_ble_eq_true rfl) ?_
      exact W.iret hx hb hr (fun t ht hW => ⟨⟨_, (), rfl, rfl, by rw [ht]; exact hP, va_K.moved hW.alike hK, hD⟩, hS.F ht⟩) hS.2.2 dL_firstKey_14
    have hm := it_f hm hk3
    cases hm
  · rw [hw] at hm
    have hP : va_P (dC, dI) vwCl (wB cI cJ ad ao zk zm zb zs zr zu zt zf zg zbd zro zmc zmg zsp zjn xo) H := hP
    have hD : va_D A (wB cI cJ ad ao zk zm zb zs zr zu zt zf zg zbd zro zmc zmg zsp zjn xo) := hD
    refine lv_i2l hx hb dL_firstKey_7 rfl ?_
    obtain ⟨c_8, hm⟩ := ck hm
    refine va_last hx hb hK hP hD hS 18 1 rfl rfl c_8 dL_firstKey_8 (fun H locs hP hD hS => ?_)
    have hP : va_P (dC, dI) vwCl (wB cI cJ ad ao zk zm zb zs zr zu zt zf zg zbd zro zmc zmg zsp zjn (vp_updL xo (Int32.toNatClampNeg 0) (Int32.toInt64 r4))) H := hP
    have hD : va_D A (wB cI cJ ad ao zk zm zb zs zr zu zt zf zg zbd zro zmc zmg zsp zjn (vp_updL xo (Int32.toNatClampNeg 0) (Int32.toInt64 r4))) := hD
    refine lv_goto (tgt := 15) hx hb dL_firstKey_9 (by decide) ?_
    refine lv_iconst (v := 0) hx hb dL_firstKey_15 (by decide) ?_
    cases o2 hm
    refine W.widen (k := 1) (n := 6) (Nat.le_of_ble_eq_true rfl) (Nat.le_of_ble_eq_true rfl) ?_
    exact W.iret hx hb hr (fun t ht hW => ⟨⟨_, (), rfl, rfl, by rw [ht]; exact hP, va_K.moved hW.alike hK, hD⟩, hS.F ht⟩) hS.2.2 dL_firstKey_16
set_option maxHeartbeats 4000000 in
set_option maxRecDepth 100000 in
theorem c_L_rise (l : Launch) (dC : Nat → ClassId) (dI : Nat → Nat → Nat) (cI : ClassId) (cJ : ClassId) (ad : Nat → Nat) (ao : Nat) (zk : zN) (zm : zN) (zb : zN) (zs : zN) (zr : zN) (zu : zN) (zt : zT) (zf : zN) (zg : zN) (zbd : Int32) (zro : Int32) (zmc : Int32) (zmg : Int32) (zsp : Int32) (zjn : Int32) (xo : Nat → Int64) (F : Nat) (p2 : Int32) (sz : Nat) (sa : Nat → Nat) (hl9 : l.stackTraces = false) (r : Int32) (u_xo : Nat → Int64) (hm : L_rise F zs zr xo p2 = some (r, u_xo)) : Met l yL_rise wsL_rise ({ frames := 8, cells := 1, slots := 6, locals := 132 }) (va_Pc [.ref (ad 0), .int p2, .ref ao] (zH (dC, dI) (wB cI cJ ad ao zk zm zb zs zr zu zt zf zg zbd zro zmc zmg zsp zjn xo) [(cI, .int), (cJ, .long)] sz sa)) (zQi (dC, dI) (wB cI cJ ad ao zk zm zb zs zr zu zt zf zg zbd zro zmc zmg zsp zjn u_xo) [(cI, .int), (cJ, .long)] (va_A (wB cI cJ ad ao zk zm zb zs zr zu zt zf zg zbd zro zmc zmg zsp zjn xo) sz) r) 1 6 (va_A (wB cI cJ ad ao zk zm zb zs zr zu zt zf zg zbd zro zmc zmg zsp zjn xo) sz) := by
  refine va_MetW (cc := cL_rise) (maxL := 4) (ret := (some .int)) (by decide) rfl ?_
  intro p e s m args below meth c s₁ B hml hv
  obtain ⟨rfl, ⟨⟨hsz, hP, hK, hD0⟩, hV⟩, hNc⟩ := hv
  have htab : c.exceptionTable.toList = tableOf [(0, 9, 12, 36)] := vx_table (x := yL_rise) B (atoms_spec (ws := wsL_rise) B.pre (.codeWith yL_rise cL_rise 4 (some .int) [(0, 9, 12, 36)]) List.mem_cons_self)
  have hx := B.exec
  have hb := B.bytes
  have hr := B.returns
  have hts := atoms_spec (ws := wsL_rise) B.pre
  have hown : s.vm.findClass RL = some m.cls := findClass_of_methodNamed B.named
  have hlocks := B.notSynchronized
  subst hsz
  have hD := hD0.self (sz := s.heap.size)
  generalize hAe : va_A (wB cI cJ ad ao zk zm zb zs zr zu zt zf zg zbd zro zmc zmg zsp zjn xo) s.heap.size = A at hD hV ⊢
  have hA : ∀ q : Nat, s.heap.size ≤ q → A q := fun q h => by rw [← hAe]; exact Or.inr h
  have hS : va_S A s.heap s.heap [] := va_S.rf
  generalize eL : ([] : List Loc) = locs at hS ⊢
  obtain ⟨H, eH⟩ : ∃ z : Heap, z = s.heap := ⟨_, rfl⟩
  have hP : va_P (dC, dI) vwCl (wB cI cJ ad ao zk zm zb zs zr zu zt zf zg zbd zro zmc zmg zsp zjn xo) H := by rw [eH]; exact hP
  have hS : va_S A s.heap H locs := by rw [eH]; exact hS
  refine z_heap eH ?_
  have hl := lv_entry ([.ref (ad 0), .int p2, .ref ao]) (n := 4) (Nat.le_of_ble_eq_true rfl)
  rw [lg_entry_eq]
  generalize (lg_sl ([.ref (ad 0), .int p2, .ref ao]) ++ List.replicate (4 - (lg_sl ([.ref (ad 0), .int p2, .ref ao])).length) Slot.unset).toArray = ls at hl ⊢
  have hl : lv_has ls 4 [(0, .ref (ad 0)), (1, .int p2), (2, .ref ao)] := hl
  have zw0 := hts (.classLink RL 36 "java/lang/IndexOutOfBoundsException") (List.mem_cons_of_mem _ (List.mem_append_left _ (List.mem_append_left _ (List.mem_append_left _ (List.mem_append_left _ (List.mem_of_getElem? (i := 0) rfl))))))
  refine lv_aload_n hx hb dL_rise_0 rfl (lv_at hl 2 rfl) ?_
  refine lv_iconst (v := 0) hx hb dL_rise_1 (by decide) ?_
  refine lv_aload_n hx hb dL_rise_2 rfl (lv_at hl 0 rfl) ?_
  refine lv_iload_n hx hb dL_rise_3 rfl (lv_at hl 1 rfl) ?_
  obtain ⟨z_4, h_4, hm⟩ := ob hm
  refine z_xVi (U := Unit) (w1 := fun u_ => (wL cI ad zk zm zb zs zr zu zt zf zg zbd zro zmc zmg zsp zjn)) (ws' := fun u_ => (wB cI cJ ad ao zk zm zb zs zr zu zt zf zg zbd zro zmc zmg zsp zjn xo)) (As := [.int p2]) (rest := [.int 0, .ref ao]) (wc := (wL cI ad zk zm zb zs zr zu zt zf zg zbd zro zmc zmg zsp zjn)) (ws := (wB cI cJ ad ao zk zm zb zs zr zu zt zf zg zbd zro zmc zmg zsp zjn xo)) (ci := 2) (q := (RX2, TX2, 15)) ⟨hx, hb, hml, hown, hts⟩ (c_X2_rise l dC dI cI ad zk zm zb zs zr zu zt zf zg zbd zro zmc zmg zsp zjn F p2 H.size sa hl9 z_4 h_4) (cwV 1 hts gL_rise_X2_rise rfl rfl rfl kv_X2_rise ⟨(Nat.le_of_ble_eq_true rfl), (Nat.le_of_ble_eq_true rfl)⟩) hV (hK.sub (tys' := [(cI, .int)]) [0] rfl) hP hD hS hA (pjB_L cI cJ ad ao zk zm zb zs zr zu zt zf zg zbd zro zmc zmg zsp zjn xo zk zm zb zs zr zu zt zf zg zbd zro zmc zmg zsp zjn) (fun u_ => (pjB_L cI cJ ad ao zk zm zb zs zr zu zt zf zg zbd zro zmc zmg zsp zjn xo zk zm zb zs zr zu zt zf zg zbd zro zmc zmg zsp zjn)) (fun u_ => ((paL cI ad zk zm zb zs zr zu zt zf zg zbd zro zmc zmg zsp zjn).trans (paL cI ad zk zm zb zs zr zu zt zf zg zbd zro zmc zmg zsp zjn).symm)) rfl rfl rfl rfl hl.1 rfl (Nat.le_of_ble_eq_true rfl) dL_rise_4 ⟨(Nat.le_of_ble_eq_true rfl), (Nat.le_of_ble_eq_true rfl)⟩ (fun k ce q9 H locs ez hP hS hce hcv hcl => ?_) (fun r4 u_4 H locs hw hP hD hS => ?_)
  · rw [ez] at hm
    by_cases hk3 : k = 3
    · have hm := it_t hm hk3
      subst hk3
      refine vx_catch hown [] { startPc := 0, endPc := 9, handlerPc := 12, catchType := 36 } [] (htab.trans rfl) (fun z hz => absurd hz List.not_mem_nil) (by decide) (by decide) zw0 (zV_ng hV (.castable (xN 3) (xN 3)) (by decide +kernel)) hce hcv hcl ?_
      refine lv_astore_n (lv' := [(3, .ref q9), (0, .ref (ad 0)), (1, .int p2), (2, .ref ao)]) hx hb dL_rise_12 rfl hl (by decide) rfl (fun ls hl => ?_)
      refine lv_iconst (v := 1) hx hb dL_rise_13 (by decide) ?_
      cases o2 hm
      refine W.widen (k := 1) (n := 6) (Nat.le_of_ble_eq_true rfl) (Nat.le_of_ble_eq_true rfl) ?_
      exact W.iret hx hb hr (fun t ht hW => ⟨⟨_, (), rfl, rfl, by rw [ht]; exact hP, va_K.moved hW.alike hK, hD⟩, hS.F ht⟩) hS.2.2 dL_rise_14
    have hm := it_f hm hk3
    cases hm
  · rw [hw] at hm
    have hP : va_P (dC, dI) vwCl (wB cI cJ ad ao zk zm zb zs zr zu zt zf zg zbd zro zmc zmg zsp zjn xo) H := hP
    have hD : va_D A (wB cI cJ ad ao zk zm zb zs zr zu zt zf zg zbd zro zmc zmg zsp zjn xo) := hD
    refine lv_i2l hx hb dL_rise_7 rfl ?_
    obtain ⟨c_8, hm⟩ := ck hm
    refine va_last hx hb hK hP hD hS 18 1 rfl rfl c_8 dL_rise_8 (fun H locs hP hD hS => ?_)
    have hP : va_P (dC, dI) vwCl (wB cI cJ ad ao zk zm zb zs zr zu zt zf zg zbd zro zmc zmg zsp zjn (vp_updL xo (Int32.toNatClampNeg 0) (Int32.toInt64 r4))) H := hP
    have hD : va_D A (wB cI cJ ad ao zk zm zb zs zr zu zt zf zg zbd zro zmc zmg zsp zjn (vp_updL xo (Int32.toNatClampNeg 0) (Int32.toInt64 r4))) := hD
    refine lv_goto (tgt := 15) hx hb dL_rise_9 (by decide) ?_
    refine lv_iconst (v := 0) hx hb dL_rise_15 (by decide) ?_
    cases o2 hm
    refine W.widen (k := 1) (n := 6) (Nat.le_of_ble_eq_true rfl) (Nat.le_of_ble_eq_true rfl) ?_
    exact W.iret hx hb hr (fun t ht hW => ⟨⟨_, (), rfl, rfl, by rw [ht]; exact hP, va_K.moved hW.alike hK, hD⟩, hS.F ht⟩) hS.2.2 dL_rise_16
set_option maxHeartbeats 4000000 in
set_option maxRecDepth 100000 in
theorem c_L_run (l : Launch) (dC : Nat → ClassId) (dI : Nat → Nat → Nat) (cI : ClassId) (cJ : ClassId) (ad : Nat → Nat) (ao : Nat) (zk : zN) (zm : zN) (zb : zN) (zs : zN) (zr : zN) (zu : zN) (zt : zT) (zf : zN) (zg : zN) (zbd : Int32) (zro : Int32) (zmc : Int32) (zmg : Int32) (zsp : Int32) (zjn : Int32) (xo : Nat → Int64) (F : Nat) (p2 : Int32) (sz : Nat) (sa : Nat → Nat) (hl9 : l.stackTraces = false) (r : Int32) (u_xo : Nat → Int64) (hm : L_run F zs zu xo p2 = some (r, u_xo)) : Met l yL_run wsL_run ({ frames := 8, cells := 1, slots := 6, locals := 132 }) (va_Pc [.ref (ad 0), .int p2, .ref ao] (zH (dC, dI) (wB cI cJ ad ao zk zm zb zs zr zu zt zf zg zbd zro zmc zmg zsp zjn xo) [(cI, .int), (cJ, .long)] sz sa)) (zQi (dC, dI) (wB cI cJ ad ao zk zm zb zs zr zu zt zf zg zbd zro zmc zmg zsp zjn u_xo) [(cI, .int), (cJ, .long)] (va_A (wB cI cJ ad ao zk zm zb zs zr zu zt zf zg zbd zro zmc zmg zsp zjn xo) sz) r) 1 6 (va_A (wB cI cJ ad ao zk zm zb zs zr zu zt zf zg zbd zro zmc zmg zsp zjn xo) sz) := by
  refine va_MetW (cc := cL_run) (maxL := 4) (ret := (some .int)) (by decide) rfl ?_
  intro p e s m args below meth c s₁ B hml hv
  obtain ⟨rfl, ⟨⟨hsz, hP, hK, hD0⟩, hV⟩, hNc⟩ := hv
  have htab : c.exceptionTable.toList = tableOf [(0, 9, 12, 36)] := vx_table (x := yL_run) B (atoms_spec (ws := wsL_run) B.pre (.codeWith yL_run cL_run 4 (some .int) [(0, 9, 12, 36)]) List.mem_cons_self)
  have hx := B.exec
  have hb := B.bytes
  have hr := B.returns
  have hts := atoms_spec (ws := wsL_run) B.pre
  have hown : s.vm.findClass RL = some m.cls := findClass_of_methodNamed B.named
  have hlocks := B.notSynchronized
  subst hsz
  have hD := hD0.self (sz := s.heap.size)
  generalize hAe : va_A (wB cI cJ ad ao zk zm zb zs zr zu zt zf zg zbd zro zmc zmg zsp zjn xo) s.heap.size = A at hD hV ⊢
  have hA : ∀ q : Nat, s.heap.size ≤ q → A q := fun q h => by rw [← hAe]; exact Or.inr h
  have hS : va_S A s.heap s.heap [] := va_S.rf
  generalize eL : ([] : List Loc) = locs at hS ⊢
  obtain ⟨H, eH⟩ : ∃ z : Heap, z = s.heap := ⟨_, rfl⟩
  have hP : va_P (dC, dI) vwCl (wB cI cJ ad ao zk zm zb zs zr zu zt zf zg zbd zro zmc zmg zsp zjn xo) H := by rw [eH]; exact hP
  have hS : va_S A s.heap H locs := by rw [eH]; exact hS
  refine z_heap eH ?_
  have hl := lv_entry ([.ref (ad 0), .int p2, .ref ao]) (n := 4) (Nat.le_of_ble_eq_true rfl)
  rw [lg_entry_eq]
  generalize (lg_sl ([.ref (ad 0), .int p2, .ref ao]) ++ List.replicate (4 - (lg_sl ([.ref (ad 0), .int p2, .ref ao])).length) Slot.unset).toArray = ls at hl ⊢
  have hl : lv_has ls 4 [(0, .ref (ad 0)), (1, .int p2), (2, .ref ao)] := hl
  have zw0 := hts (.classLink RL 36 "java/lang/IndexOutOfBoundsException") (List.mem_cons_of_mem _ (List.mem_append_left _ (List.mem_append_left _ (List.mem_append_left _ (List.mem_append_left _ (List.mem_of_getElem? (i := 0) rfl))))))
  refine lv_aload_n hx hb dL_run_0 rfl (lv_at hl 2 rfl) ?_
  refine lv_iconst (v := 0) hx hb dL_run_1 (by decide) ?_
  refine lv_aload_n hx hb dL_run_2 rfl (lv_at hl 0 rfl) ?_
  refine lv_iload_n hx hb dL_run_3 rfl (lv_at hl 1 rfl) ?_
  obtain ⟨z_4, h_4, hm⟩ := ob hm
  refine z_xVi (U := Unit) (w1 := fun u_ => (wL cI ad zk zm zb zs zr zu zt zf zg zbd zro zmc zmg zsp zjn)) (ws' := fun u_ => (wB cI cJ ad ao zk zm zb zs zr zu zt zf zg zbd zro zmc zmg zsp zjn xo)) (As := [.int p2]) (rest := [.int 0, .ref ao]) (wc := (wL cI ad zk zm zb zs zr zu zt zf zg zbd zro zmc zmg zsp zjn)) (ws := (wB cI cJ ad ao zk zm zb zs zr zu zt zf zg zbd zro zmc zmg zsp zjn xo)) (ci := 2) (q := (RX2, TX2, 15)) ⟨hx, hb, hml, hown, hts⟩ (c_X2_run l dC dI cI ad zk zm zb zs zr zu zt zf zg zbd zro zmc zmg zsp zjn F p2 H.size sa hl9 z_4 h_4) (cwV 1 hts gL_run_X2_run rfl rfl rfl kv_X2_run ⟨(Nat.le_of_ble_eq_true rfl), (Nat.le_of_ble_eq_true rfl)⟩) hV (hK.sub (tys' := [(cI, .int)]) [0] rfl) hP hD hS hA (pjB_L cI cJ ad ao zk zm zb zs zr zu zt zf zg zbd zro zmc zmg zsp zjn xo zk zm zb zs zr zu zt zf zg zbd zro zmc zmg zsp zjn) (fun u_ => (pjB_L cI cJ ad ao zk zm zb zs zr zu zt zf zg zbd zro zmc zmg zsp zjn xo zk zm zb zs zr zu zt zf zg zbd zro zmc zmg zsp zjn)) (fun u_ => ((paL cI ad zk zm zb zs zr zu zt zf zg zbd zro zmc zmg zsp zjn).trans (paL cI ad zk zm zb zs zr zu zt zf zg zbd zro zmc zmg zsp zjn).symm)) rfl rfl rfl rfl hl.1 rfl (Nat.le_of_ble_eq_true rfl) dL_run_4 ⟨(Nat.le_of_ble_eq_true rfl), (Nat.le_of_ble_eq_true rfl)⟩ (fun k ce q9 H locs ez hP hS hce hcv hcl => ?_) (fun r4 u_4 H locs hw hP hD hS => ?_)
  · rw [ez] at hm
    by_cases hk3 : k = 3
    · have hm := it_t hm hk3
      subst hk3
      refine vx_catch hown [] { startPc := 0, endPc := 9, handlerPc := 12, catchType := 36 } [] (htab.trans rfl) (fun z hz => absurd hz List.not_mem_nil) (by decide) (by decide) zw0 (zV_ng hV (.castable (xN 3) (xN 3)) (by decide +kernel)) hce hcv hcl ?_
      refine lv_astore_n (lv' := [(3, .ref q9), (0, .ref (ad 0)), (1, .int p2), (2, .ref ao)]) hx hb dL_run_12 rfl hl (by decide) rfl (fun ls hl => ?_)
      refine lv_iconst (v := 1) hx hb dL_run_13 (by decide) ?_
      cases o2 hm
      refine W.widen (k := 1) (n := 6) (Nat.le_of_ble_eq_true rfl) (Nat.le_of_ble_eq_true rfl) ?_
      exact W.iret hx hb hr (fun t ht hW => ⟨⟨_, (), rfl, rfl, by rw [ht]; exact hP, va_K.moved hW.alike hK, hD⟩, hS.F ht⟩) hS.2.2 dL_run_14
    have hm := it_f hm hk3
    cases hm
  · rw [hw] at hm
    have hP : va_P (dC, dI) vwCl (wB cI cJ ad ao zk zm zb zs zr zu zt zf zg zbd zro zmc zmg zsp zjn xo) H := hP
    have hD : va_D A (wB cI cJ ad ao zk zm zb zs zr zu zt zf zg zbd zro zmc zmg zsp zjn xo) := hD
    refine lv_i2l hx hb dL_run_7 rfl ?_
    obtain ⟨c_8, hm⟩ := ck hm
    refine va_last hx hb hK hP hD hS 18 1 rfl rfl c_8 dL_run_8 (fun H locs hP hD hS => ?_)
    have hP : va_P (dC, dI) vwCl (wB cI cJ ad ao zk zm zb zs zr zu zt zf zg zbd zro zmc zmg zsp zjn (vp_updL xo (Int32.toNatClampNeg 0) (Int32.toInt64 r4))) H := hP
    have hD : va_D A (wB cI cJ ad ao zk zm zb zs zr zu zt zf zg zbd zro zmc zmg zsp zjn (vp_updL xo (Int32.toNatClampNeg 0) (Int32.toInt64 r4))) := hD
    refine lv_goto (tgt := 15) hx hb dL_run_9 (by decide) ?_
    refine lv_iconst (v := 0) hx hb dL_run_15 (by decide) ?_
    cases o2 hm
    refine W.widen (k := 1) (n := 6) (Nat.le_of_ble_eq_true rfl) (Nat.le_of_ble_eq_true rfl) ?_
    exact W.iret hx hb hr (fun t ht hW => ⟨⟨_, (), rfl, rfl, by rw [ht]; exact hP, va_K.moved hW.alike hK, hD⟩, hS.F ht⟩) hS.2.2 dL_run_16
