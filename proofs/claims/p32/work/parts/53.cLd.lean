set_option maxHeartbeats 4000000 in
set_option maxRecDepth 100000 in
theorem c_L_refused (l : Launch) (dC : Nat → ClassId) (dI : Nat → Nat → Nat) (cI : ClassId) (ad : Nat → Nat) (zk : zN) (zm : zN) (zb : zN) (zs : zN) (zr : zN) (zu : zN) (zt : zT) (zf : zN) (zg : zN) (zbd : Int32) (zro : Int32) (zmc : Int32) (zmg : Int32) (zsp : Int32) (zjn : Int32) (F : Nat) (p2 : Int32) (p3 : Int32) (p4 : Int32) (sz : Nat) (sa : Nat → Nat) (hl9 : l.stackTraces = false) (r : Int32) (u_zk : zN) (u_zm : zN) (u_zb : zN) (u_zs : zN) (u_zr : zN) (u_zu : zN) (u_zt : zT) (u_zf : zN) (u_zg : zN) (u_zbd : Int32) (u_zro : Int32) (u_zmc : Int32) (u_zmg : Int32) (u_zsp : Int32) (u_zjn : Int32) (hm : L_refused F zk zm zb zs zr zu zt zf zg zbd zro zmc zmg zsp zjn p2 p3 p4 = some (r, u_zk, u_zm, u_zb, u_zs, u_zr, u_zu, u_zt, u_zf, u_zg, u_zbd, u_zro, u_zmc, u_zmg, u_zsp, u_zjn)) : Met l yL_refused wsL_refused ({ frames := 8, cells := 2, slots := 12, locals := 159 }) (va_Pc [.ref (ad 0), .int p2, .int p3, .int p4] (zH (dC, dI) (wL cI ad zk zm zb zs zr zu zt zf zg zbd zro zmc zmg zsp zjn) [(cI, .int)] sz sa)) (zQi (dC, dI) (wL cI ad u_zk u_zm u_zb u_zs u_zr u_zu u_zt u_zf u_zg u_zbd u_zro u_zmc u_zmg u_zsp u_zjn) [(cI, .int)] (va_A (wL cI ad zk zm zb zs zr zu zt zf zg zbd zro zmc zmg zsp zjn) sz) r) 2 12 (va_A (wL cI ad zk zm zb zs zr zu zt zf zg zbd zro zmc zmg zsp zjn) sz) := by
  refine va_MetW (cc := cL_refused) (maxL := 5) (ret := (some .int)) (by decide) rfl ?_
  intro p e s m args below meth c s₁ B hml hv
  obtain ⟨rfl, ⟨⟨hsz, hP, hK, hD0⟩, hV⟩, hNc⟩ := hv
  have htab : c.exceptionTable.toList = tableOf [(0, 85, 86, 53), (0, 85, 90, 55), (0, 85, 94, 57), (0, 85, 98, 59)] := vx_table (x := yL_refused) B (atoms_spec (ws := wsL_refused) B.pre (.codeWith yL_refused cL_refused 5 (some .int) [(0, 85, 86, 53), (0, 85, 90, 55), (0, 85, 94, 57), (0, 85, 98, 59)]) List.mem_cons_self)
  have hx := B.exec
  have hb := B.bytes
  have hr := B.returns
  have hts := atoms_spec (ws := wsL_refused) B.pre
  have hown : s.vm.findClass RL = some m.cls := findClass_of_methodNamed B.named
  have hlocks := B.notSynchronized
  subst hsz
  have hD := hD0.self (sz := s.heap.size)
  generalize hAe : va_A (wL cI ad zk zm zb zs zr zu zt zf zg zbd zro zmc zmg zsp zjn) s.heap.size = A at hD hV ⊢
  have hA : ∀ q : Nat, s.heap.size ≤ q → A q := fun q h => by rw [← hAe]; exact Or.inr h
  have hS : va_S A s.heap s.heap [] := va_S.rf
  generalize eL : ([] : List Loc) = locs at hS ⊢
  obtain ⟨H, eH⟩ : ∃ z : Heap, z = s.heap := ⟨_, rfl⟩
  have hP : va_P (dC, dI) vwCl (wL cI ad zk zm zb zs zr zu zt zf zg zbd zro zmc zmg zsp zjn) H := by rw [eH]; exact hP
  have hS : va_S A s.heap H locs := by rw [eH]; exact hS
  refine z_heap eH ?_
  have hl := lv_entry ([.ref (ad 0), .int p2, .int p3, .int p4]) (n := 5) (Nat.le_of_ble_eq_true rfl)
  rw [lg_entry_eq]
  generalize (lg_sl ([.ref (ad 0), .int p2, .int p3, .int p4]) ++ List.replicate (5 - (lg_sl ([.ref (ad 0), .int p2, .int p3, .int p4])).length) Slot.unset).toArray = ls at hl ⊢
  have hl : lv_has ls 5 [(0, .ref (ad 0)), (1, .int p2), (2, .int p3), (3, .int p4)] := hl
  have zw0 := hts (.classLink RL 53 "java/lang/IllegalArgumentException") (List.mem_cons_of_mem _ (List.mem_append_left _ (List.mem_append_left _ (List.mem_append_left _ (List.mem_append_left _ (List.mem_append_left _ (List.mem_append_left _ (List.mem_append_left _ (List.mem_append_left _ (List.mem_of_getElem? (i := 0) rfl))))))))))
  have zw1 := hts (.classLink RL 55 "java/lang/IllegalStateException") (List.mem_cons_of_mem _ (List.mem_append_left _ (List.mem_append_left _ (List.mem_append_left _ (List.mem_append_left _ (List.mem_append_left _ (List.mem_append_left _ (List.mem_append_left _ (List.mem_append_left _ (List.mem_of_getElem? (i := 1) rfl))))))))))
  have zw2 := hts (.classLink RL 57 "java/util/NoSuchElementException") (List.mem_cons_of_mem _ (List.mem_append_left _ (List.mem_append_left _ (List.mem_append_left _ (List.mem_append_left _ (List.mem_append_left _ (List.mem_append_left _ (List.mem_append_left _ (List.mem_append_left _ (List.mem_of_getElem? (i := 2) rfl))))))))))
  have zw3 := hts (.classLink RL 59 "java/lang/IndexOutOfBoundsException") (List.mem_cons_of_mem _ (List.mem_append_left _ (List.mem_append_left _ (List.mem_append_left _ (List.mem_append_left _ (List.mem_append_left _ (List.mem_append_left _ (List.mem_append_left _ (List.mem_append_left _ (List.mem_of_getElem? (i := 3) rfl))))))))))
  refine lv_iload_n hx hb dL_refused_0 rfl (lv_at hl 1 rfl) ?_
  refine lv_if_ne (tgt := 12) hx hb dL_refused_1 (by decide) (fun c_1 => ?_) (fun c_1 => ?_)
  · have hm := it_f hm c_1
    refine lv_iload_n hx hb dL_refused_12 rfl (lv_at hl 1 rfl) ?_
    refine lv_iconst (v := 1) hx hb dL_refused_13 (by decide) ?_
    refine lv_icmp_ne (tgt := 25) hx hb dL_refused_14 (by decide) (fun c_14 => ?_) (fun c_14 => ?_)
    · have hm := it_f hm c_14
      refine lv_iload_n hx hb dL_refused_25 rfl (lv_at hl 1 rfl) ?_
      refine lv_iconst (v := 2) hx hb dL_refused_26 (by decide) ?_
      refine lv_icmp_ne (tgt := 38) hx hb dL_refused_27 (by decide) (fun c_27 => ?_) (fun c_27 => ?_)
      · have hm := it_f hm c_27
        refine lv_iload_n hx hb dL_refused_38 rfl (lv_at hl 1 rfl) ?_
        refine lv_iconst (v := 3) hx hb dL_refused_39 (by decide) ?_
        refine lv_icmp_ne (tgt := 51) hx hb dL_refused_40 (by decide) (fun c_40 => ?_) (fun c_40 => ?_)
        · have hm := it_f hm c_40
          refine lv_iload_n hx hb dL_refused_51 rfl (lv_at hl 1 rfl) ?_
          refine lv_iconst (v := 4) hx hb dL_refused_52 (by decide) ?_
          refine lv_icmp_ne (tgt := 64) hx hb dL_refused_53 (by decide) (fun c_53 => ?_) (fun c_53 => ?_)
          · have hm := it_f hm c_53
            refine lv_iload_n hx hb dL_refused_64 rfl (lv_at hl 1 rfl) ?_
            refine lv_iconst (v := 5) hx hb dL_refused_65 (by decide) ?_
            refine lv_icmp_ne (tgt := 77) hx hb dL_refused_66 (by decide) (fun c_66 => ?_) (fun c_66 => ?_)
            · have hm := it_f hm c_66
              refine lv_aload_n hx hb dL_refused_77 rfl (lv_at hl 0 rfl) ?_
              refine lv_iload_n hx hb dL_refused_78 rfl (lv_at hl 2 rfl) ?_
              refine lv_iload_n hx hb dL_refused_79 rfl (lv_at hl 3 rfl) ?_
              obtain ⟨z_80, h_80, hm⟩ := ob hm
              refine z_xVi (U := zN × zN × zN × zN × zN × zN × zT × zN × Int32 × Int32 × Int32) (w1 := fun u_ => (wL cI ad u_.1 u_.2.1 u_.2.2.1 u_.2.2.2.1 u_.2.2.2.2.1 u_.2.2.2.2.2.1 u_.2.2.2.2.2.2.1 u_.2.2.2.2.2.2.2.1 zg u_.2.2.2.2.2.2.2.2.1 u_.2.2.2.2.2.2.2.2.2.1 u_.2.2.2.2.2.2.2.2.2.2 zmg zsp zjn)) (ws' := fun u_ => (wL cI ad u_.1 u_.2.1 u_.2.2.1 u_.2.2.2.1 u_.2.2.2.2.1 u_.2.2.2.2.2.1 u_.2.2.2.2.2.2.1 u_.2.2.2.2.2.2.2.1 zg u_.2.2.2.2.2.2.2.2.1 u_.2.2.2.2.2.2.2.2.2.1 u_.2.2.2.2.2.2.2.2.2.2 zmg zsp zjn)) (As := [.int p3, .int p4]) (rest := []) (wc := (wL cI ad zk zm zb zs zr zu zt zf zg zbd zro zmc zmg zsp zjn)) (ws := (wL cI ad zk zm zb zs zr zu zt zf zg zbd zro zmc zmg zsp zjn)) (ci := 2) (q := (RX2, TX2, 15)) ⟨hx, hb, hml, hown, hts⟩ (c_X2_rebuild l dC dI cI ad zk zm zb zs zr zu zt zf zg zbd zro zmc zmg zsp zjn F p3 p4 H.size sa hl9 z_80 h_80) (cwV 2 hts gL_refused_X2_rebuild rfl rfl rfl kv_X2_rebuild ⟨(Nat.le_of_ble_eq_true rfl), (Nat.le_of_ble_eq_true rfl)⟩) hV hK hP hD hS hA (z_spAll (wL cI ad zk zm zb zs zr zu zt zf zg zbd zro zmc zmg zsp zjn) (wL cI ad zk zm zb zs zr zu zt zf zg zbd zro zmc zmg zsp zjn)) (fun u_ => (z_spAll (wL cI ad zk zm zb zs zr zu zt zf zg zbd zro zmc zmg zsp zjn) (wL cI ad u_.1 u_.2.1 u_.2.2.1 u_.2.2.2.1 u_.2.2.2.2.1 u_.2.2.2.2.2.1 u_.2.2.2.2.2.2.1 u_.2.2.2.2.2.2.2.1 zg u_.2.2.2.2.2.2.2.2.1 u_.2.2.2.2.2.2.2.2.2.1 u_.2.2.2.2.2.2.2.2.2.2 zmg zsp zjn))) (fun u_ => ((paL cI ad u_.1 u_.2.1 u_.2.2.1 u_.2.2.2.1 u_.2.2.2.2.1 u_.2.2.2.2.2.1 u_.2.2.2.2.2.2.1 u_.2.2.2.2.2.2.2.1 zg u_.2.2.2.2.2.2.2.2.1 u_.2.2.2.2.2.2.2.2.2.1 u_.2.2.2.2.2.2.2.2.2.2 zmg zsp zjn).trans (paL cI ad zk zm zb zs zr zu zt zf zg zbd zro zmc zmg zsp zjn).symm)) rfl rfl rfl rfl hl.1 rfl (Nat.le_of_ble_eq_true rfl) dL_refused_80 ⟨(Nat.le_of_ble_eq_true rfl), (Nat.le_of_ble_eq_true rfl)⟩ (fun k ce q9 H locs ez hP hS hce hcv hcl => ?_) (fun r80 u_80 H locs hw hP hD hS => ?_)
              · rw [ez] at hm
                by_cases hk1 : k = 1
                · have hm := it_t hm hk1
                  subst hk1
                  refine vx_catch hown [] { startPc := 0, endPc := 85, handlerPc := 86, catchType := 53 } [{ startPc := 0, endPc := 85, handlerPc := 90, catchType := 55 }, { startPc := 0, endPc := 85, handlerPc := 94, catchType := 57 }, { startPc := 0, endPc := 85, handlerPc := 98, catchType := 59 }] (htab.trans rfl) (fun z hz => absurd hz List.not_mem_nil) (by decide) (by decide) zw0 (zV_ng hV (.castable (xN 1) (xN 1)) (by decide +kernel)) hce hcv hcl ?_
                  refine lv_astore (lv' := [(4, .ref q9), (0, .ref (ad 0)), (1, .int p2), (2, .int p3), (3, .int p4)]) hx hb dL_refused_86 hl (by decide) rfl (fun ls hl => ?_)
                  refine lv_iconst (v := 1) hx hb dL_refused_88 (by decide) ?_
                  cases o2 hm
                  refine W.widen (k := 2) (n := 12) (Nat.le_of_ble_eq_true rfl) (Nat.le_of_ble_eq_true rfl) ?_
                  exact W.iret hx hb hr (fun t ht hW => ⟨⟨_, (), rfl, rfl, by rw [ht]; exact hP, va_K.moved hW.alike hK, hD⟩, hS.F ht⟩) hS.2.2 dL_refused_89
                have hm := it_f hm hk1
                by_cases hk2 : k = 2
                · have hm := it_t hm hk2
                  subst hk2
                  refine vx_catch hown [{ startPc := 0, endPc := 85, handlerPc := 86, catchType := 53 }] { startPc := 0, endPc := 85, handlerPc := 90, catchType := 55 } [{ startPc := 0, endPc := 85, handlerPc := 94, catchType := 57 }, { startPc := 0, endPc := 85, handlerPc := 98, catchType := 59 }] (htab.trans rfl) (fun z hz => by simp only [List.mem_cons, List.not_mem_nil, or_false] at hz; rcases hz with rfl <;> first | exact Or.inr ⟨by decide, _, zw0, hNc.1⟩) (by decide) (by decide) zw1 (zV_ng hV (.castable (xN 2) (xN 2)) (by decide +kernel)) hce hcv hcl ?_
                  refine lv_astore (lv' := [(4, .ref q9), (0, .ref (ad 0)), (1, .int p2), (2, .int p3), (3, .int p4)]) hx hb dL_refused_90 hl (by decide) rfl (fun ls hl => ?_)
                  refine lv_iconst (v := 2) hx hb dL_refused_92 (by decide) ?_
                  cases o2 hm
                  refine W.widen (k := 2) (n := 12) (Nat.le_of_ble_eq_true rfl) (Nat.le_of_ble_eq_true rfl) ?_
                  exact W.iret hx hb hr (fun t ht hW => ⟨⟨_, (), rfl, rfl, by rw [ht]; exact hP, va_K.moved hW.alike hK, hD⟩, hS.F ht⟩) hS.2.2 dL_refused_93
                have hm := it_f hm hk2
                by_cases hk4 : k = 4
                · have hm := it_t hm hk4
                  subst hk4
                  refine vx_catch hown [{ startPc := 0, endPc := 85, handlerPc := 86, catchType := 53 }, { startPc := 0, endPc := 85, handlerPc := 90, catchType := 55 }] { startPc := 0, endPc := 85, handlerPc := 94, catchType := 57 } [{ startPc := 0, endPc := 85, handlerPc := 98, catchType := 59 }] (htab.trans rfl) (fun z hz => by simp only [List.mem_cons, List.not_mem_nil, or_false] at hz; rcases hz with rfl | rfl <;> first | exact Or.inr ⟨by decide, _, zw0, hNc.2.1⟩ | exact Or.inr ⟨by decide, _, zw1, hNc.2.2.1⟩) (by decide) (by decide) zw2 (zV_ng hV (.castable (xN 4) (xN 4)) (by decide +kernel)) hce hcv hcl ?_
                  refine lv_astore (lv' := [(4, .ref q9), (0, .ref (ad 0)), (1, .int p2), (2, .int p3), (3, .int p4)]) hx hb dL_refused_94 hl (by decide) rfl (fun ls hl => ?_)
                  refine lv_iconst (v := 3) hx hb dL_refused_96 (by decide) ?_
                  cases o2 hm
                  refine W.widen (k := 2) (n := 12) (Nat.le_of_ble_eq_true rfl) (Nat.le_of_ble_eq_true rfl) ?_
                  exact W.iret hx hb hr (fun t ht hW => ⟨⟨_, (), rfl, rfl, by rw [ht]; exact hP, va_K.moved hW.alike hK, hD⟩, hS.F ht⟩) hS.2.2 dL_refused_97
                have hm := it_f hm hk4
                by_cases hk3 : k = 3
                · have hm := it_t hm hk3
                  subst hk3
                  refine vx_catch hown [{ startPc := 0, endPc := 85, handlerPc := 86, catchType := 53 }, { startPc := 0, endPc := 85, handlerPc := 90, catchType := 55 }, { startPc := 0, endPc := 85, handlerPc := 94, catchType := 57 }] { startPc := 0, endPc := 85, handlerPc := 98, catchType := 59 } [] (htab.trans rfl) (fun z hz => by simp only [List.mem_cons, List.not_mem_nil, or_false] at hz; rcases hz with rfl | rfl | rfl <;> first | exact Or.inr ⟨by decide, _, zw0, hNc.2.2.2.1⟩ | exact Or.inr ⟨by decide, _, zw1, hNc.2.2.2.2.1⟩ | exact Or.inr ⟨by decide, _, zw2, hNc.2.2.2.2.2⟩) (by decide) (by decide) zw3 (zV_ng hV (.castable (xN 3) (xN 3)) (by decide +kernel)) hce hcv hcl ?_
                  refine lv_astore (lv' := [(4, .ref q9), (0, .ref (ad 0)), (1, .int p2), (2, .int p3), (3, .int p4)]) hx hb dL_refused_98 hl (by decide) rfl (fun ls hl => ?_)
                  refine lv_iconst (v := 4) hx hb dL_refused_100 (by decide) ?_
                  cases o2 hm
                  refine W.widen (k := 2) (n := 12) (Nat.le_of_ble_eq_true rfl) (Nat.le_of_ble_eq_true rfl) ?_
                  exact W.iret hx hb hr (fun t ht hW => ⟨⟨_, (), rfl, rfl, by rw [ht]; exact hP, va_K.moved hW.alike hK, hD⟩, hS.F ht⟩) hS.2.2 dL_refused_101
                have hm := it_f hm hk3
                cases hm
              · obtain ⟨zk80, zm80, zb80, zs80, zr80, zu80, zt80, zf80, zbd80, zro80, zmc80⟩ := u_80
                rw [hw] at hm
                have hP : va_P (dC, dI) vwCl (wL cI ad zk80 zm80 zb80 zs80 zr80 zu80 zt80 zf80 zg zbd80 zro80 zmc80 zmg zsp zjn) H := hP
                have hD : va_D A (wL cI ad zk80 zm80 zb80 zs80 zr80 zu80 zt80 zf80 zg zbd80 zro80 zmc80 zmg zsp zjn) := hD
                refine lv_iconst (v := 0) hx hb dL_refused_83 (by decide) ?_
                refine lv_imul hx hb dL_refused_84 ?_
                cases o2 hm
                refine W.widen (k := 2) (n := 12) (Nat.le_of_ble_eq_true rfl) (Nat.le_of_ble_eq_true rfl) ?_
                exact W.iret hx hb hr (fun t ht hW => ⟨⟨_, (), rfl, rfl, by rw [ht]; exact hP, va_K.moved hW.alike hK, hD⟩, hS.F ht⟩) hS.2.2 dL_refused_85
            · have hm := it_t hm c_66
              refine lv_aload_n hx hb dL_refused_69 rfl (lv_at hl 0 rfl) ?_
              refine lv_iload_n hx hb dL_refused_70 rfl (lv_at hl 2 rfl) ?_
              obtain ⟨z_71, h_71, hm⟩ := ob hm
              refine z_xVi (U := Unit) (w1 := fun u_ => (wL cI ad zk zm zb zs zr zu zt zf zg zbd zro zmc zmg zsp zjn)) (ws' := fun u_ => (wL cI ad zk zm zb zs zr zu zt zf zg zbd zro zmc zmg zsp zjn)) (As := [.int p3]) (rest := []) (wc := (wL cI ad zk zm zb zs zr zu zt zf zg zbd zro zmc zmg zsp zjn)) (ws := (wL cI ad zk zm zb zs zr zu zt zf zg zbd zro zmc zmg zsp zjn)) (ci := 2) (q := (RX2, TX2, 15)) ⟨hx, hb, hml, hown, hts⟩ (c_X2_start l dC dI cI ad zk zm zb zs zr zu zt zf zg zbd zro zmc zmg zsp zjn F p3 H.size sa hl9 z_71 h_71) (cwV 1 hts gL_refused_X2_start rfl rfl rfl kv_X2_start ⟨(Nat.le_of_ble_eq_true rfl), (Nat.le_of_ble_eq_true rfl)⟩) hV hK hP hD hS hA (z_spAll (wL cI ad zk zm zb zs zr zu zt zf zg zbd zro zmc zmg zsp zjn) (wL cI ad zk zm zb zs zr zu zt zf zg zbd zro zmc zmg zsp zjn)) (fun u_ => (z_spAll (wL cI ad zk zm zb zs zr zu zt zf zg zbd zro zmc zmg zsp zjn) (wL cI ad zk zm zb zs zr zu zt zf zg zbd zro zmc zmg zsp zjn))) (fun u_ => ((paL cI ad zk zm zb zs zr zu zt zf zg zbd zro zmc zmg zsp zjn).trans (paL cI ad zk zm zb zs zr zu zt zf zg zbd zro zmc zmg zsp zjn).symm)) rfl rfl rfl rfl hl.1 rfl (Nat.le_of_ble_eq_true rfl) dL_refused_71 ⟨(Nat.le_of_ble_eq_true rfl), (Nat.le_of_ble_eq_true rfl)⟩ (fun k ce q9 H locs ez hP hS hce hcv hcl => ?_) (fun r71 u_71 H locs hw hP hD hS => ?_)
              · rw [ez] at hm
                by_cases hk1 : k = 1
                · have hm := it_t hm hk1
                  subst hk1
                  refine vx_catch hown [] { startPc := 0, endPc := 85, handlerPc := 86, catchType := 53 } [{ startPc := 0, endPc := 85, handlerPc := 90, catchType := 55 }, { startPc := 0, endPc := 85, handlerPc := 94, catchType := 57 }, { startPc := 0, endPc := 85, handlerPc := 98, catchType := 59 }] (htab.trans rfl) (fun z hz => absurd hz List.not_mem_nil) (by decide) (by decide) zw0 (zV_ng hV (.castable (xN 1) (xN 1)) (by decide +kernel)) hce hcv hcl ?_
                  refine lv_astore (lv' := [(4, .ref q9), (0, .ref (ad 0)), (1, .int p2), (2, .int p3), (3, .int p4)]) hx hb dL_refused_86 hl (by decide) rfl (fun ls hl => ?_)
                  refine lv_iconst (v := 1) hx hb dL_refused_88 (by decide) ?_
                  cases o2 hm
                  refine W.widen (k := 2) (n := 12) (Nat.le_of_ble_eq_true rfl) (Nat.le_of_ble_eq_true rfl) ?_
                  exact W.iret hx hb hr (fun t ht hW => ⟨⟨_, (), rfl, rfl, by rw [ht]; exact hP, va_K.moved hW.alike hK, hD⟩, hS.F ht⟩) hS.2.2 dL_refused_89
                have hm := it_f hm hk1
                by_cases hk2 : k = 2
                · have hm := it_t hm hk2
                  subst hk2
                  refine vx_catch hown [{ startPc := 0, endPc := 85, handlerPc := 86, catchType := 53 }] { startPc := 0, endPc := 85, handlerPc := 90, catchType := 55 } [{ startPc := 0, endPc := 85, handlerPc := 94, catchType := 57 }, { startPc := 0, endPc := 85, handlerPc := 98, catchType := 59 }] (htab.trans rfl) (fun z hz => by simp only [List.mem_cons, List.not_mem_nil, or_false] at hz; rcases hz with rfl <;> first | exact Or.inr ⟨by decide, _, zw0, hNc.1⟩) (by decide) (by decide) zw1 (zV_ng hV (.castable (xN 2) (xN 2)) (by decide +kernel)) hce hcv hcl ?_
                  refine lv_astore (lv' := [(4, .ref q9), (0, .ref (ad 0)), (1, .int p2), (2, .int p3), (3, .int p4)]) hx hb dL_refused_90 hl (by decide) rfl (fun ls hl => ?_)
                  refine lv_iconst (v := 2) hx hb dL_refused_92 (by decide) ?_
                  cases o2 hm
                  refine W.widen (k := 2) (n := 12) (Nat.le_of_ble_eq_true rfl) (Nat.le_of_ble_eq_true rfl) ?_
                  exact W.iret hx hb hr (fun t ht hW => ⟨⟨_, (), rfl, rfl, by rw [ht]; exact hP, va_K.moved hW.alike hK, hD⟩, hS.F ht⟩) hS.2.2 dL_refused_93
                have hm := it_f hm hk2
                by_cases hk4 : k = 4
                · have hm := it_t hm hk4
                  subst hk4
                  refine vx_catch hown [{ startPc := 0, endPc := 85, handlerPc := 86, catchType := 53 }, { startPc := 0, endPc := 85, handlerPc := 90, catchType := 55 }] { startPc := 0, endPc := 85, handlerPc := 94, catchType := 57 } [{ startPc := 0, endPc := 85, handlerPc := 98, catchType := 59 }] (htab.trans rfl) (fun z hz => by simp only [List.mem_cons, List.not_mem_nil, or_false] at hz; rcases hz with rfl | rfl <;> first | exact Or.inr ⟨by decide, _, zw0, hNc.2.1⟩ | exact Or.inr ⟨by decide, _, zw1, hNc.2.2.1⟩) (by decide) (by decide) zw2 (zV_ng hV (.castable (xN 4) (xN 4)) (by decide +kernel)) hce hcv hcl ?_
                  refine lv_astore (lv' := [(4, .ref q9), (0, .ref (ad 0)), (1, .int p2), (2, .int p3), (3, .int p4)]) hx hb dL_refused_94 hl (by decide) rfl (fun ls hl => ?_)
                  refine lv_iconst (v := 3) hx hb dL_refused_96 (by decide) ?_
                  cases o2 hm
                  refine W.widen (k := 2) (n := 12) (Nat.le_of_ble_eq_true rfl) (Nat.le_of_ble_eq_true rfl) ?_
                  exact W.iret hx hb hr (fun t ht hW => ⟨⟨_, (), rfl, rfl, by rw [ht]; exact hP, va_K.moved hW.alike hK, hD⟩, hS.F ht⟩) hS.2.2 dL_refused_97
                have hm := it_f hm hk4
                by_cases hk3 : k = 3
                · have hm := it_t hm hk3
                  subst hk3
                  refine vx_catch hown [{ startPc := 0, endPc := 85, handlerPc := 86, catchType := 53 }, { startPc := 0, endPc := 85, handlerPc := 90, catchType := 55 }, { startPc := 0, endPc := 85, handlerPc := 94, catchType := 57 }] { startPc := 0, endPc := 85, handlerPc := 98, catchType := 59 } [] (htab.trans rfl) (fun z hz => by simp only [List.mem_cons, List.not_mem_nil, or_false] at hz; rcases hz with rfl | rfl | rfl <;> first | exact Or.inr ⟨by decide, _, zw0, hNc.2.2.2.1⟩ | exact Or.inr ⟨by decide, _, zw1, hNc.2.2.2.2.1⟩ | exact Or.inr ⟨by decide, _, zw2, hNc.2.2.2.2.2⟩) (by decide) (by decide) zw3 (zV_ng hV (.castable (xN 3) (xN 3)) (by decide +kernel)) hce hcv hcl ?_
                  refine lv_astore (lv' := [(4, .ref q9), (0, .ref (ad 0)), (1, .int p2), (2, .int p3), (3, .int p4)]) hx hb dL_refused_98 hl (by decide) rfl (fun ls hl => ?_)
                  refine lv_iconst (v := 4) hx hb dL_refused_100 (by decide) ?_
                  cases o2 hm
                  refine W.widen (k := 2) (n := 12) (Nat.le_of_ble_eq_true rfl) (Nat.le_of_ble_eq_true rfl) ?_
                  exact W.iret hx hb hr (fun t ht hW => ⟨⟨_, (), rfl, rfl, by rw [ht]; exact hP, va_K.moved hW.alike hK, hD⟩, hS.F ht⟩) hS.2.2 dL_refused_101
                have hm := it_f hm hk3
                cases hm
              · rw [hw] at hm
                have hP : va_P (dC, dI) vwCl (wL cI ad zk zm zb zs zr zu zt zf zg zbd zro zmc zmg zsp zjn) H := hP
                have hD : va_D A (wL cI ad zk zm zb zs zr zu zt zf zg zbd zro zmc zmg zsp zjn) := hD
                refine lv_goto (tgt := 83) hx hb dL_refused_74 (by decide) ?_
                refine lv_iconst (v := 0) hx hb dL_refused_83 (by decide) ?_
                refine lv_imul hx hb dL_refused_84 ?_
                cases o2 hm
                refine W.widen (k := 2) (n := 12) (Nat.le_of_ble_eq_true rfl) (Nat.le_of_ble_eq_true rfl) ?_
                exact W.iret hx hb hr (fun t ht hW => ⟨⟨_, (), rfl, rfl, by rw [ht]; exact hP, va_K.moved hW.alike hK, hD⟩, hS.F ht⟩) hS.2.2 dL_refused_85
          · have hm := it_t hm c_53
            refine lv_aload_n hx hb dL_refused_56 rfl (lv_at hl 0 rfl) ?_
            refine lv_iload_n hx hb dL_refused_57 rfl (lv_at hl 2 rfl) ?_
            obtain ⟨z_58, h_58, hm⟩ := ob hm
            refine z_xVi (U := zN) (w1 := fun u_ => (wL cI ad zk zm zb zs zr zu zt u_ zg zbd zro zmc zmg zsp zjn)) (ws' := fun u_ => (wL cI ad zk zm zb zs zr zu zt u_ zg zbd zro zmc zmg zsp zjn)) (As := [.int p3]) (rest := []) (wc := (wL cI ad zk zm zb zs zr zu zt zf zg zbd zro zmc zmg zsp zjn)) (ws := (wL cI ad zk zm zb zs zr zu zt zf zg zbd zro zmc zmg zsp zjn)) (ci := 2) (q := (RX2, TX2, 15)) ⟨hx, hb, hml, hown, hts⟩ (c_X2_ceiling l dC dI cI ad zk zm zb zs zr zu zt zf zg zbd zro zmc zmg zsp zjn F p3 H.size sa hl9 z_58 h_58) (cwV 1 hts gL_refused_X2_ceiling rfl rfl rfl kv_X2_ceiling ⟨(Nat.le_of_ble_eq_true rfl), (Nat.le_of_ble_eq_true rfl)⟩) hV hK hP hD hS hA (z_spAll (wL cI ad zk zm zb zs zr zu zt zf zg zbd zro zmc zmg zsp zjn) (wL cI ad zk zm zb zs zr zu zt zf zg zbd zro zmc zmg zsp zjn)) (fun u_ => (z_spAll (wL cI ad zk zm zb zs zr zu zt zf zg zbd zro zmc zmg zsp zjn) (wL cI ad zk zm zb zs zr zu zt u_ zg zbd zro zmc zmg zsp zjn))) (fun u_ => ((paL cI ad zk zm zb zs zr zu zt u_ zg zbd zro zmc zmg zsp zjn).trans (paL cI ad zk zm zb zs zr zu zt zf zg zbd zro zmc zmg zsp zjn).symm)) rfl rfl rfl rfl hl.1 rfl (Nat.le_of_ble_eq_true rfl) dL_refused_58 ⟨(Nat.le_of_ble_eq_true rfl), (Nat.le_of_ble_eq_true rfl)⟩ (fun k ce q9 H locs ez hP hS hce hcv hcl => ?_) (fun r58 u_58 H locs hw hP hD hS => ?_)
            · rw [ez] at hm
              by_cases hk1 : k = 1
              · have hm := it_t hm hk1
                subst hk1
                refine vx_catch hown [] { startPc := 0, endPc := 85, handlerPc := 86, catchType := 53 } [{ startPc := 0, endPc := 85, handlerPc := 90, catchType := 55 }, { startPc := 0, endPc := 85, handlerPc := 94, catchType := 57 }, { startPc := 0, endPc := 85, handlerPc := 98, catchType := 59 }] (htab.trans rfl) (fun z hz => absurd hz List.not_mem_nil) (by decide) (by decide) zw0 (zV_ng hV (.castable (xN 1) (xN 1)) (by decide +kernel)) hce hcv hcl ?_
                refine lv_astore (lv' := [(4, .ref q9), (0, .ref (ad 0)), (1, .int p2), (2, .int p3), (3, .int p4)]) hx hb dL_refused_86 hl (by decide) rfl (fun ls hl => ?_)
                refine lv_iconst (v := 1) hx hb dL_refused_88 (by decide) ?_
                cases o2 hm
                refine W.widen (k := 2) (n := 12) (Nat.le_of_ble_eq_true rfl) (Nat.le_of_ble_eq_true rfl) ?_
                exact W.iret hx hb hr (fun t ht hW => ⟨⟨_, (), rfl, rfl, by rw [ht]; exact hP, va_K.moved hW.alike hK, hD⟩, hS.F ht⟩) hS.2.2 dL_refused_89
              have hm := it_f hm hk1
              by_cases hk2 : k = 2
              · have hm := it_t hm hk2
                subst hk2
                refine vx_catch hown [{ startPc := 0, endPc := 85, handlerPc := 86, catchType := 53 }] { startPc := 0, endPc := 85, handlerPc := 90, catchType := 55 } [{ startPc := 0, endPc := 85, handlerPc := 94, catchType := 57 }, { startPc := 0, endPc := 85, handlerPc := 98, catchType := 59 }] (htab.trans rfl) (fun z hz => by simp only [List.mem_cons, List.not_mem_nil, or_false] at hz; rcases hz with rfl <;> first | exact Or.inr ⟨by decide, _, zw0, hNc.1⟩) (by decide) (by decide) zw1 (zV_ng hV (.castable (xN 2) (xN 2)) (by decide +kernel)) hce hcv hcl ?_
                refine lv_astore (lv' := [(4, .ref q9), (0, .ref (ad 0)), (1, .int p2), (2, .int p3), (3, .int p4)]) hx hb dL_refused_90 hl (by decide) rfl (fun ls hl => ?_)
                refine lv_iconst (v := 2) hx hb dL_refused_92 (by decide) ?_
                cases o2 hm
                refine W.widen (k := 2) (n := 12) (Nat.le_of_ble_eq_true rfl) (Nat.le_of_ble_eq_true rfl) ?_
                exact W.iret hx hb hr (fun t ht hW => ⟨⟨_, (), rfl, rfl, by rw [ht]; exact hP, va_K.moved hW.alike hK, hD⟩, hS.F ht⟩) hS.2.2 dL_refused_93
              have hm := it_f hm hk2
              by_cases hk4 : k = 4
              · have hm := it_t hm hk4
                subst hk4
                refine vx_catch hown [{ startPc := 0, endPc := 85, handlerPc := 86, catchType := 53 }, { startPc := 0, endPc := 85, handlerPc := 90, catchType := 55 }] { startPc := 0, endPc := 85, handlerPc := 94, catchType := 57 } [{ startPc := 0, endPc := 85, handlerPc := 98, catchType := 59 }] (htab.trans rfl) (fun z hz => by simp only [List.mem_cons, List.not_mem_nil, or_false] at hz; rcases hz with rfl | rfl <;> first | exact Or.inr ⟨by decide, _, zw0, hNc.2.1⟩ | exact Or.inr ⟨by decide, _, zw1, hNc.2.2.1⟩) (by decide) (by decide) zw2 (zV_ng hV (.castable (xN 4) (xN 4)) (by decide +kernel)) hce hcv hcl ?_
                refine lv_astore (lv' := [(4, .ref q9), (0, .ref (ad 0)), (1, .int p2), (2, .int p3), (3, .int p4)]) hx hb dL_refused_94 hl (by decide) rfl (fun ls hl => ?_)
                refine lv_iconst (v := 3) hx hb dL_refused_96 (by decide) ?_
                cases o2 hm
                refine W.widen (k := 2) (n := 12) (Nat.le_of_ble_eq_true rfl) (Nat.le_of_ble_eq_true rfl) ?_
                exact W.iret hx hb hr (fun t ht hW => ⟨⟨_, (), rfl, rfl, by rw [ht]; exact hP, va_K.moved hW.alike hK, hD⟩, hS.F ht⟩) hS.2.2 dL_refused_97
              have hm := it_f hm hk4
              by_cases hk3 : k = 3
              · have hm := it_t hm hk3
                subst hk3
                refine vx_catch hown [{ startPc := 0, endPc := 85, handlerPc := 86, catchType := 53 }, { startPc := 0, endPc := 85, handlerPc := 90, catchType := 55 }, { startPc := 0, endPc := 85, handlerPc := 94, catchType := 57 }] { startPc := 0, endPc := 85, handlerPc := 98, catchType := 59 } [] (htab.trans rfl) (fun z hz => by simp only [List.mem_cons, List.not_mem_nil, or_false] at hz; rcases hz with rfl | rfl | rfl <;> first | exact Or.inr ⟨by decide, _, zw0, hNc.2.2.2.1⟩ | exact Or.inr ⟨by decide, _, zw1, hNc.2.2.2.2.1⟩ | exact Or.inr ⟨by decide, _, zw2, hNc.2.2.2.2.2⟩) (by decide) (by decide) zw3 (zV_ng hV (.castable (xN 3) (xN 3)) (by decide +kernel)) hce hcv hcl ?_
                refine lv_astore (lv' := [(4, .ref q9), (0, .ref (ad 0)), (1, .int p2), (2, .int p3), (3, .int p4)]) hx hb dL_refused_98 hl (by decide) rfl (fun ls hl => ?_)
                refine lv_iconst (v := 4) hx hb dL_refused_100 (by decide) ?_
                cases o2 hm
                refine W.widen (k := 2) (n := 12) (Nat.le_of_ble_eq_true rfl) (Nat.le_of_ble_eq_true rfl) ?_
                exact W.iret hx hb hr (fun t ht hW => ⟨⟨_, (), rfl, rfl, by rw [ht]; exact hP, va_K.moved hW.alike hK, hD⟩, hS.F ht⟩) hS.2.2 dL_refused_101
              have hm := it_f hm hk3
              cases hm
            · obtain ⟨zf58, rfl⟩ : ∃ y, y = u_58 := ⟨_, rfl⟩
              rw [hw] at hm
              have hP : va_P (dC, dI) vwCl (wL cI ad zk zm zb zs zr zu zt zf58 zg zbd zro zmc zmg zsp zjn) H := hP
              have hD : va_D A (wL cI ad zk zm zb zs zr zu zt zf58 zg zbd zro zmc zmg zsp zjn) := hD
              refine lv_goto (tgt := 83) hx hb dL_refused_61 (by decide) ?_
              refine lv_iconst (v := 0) hx hb dL_refused_83 (by decide) ?_
              refine lv_imul hx hb dL_refused_84 ?_
              cases o2 hm
              refine W.widen (k := 2) (n := 12) (Nat.le_of_ble_eq_true rfl) (Nat.le_of_ble_eq_true rfl) ?_
              exact W.iret hx hb hr (fun t ht hW => ⟨⟨_, (), rfl, rfl, by rw [ht]; exact hP, va_K.moved hW.alike hK, hD⟩, hS.F ht⟩) hS.2.2 dL_refused_85
        · have hm := it_t hm c_40
          refine lv_aload_n hx hb dL_refused_43 rfl (lv_at hl 0 rfl) ?_
          refine lv_iload_n hx hb dL_refused_44 rfl (lv_at hl 2 rfl) ?_
          obtain ⟨z_45, h_45, hm⟩ := ob hm
          refine z_xVi (U := zN) (w1 := fun u_ => (wL cI ad zk zm zb zs zr zu zt u_ zg zbd zro zmc zmg zsp zjn)) (ws' := fun u_ => (wL cI ad zk zm zb zs zr zu zt u_ zg zbd zro zmc zmg zsp zjn)) (As := [.int p3]) (rest := []) (wc := (wL cI ad zk zm zb zs zr zu zt zf zg zbd zro zmc zmg zsp zjn)) (ws := (wL cI ad zk zm zb zs zr zu zt zf zg zbd zro zmc zmg zsp zjn)) (ci := 2) (q := (RX2, TX2, 15)) ⟨hx, hb, hml, hown, hts⟩ (c_X2_select l dC dI cI ad zk zm zb zs zr zu zt zf zg zbd zro zmc zmg zsp zjn F p3 H.size sa hl9 z_45 h_45) (cwV 1 hts gL_refused_X2_select rfl rfl rfl kv_X2_select ⟨(Nat.le_of_ble_eq_true rfl), (Nat.le_of_ble_eq_true rfl)⟩) hV hK hP hD hS hA (z_spAll (wL cI ad zk zm zb zs zr zu zt zf zg zbd zro zmc zmg zsp zjn) (wL cI ad zk zm zb zs zr zu zt zf zg zbd zro zmc zmg zsp zjn)) (fun u_ => (z_spAll (wL cI ad zk zm zb zs zr zu zt zf zg zbd zro zmc zmg zsp zjn) (wL cI ad zk zm zb zs zr zu zt u_ zg zbd zro zmc zmg zsp zjn))) (fun u_ => ((paL cI ad zk zm zb zs zr zu zt u_ zg zbd zro zmc zmg zsp zjn).trans (paL cI ad zk zm zb zs zr zu zt zf zg zbd zro zmc zmg zsp zjn).symm)) rfl rfl rfl rfl hl.1 rfl (Nat.le_of_ble_eq_true rfl) dL_refused_45 ⟨(Nat.le_of_ble_eq_true rfl), (Nat.le_of_ble_eq_true rfl)⟩ (fun k ce q9 H locs ez hP hS hce hcv hcl => ?_) (fun r45 u_45 H locs hw hP hD hS => ?_)
          · rw [ez] at hm
            by_cases hk1 : k = 1
            · have hm := it_t hm hk1
              subst hk1
              refine vx_catch hown [] { startPc := 0, endPc := 85, handlerPc := 86, catchType := 53 } [{ startPc := 0, endPc := 85, handlerPc := 90, catchType := 55 }, { startPc := 0, endPc := 85, handlerPc := 94, catchType := 57 }, { startPc := 0, endPc := 85, handlerPc := 98, catchType := 59 }] (htab.trans rfl) (fun z hz => absurd hz List.not_mem_nil) (by decide) (by decide) zw0 (zV_ng hV (.castable (xN 1) (xN 1)) (by decide +kernel)) hce hcv hcl ?_
              refine lv_astore (lv' := [(4, .ref q9), (0, .ref (ad 0)), (1, .int p2), (2, .int p3), (3, .int p4)]) hx hb dL_refused_86 hl (by decide) rfl (fun ls hl => ?_)
              refine lv_iconst (v := 1) hx hb dL_refused_88 (by decide) ?_
              cases o2 hm
              refine W.widen (k := 2) (n := 12) (Nat.le_of_ble_eq_true rfl) (Nat.le_of_ble_eq_true rfl) ?_
              exact W.iret hx hb hr (fun t ht hW => ⟨⟨_, (), rfl, rfl, by rw [ht]; exact hP, va_K.moved hW.alike hK, hD⟩, hS.F ht⟩) hS.2.2 dL_refused_89
            have hm := it_f hm hk1
            by_cases hk2 : k = 2
            · have hm := it_t hm hk2
              subst hk2
              refine vx_catch hown [{ startPc := 0, endPc := 85, handlerPc := 86, catchType := 53 }] { startPc := 0, endPc := 85, handlerPc := 90, catchType := 55 } [{ startPc := 0, endPc := 85, handlerPc := 94, catchType := 57 }, { startPc := 0, endPc := 85, handlerPc := 98, catchType := 59 }] (htab.trans rfl) (fun z hz => by simp only [List.mem_cons, List.not_mem_nil, or_false] at hz; rcases hz with rfl <;> first | exact Or.inr ⟨by decide, _, zw0, hNc.1⟩) (by decide) (by decide) zw1 (zV_ng hV (.castable (xN 2) (xN 2)) (by decide +kernel)) hce hcv hcl ?_
              refine lv_astore (lv' := [(4, .ref q9), (0, .ref (ad 0)), (1, .int p2), (2, .int p3), (3, .int p4)]) hx hb dL_refused_90 hl (by decide) rfl (fun ls hl => ?_)
              refine lv_iconst (v := 2) hx hb dL_refused_92 (by decide) ?_
              cases o2 hm
              refine W.widen (k := 2) (n := 12) (Nat.le_of_ble_eq_true rfl) (Nat.le_of_ble_eq_true rfl) ?_
              exact W.iret hx hb hr (fun t ht hW => ⟨⟨_, (), rfl, rfl, by rw [ht]; exact hP, va_K.moved hW.alike hK, hD⟩, hS.F ht⟩) hS.2.2 dL_refused_93
            have hm := it_f hm hk2
            by_cases hk4 : k = 4
            · have hm := it_t hm hk4
              subst hk4
              refine vx_catch hown [{ startPc := 0, endPc := 85, handlerPc := 86, catchType := 53 }, { startPc := 0, endPc := 85, handlerPc := 90, catchType := 55 }] { startPc := 0, endPc := 85, handlerPc := 94, catchType := 57 } [{ startPc := 0, endPc := 85, handlerPc := 98, catchType := 59 }] (htab.trans rfl) (fun z hz => by simp only [List.mem_cons, List.not_mem_nil, or_false] at hz; rcases hz with rfl | rfl <;> first | exact Or.inr ⟨by decide, _, zw0, hNc.2.1⟩ | exact Or.inr ⟨by decide, _, zw1, hNc.2.2.1⟩) (by decide) (by decide) zw2 (zV_ng hV (.castable (xN 4) (xN 4)) (by decide +kernel)) hce hcv hcl ?_
              refine lv_astore (lv' := [(4, .ref q9), (0, .ref (ad 0)), (1, .int p2), (2, .int p3), (3, .int p4)]) hx hb dL_refused_94 hl (by decide) rfl (fun ls hl => ?_)
              refine lv_iconst (v := 3) hx hb dL_refused_96 (by decide) ?_
              cases o2 hm
              refine W.widen (k := 2) (n := 12) (Nat.le_of_ble_eq_true rfl) (Nat.le_of_ble_eq_true rfl) ?_
              exact W.iret hx hb hr (fun t ht hW => ⟨⟨_, (), rfl, rfl, by rw [ht]; exact hP, va_K.moved hW.alike hK, hD⟩, hS.F ht⟩) hS.2.2 dL_refused_97
            have hm := it_f hm hk4
            by_cases hk3 : k = 3
            · have hm := it_t hm hk3
              subst hk3
              refine vx_catch hown [{ startPc := 0, endPc := 85, handlerPc := 86, catchType := 53 }, { startPc := 0, endPc := 85, handlerPc := 90, catchType := 55 }, { startPc := 0, endPc := 85, handlerPc := 94, catchType := 57 }] { startPc := 0, endPc := 85, handlerPc := 98, catchType := 59 } [] (htab.trans rfl) (fun z hz => by simp only [List.mem_cons, List.not_mem_nil, or_false] at hz; rcases hz with rfl | rfl | rfl <;> first | exact Or.inr ⟨by decide, _, zw0, hNc.2.2.2.1⟩ | exact Or.inr ⟨by decide, _, zw1, hNc.2.2.2.2.1⟩ | exact Or.inr ⟨by decide, _, zw2, hNc.2.2.2.2.2⟩) (by decide) (by decide) zw3 (zV_ng hV (.castable (xN 3) (xN 3)) (by decide +kernel)) hce hcv hcl ?_
              refine lv_astore (lv' := [(4, .ref q9), (0, .ref (ad 0)), (1, .int p2), (2, .int p3), (3, .int p4)]) hx hb dL_refused_98 hl (by decide) rfl (fun ls hl => ?_)
              refine lv_iconst (v := 4) hx hb dL_refused_100 (by decide) ?_
              cases o2 hm
              refine W.widen (k := 2) (n := 12) (Nat.le_of_ble_eq_true rfl) (Nat.le_of_ble_eq_true rfl) ?_
              exact W.iret hx hb hr (fun t ht hW => ⟨⟨_, (), rfl, rfl, by rw [ht]; exact hP, va_K.moved hW.alike hK, hD⟩, hS.F ht⟩) hS.2.2 dL_refused_101
            have hm := it_f hm hk3
            cases hm
          · obtain ⟨zf45, rfl⟩ : ∃ y, y = u_45 := ⟨_, rfl⟩
            rw [hw] at hm
            have hP : va_P (dC, dI) vwCl (wL cI ad zk zm zb zs zr zu zt zf45 zg zbd zro zmc zmg zsp zjn) H := hP
            have hD : va_D A (wL cI ad zk zm zb zs zr zu zt zf45 zg zbd zro zmc zmg zsp zjn) := hD
            refine lv_goto (tgt := 83) hx hb dL_refused_48 (by decide) ?_
            refine lv_iconst (v := 0) hx hb dL_refused_83 (by decide) ?_
            refine lv_imul hx hb dL_refused_84 ?_
            cases o2 hm
            refine W.widen (k := 2) (n := 12) (Nat.le_of_ble_eq_true rfl) (Nat.le_of_ble_eq_true rfl) ?_
            exact W.iret hx hb hr (fun t ht hW => ⟨⟨_, (), rfl, rfl, by rw [ht]; exact hP, va_K.moved hW.alike hK, hD⟩, hS.F ht⟩) hS.2.2 dL_refused_85
      · have hm := it_t hm c_27
        refine lv_aload_n hx hb dL_refused_30 rfl (lv_at hl 0 rfl) ?_
        refine lv_iload_n hx hb dL_refused_31 rfl (lv_at hl 2 rfl) ?_
        obtain ⟨z_32, h_32, hm⟩ := ob hm
        refine z_xVi (U := zN × zN × Int32) (w1 := fun u_ => (wL cI ad zk u_.1 u_.2.1 zs zr zu zt zf zg zbd zro u_.2.2 zmg zsp zjn)) (ws' := fun u_ => (wL cI ad zk u_.1 u_.2.1 zs zr zu zt zf zg zbd zro u_.2.2 zmg zsp zjn)) (As := [.int p3]) (rest := []) (wc := (wL cI ad zk zm zb zs zr zu zt zf zg zbd zro zmc zmg zsp zjn)) (ws := (wL cI ad zk zm zb zs zr zu zt zf zg zbd zro zmc zmg zsp zjn)) (ci := 2) (q := (RX2, TX2, 15)) ⟨hx, hb, hml, hown, hts⟩ (c_X2_remove l dC dI cI ad zk zm zb zs zr zu zt zf zg zbd zro zmc zmg zsp zjn F p3 H.size sa hl9 z_32 h_32) (cwV 1 hts gL_refused_X2_remove rfl rfl rfl kv_X2_remove ⟨(Nat.le_of_ble_eq_true rfl), (Nat.le_of_ble_eq_true rfl)⟩) hV hK hP hD hS hA (z_spAll (wL cI ad zk zm zb zs zr zu zt zf zg zbd zro zmc zmg zsp zjn) (wL cI ad zk zm zb zs zr zu zt zf zg zbd zro zmc zmg zsp zjn)) (fun u_ => (z_spAll (wL cI ad zk zm zb zs zr zu zt zf zg zbd zro zmc zmg zsp zjn) (wL cI ad zk u_.1 u_.2.1 zs zr zu zt zf zg zbd zro u_.2.2 zmg zsp zjn))) (fun u_ => ((paL cI ad zk u_.1 u_.2.1 zs zr zu zt zf zg zbd zro u_.2.2 zmg zsp zjn).trans (paL cI ad zk zm zb zs zr zu zt zf zg zbd zro zmc zmg zsp zjn).symm)) rfl rfl rfl rfl hl.1 rfl (Nat.le_of_ble_eq_true rfl) dL_refused_32 ⟨(Nat.le_of_ble_eq_true rfl), (Nat.le_of_ble_eq_true rfl)⟩ (fun k ce q9 H locs ez hP hS hce hcv hcl => ?_) (fun r32 u_32 H locs hw hP hD hS => ?_)
        · rw [ez] at hm
          by_cases hk1 : k = 1
          · have hm := it_t hm hk1
            subst hk1
            refine vx_catch hown [] { startPc := 0, endPc := 85, handlerPc := 86, catchType := 53 } [{ startPc := 0, endPc := 85, handlerPc := 90, catchType := 55 }, { startPc := 0, endPc := 85, handlerPc := 94, catchType := 57 }, { startPc := 0, endPc := 85, handlerPc := 98, catchType := 59 }] (htab.trans rfl) (fun z hz => absurd hz List.not_mem_nil) (by decide) (by decide) zw0 (zV_ng hV (.castable (xN 1) (xN 1)) (by decide +kernel)) hce hcv hcl ?_
            refine lv_astore (lv' := [(4, .ref q9), (0, .ref (ad 0)), (1, .int p2), (2, .int p3), (3, .int p4)]) hx hb dL_refused_86 hl (by decide) rfl (fun ls hl => ?_)
            refine lv_iconst (v := 1) hx hb dL_refused_88 (by decide) ?_
            cases o2 hm
            refine W.widen (k := 2) (n := 12) (Nat.le_of_ble_eq_true rfl) (Nat.le_of_ble_eq_true rfl) ?_
            exact W.iret hx hb hr (fun t ht hW => ⟨⟨_, (), rfl, rfl, by rw [ht]; exact hP, va_K.moved hW.alike hK, hD⟩, hS.F ht⟩) hS.2.2 dL_refused_89
          have hm := it_f hm hk1
          by_cases hk2 : k = 2
          · have hm := it_t hm hk2
            subst hk2
            refine vx_catch hown [{ startPc := 0, endPc := 85, handlerPc := 86, catchType := 53 }] { startPc := 0, endPc := 85, handlerPc := 90, catchType := 55 } [{ startPc := 0, endPc := 85, handlerPc := 94, catchType := 57 }, { startPc := 0, endPc := 85, handlerPc := 98, catchType := 59 }] (htab.trans rfl) (fun z hz => by simp only [List.mem_cons, List.not_mem_nil, or_false] at hz; rcases hz with rfl <;> first | exact Or.inr ⟨by decide, _, zw0, hNc.1⟩) (by decide) (by decide) zw1 (zV_ng hV (.castable (xN 2) (xN 2)) (by decide +kernel)) hce hcv hcl ?_
            refine lv_astore (lv' := [(4, .ref q9), (0, .ref (ad 0)), (1, .int p2), (2, .int p3), (3, .int p4)]) hx hb dL_refused_90 hl (by decide) rfl (fun ls hl => ?_)
            refine lv_iconst (v := 2) hx hb dL_refused_92 (by decide) ?_
            cases o2 hm
            refine W.widen (k := 2) (n := 12) (Nat.le_of_ble_eq_true rfl) (Nat.le_of_ble_eq_true rfl) ?_
            exact W.iret hx hb hr (fun t ht hW => ⟨⟨_, (), rfl, rfl, by rw [ht]; exact hP, va_K.moved hW.alike hK, hD⟩, hS.F ht⟩) hS.2.2 dL_refused_93
          have hm := it_f hm hk2
          by_cases hk4 : k = 4
          · have hm := it_t hm hk4
            subst hk4
            refine vx_catch hown [{ startPc := 0, endPc := 85, handlerPc := 86, catchType := 53 }, { startPc := 0, endPc := 85, handlerPc := 90, catchType := 55 }] { startPc := 0, endPc := 85, handlerPc := 94, catchType := 57 } [{ startPc := 0, endPc := 85, handlerPc := 98, catchType := 59 }] (htab.trans rfl) (fun z hz => by simp only [List.mem_cons, List.not_mem_nil, or_false] at hz; rcases hz with rfl | rfl <;> first | exact Or.inr ⟨by decide, _, zw0, hNc.2.1⟩ | exact Or.inr ⟨by decide, _, zw1, hNc.2.2.1⟩) (by decide) (by decide) zw2 (zV_ng hV (.castable (xN 4) (xN 4)) (by decide +kernel)) hce hcv hcl ?_
            refine lv_astore (lv' := [(4, .ref q9), (0, .ref (ad 0)), (1, .int p2), (2, .int p3), (3, .int p4)]) hx hb dL_refused_94 hl (by decide) rfl (fun ls hl => ?_)
            refine lv_iconst (v := 3) hx hb dL_refused_96 (by decide) ?_
            cases o2 hm
            refine W.widen (k := 2) (n := 12) (Nat.le_of_ble_eq_true rfl) (Nat.le_of_ble_eq_true rfl) ?_
            exact W.iret hx hb hr (fun t ht hW => ⟨⟨_, (), rfl, rfl, by rw [ht]; exact hP, va_K.moved hW.alike hK, hD⟩, hS.F ht⟩) hS.2.2 dL_refused_97
          have hm := it_f hm hk4
          by_cases hk3 : k = 3
          · have hm := it_t hm hk3
            subst hk3
            refine vx_catch hown [{ startPc := 0, endPc := 85, handlerPc := 86, catchType := 53 }, { startPc := 0, endPc := 85, handlerPc := 90, catchType := 55 }, { startPc := 0, endPc := 85, handlerPc := 94, catchType := 57 }] { startPc := 0, endPc := 85, handlerPc := 98, catchType := 59 } [] (htab.trans rfl) (fun z hz => by simp only [List.mem_cons, List.not_mem_nil, or_false] at hz; rcases hz with rfl | rfl | rfl <;> first | exact Or.inr ⟨by decide, _, zw0, hNc.2.2.2.1⟩ | exact Or.inr ⟨by decide, _, zw1, hNc.2.2.2.2.1⟩ | exact Or.inr ⟨by decide, _, zw2, hNc.2.2.2.2.2⟩) (by decide) (by decide) zw3 (zV_ng hV (.castable (xN 3) (xN 3)) (by decide +kernel)) hce hcv hcl ?_
            refine lv_astore (lv' := [(4, .ref q9), (0, .ref (ad 0)), (1, .int p2), (2, .int p3), (3, .int p4)]) hx hb dL_refused_98 hl (by decide) rfl (fun ls hl => ?_)
            refine lv_iconst (v := 4) hx hb dL_refused_100 (by decide) ?_
            cases o2 hm
            refine W.widen (k := 2) (n := 12) (Nat.le_of_ble_eq_true rfl) (Nat.le_of_ble_eq_true rfl) ?_
            exact W.iret hx hb hr (fun t ht hW => ⟨⟨_, (), rfl, rfl, by rw [ht]; exact hP, va_K.moved hW.alike hK, hD⟩, hS.F ht⟩) hS.2.2 dL_refused_101
          have hm := it_f hm hk3
          cases hm
        · obtain ⟨zm32, zb32, zmc32⟩ := u_32
          rw [hw] at hm
          have hP : va_P (dC, dI) vwCl (wL cI ad zk zm32 zb32 zs zr zu zt zf zg zbd zro zmc32 zmg zsp zjn) H := hP
          have hD : va_D A (wL cI ad zk zm32 zb32 zs zr zu zt zf zg zbd zro zmc32 zmg zsp zjn) := hD
          refine lv_goto (tgt := 83) hx hb dL_refused_35 (by decide) ?_
          refine lv_iconst (v := 0) hx hb dL_refused_83 (by decide) ?_
          refine lv_imul hx hb dL_refused_84 ?_
          cases o2 hm
          refine W.widen (k := 2) (n := 12) (Nat.le_of_ble_eq_true rfl) (Nat.le_of_ble_eq_true rfl) ?_
          exact W.iret hx hb hr (fun t ht hW => ⟨⟨_, (), rfl, rfl, by rw [ht]; exact hP, va_K.moved hW.alike hK, hD⟩, hS.F ht⟩) hS.2.2 dL_refused_85
    · have hm := it_t hm c_14
      refine lv_aload_n hx hb dL_refused_17 rfl (lv_at hl 0 rfl) ?_
      refine lv_iload_n hx hb dL_refused_18 rfl (lv_at hl 2 rfl) ?_
      obtain ⟨z_19, h_19, hm⟩ := ob hm
      refine z_xVi (U := zN × zN × zN × zN × zN × zN × zT × zN × zN × Int32 × Int32 × Int32 × Int32) (w1 := fun u_ => (wL cI ad u_.1 u_.2.1 u_.2.2.1 u_.2.2.2.1 u_.2.2.2.2.1 u_.2.2.2.2.2.1 u_.2.2.2.2.2.2.1 u_.2.2.2.2.2.2.2.1 u_.2.2.2.2.2.2.2.2.1 zbd zro u_.2.2.2.2.2.2.2.2.2.1 u_.2.2.2.2.2.2.2.2.2.2.1 u_.2.2.2.2.2.2.2.2.2.2.2.1 u_.2.2.2.2.2.2.2.2.2.2.2.2)) (ws' := fun u_ => (wL cI ad u_.1 u_.2.1 u_.2.2.1 u_.2.2.2.1 u_.2.2.2.2.1 u_.2.2.2.2.2.1 u_.2.2.2.2.2.2.1 u_.2.2.2.2.2.2.2.1 u_.2.2.2.2.2.2.2.2.1 zbd zro u_.2.2.2.2.2.2.2.2.2.1 u_.2.2.2.2.2.2.2.2.2.2.1 u_.2.2.2.2.2.2.2.2.2.2.2.1 u_.2.2.2.2.2.2.2.2.2.2.2.2)) (As := [.int p3]) (rest := []) (wc := (wL cI ad zk zm zb zs zr zu zt zf zg zbd zro zmc zmg zsp zjn)) (ws := (wL cI ad zk zm zb zs zr zu zt zf zg zbd zro zmc zmg zsp zjn)) (ci := 2) (q := (RX2, TX2, 15)) ⟨hx, hb, hml, hown, hts⟩ (c_X2_insert l dC dI cI ad zk zm zb zs zr zu zt zf zg zbd zro zmc zmg zsp zjn F p3 H.size sa hl9 z_19 h_19) (cwV 1 hts gL_refused_X2_insert rfl rfl rfl kv_X2_insert ⟨(Nat.le_of_ble_eq_true rfl), (Nat.le_of_ble_eq_true rfl)⟩) hV hK hP hD hS hA (z_spAll (wL cI ad zk zm zb zs zr zu zt zf zg zbd zro zmc zmg zsp zjn) (wL cI ad zk zm zb zs zr zu zt zf zg zbd zro zmc zmg zsp zjn)) (fun u_ => (z_spAll (wL cI ad zk zm zb zs zr zu zt zf zg zbd zro zmc zmg zsp zjn) (wL cI ad u_.1 u_.2.1 u_.2.2.1 u_.2.2.2.1 u_.2.2.2.2.1 u_.2.2.2.2.2.1 u_.2.2.2.2.2.2.1 u_.2.2.2.2.2.2.2.1 u_.2.2.2.2.2.2.2.2.1 zbd zro u_.2.2.2.2.2.2.2.2.2.1 u_.2.2.2.2.2.2.2.2.2.2.1 u_.2.2.2.2.2.2.2.2.2.2.2.1 u_.2.2.2.2.2.2.2.2.2.2.2.2))) (fun u_ => ((paL cI ad u_.1 u_.2.1 u_.2.2.1 u_.2.2.2.1 u_.2.2.2.2.1 u_.2.2.2.2.2.1 u_.2.2.2.2.2.2.1 u_.2.2.2.2.2.2.2.1 u_.2.2.2.2.2.2.2.2.1 zbd zro u_.2.2.2.2.2.2.2.2.2.1 u_.2.2.2.2.2.2.2.2.2.2.1 u_.2.2.2.2.2.2.2.2.2.2.2.1 u_.2.2.2.2.2.2.2.2.2.2.2.2).trans (paL cI ad zk zm zb zs zr zu zt zf zg zbd zro zmc zmg zsp zjn).symm)) rfl rfl rfl rfl hl.1 rfl (Nat.le_of_ble_eq_true rfl) dL_refused_19 ⟨(Nat.le_of_ble_eq_true rfl), (Nat.le_of_ble_eq_true rfl)⟩ (fun k ce q9 H locs ez hP hS hce hcv hcl => ?_) (fun r19 u_19 H locs hw hP hD hS => ?_)
      · rw [ez] at hm
        by_cases hk1 : k = 1
        · have hm := it_t hm hk1
          subst hk1
          refine vx_catch hown [] { startPc := 0, endPc := 85, handlerPc := 86, catchType := 53 } [{ startPc := 0, endPc := 85, handlerPc := 90, catchType := 55 }, { startPc := 0, endPc := 85, handlerPc := 94, catchType := 57 }, { startPc := 0, endPc := 85, handlerPc := 98, catchType := 59 }] (htab.trans rfl) (fun z hz => absurd hz List.not_mem_nil) (by decide) (by decide) zw0 (zV_ng hV (.castable (xN 1) (xN 1)) (by decide +kernel)) hce hcv hcl ?_
          refine lv_astore (lv' := [(4, .ref q9), (0, .ref (ad 0)), (1, .int p2), (2, .int p3), (3, .int p4)]) hx hb dL_refused_86 hl (by decide) rfl (fun ls hl => ?_)
          refine lv_iconst (v := 1) hx hb dL_refused_88 (by decide) ?_
          cases o2 hm
          refine W.widen (k := 2) (n := 12) (Nat.le_of_ble_eq_true rfl) (Nat.le_of_ble_eq_true rfl) ?_
          exact W.iret hx hb hr (fun t ht hW => ⟨⟨_, (), rfl, rfl, by rw [ht]; exact hP, va_K.moved hW.alike hK, hD⟩, hS.F ht⟩) hS.2.2 dL_refused_89
        have hm := it_f hm hk1
        by_cases hk2 : k = 2
        · have hm := it_t hm hk2
          subst hk2
          refine vx_catch hown [{ startPc := 0, endPc := 85, handlerPc := 86, catchType := 53 }] { startPc := 0, endPc := 85, handlerPc := 90, catchType := 55 } [{ startPc := 0, endPc := 85, handlerPc := 94, catchType := 57 }, { startPc := 0, endPc := 85, handlerPc := 98, catchType := 59 }] (htab.trans rfl) (fun z hz => by simp only [List.mem_cons, List.not_mem_nil, or_false] at hz; rcases hz with rfl <;> first | exact Or.inr ⟨by decide, _, zw0, hNc.1⟩) (by decide) (by decide) zw1 (zV_ng hV (.castable (xN 2) (xN 2)) (by decide +kernel)) hce hcv hcl ?_
          refine lv_astore (lv' := [(4, .ref q9), (0, .ref (ad 0)), (1, .int p2), (2, .int p3), (3, .int p4)]) hx hb dL_refused_90 hl (by decide) rfl (fun ls hl => ?_)
          refine lv_iconst (v := 2) hx hb dL_refused_92 (by decide) ?_
          cases o2 hm
          refine W.widen (k := 2) (n := 12) (Nat.le_of_ble_eq_true rfl) (Nat.le_of_ble_eq_true rfl) ?_
          exact W.iret hx hb hr (fun t ht hW => ⟨⟨_, (), rfl, rfl, by rw [ht]; exact hP, va_K.moved hW.alike hK, hD⟩, hS.F ht⟩) hS.2.2 dL_refused_93
        have hm := it_f hm hk2
        by_cases hk4 : k = 4
        · have hm := it_t hm hk4
          subst hk4
          refine vx_catch hown [{ startPc := 0, endPc := 85, handlerPc := 86, catchType := 53 }, { startPc := 0, endPc := 85, handlerPc := 90, catchType := 55 }] { startPc := 0, endPc := 85, handlerPc := 94, catchType := 57 } [{ startPc := 0, endPc := 85, handlerPc := 98, catchType := 59 }] (htab.trans rfl) (fun z hz => by simp only [List.mem_cons, List.not_mem_nil, or_false] at hz; rcases hz with rfl | rfl <;> first | exact Or.inr ⟨by decide, _, zw0, hNc.2.1⟩ | exact Or.inr ⟨by decide, _, zw1, hNc.2.2.1⟩) (by decide) (by decide) zw2 (zV_ng hV (.castable (xN 4) (xN 4)) (by decide +kernel)) hce hcv hcl ?_
          refine lv_astore (lv' := [(4, .ref q9), (0, .ref (ad 0)), (1, .int p2), (2, .int p3), (3, .int p4)]) hx hb dL_refused_94 hl (by decide) rfl (fun ls hl => ?_)
          refine lv_iconst (v := 3) hx hb dL_refused_96 (by decide) ?_
          cases o2 hm
          refine W.widen (k := 2) (n := 12) (Nat.le_of_ble_eq_true rfl) (Nat.le_of_ble_eq_true rfl) ?_
          exact W.iret hx hb hr (fun t ht hW => ⟨⟨_, (), rfl, rfl, by rw [ht]; exact hP, va_K.moved hW.alike hK, hD⟩, hS.F ht⟩) hS.2.2 dL_refused_97
        have hm := it_f hm hk4
        by_cases hk3 : k = 3
        · have hm := it_t hm hk3
          subst hk3
          refine vx_catch hown [{ startPc := 0, endPc := 85, handlerPc := 86, catchType := 53 }, { startPc := 0, endPc := 85, handlerPc := 90, catchType := 55 }, { startPc := 0, endPc := 85, handlerPc := 94, catchType := 57 }] { startPc := 0, endPc := 85, handlerPc := 98, catchType := 59 } [] (htab.trans rfl) (fun z hz => by simp only [List.mem_cons, List.not_mem_nil, or_false] at hz; rcases hz with rfl | rfl | rfl <;> first | exact Or.inr ⟨by decide, _, zw0, hNc.2.2.2.1⟩ | exact Or.inr ⟨by decide, _, zw1, hNc.2.2.2.2.1⟩ | exact Or.inr ⟨by decide, _, zw2, hNc.2.2.2.2.2⟩) (by decide) (by decide) zw3 (zV_ng hV (.castable (xN 3) (xN 3)) (by decide +kernel)) hce hcv hcl ?_
          refine lv_astore (lv' := [(4, .ref q9), (0, .ref (ad 0)), (1, .int p2), (2, .int p3), (3, .int p4)]) hx hb dL_refused_98 hl (by decide) rfl (fun ls hl => ?_)
          refine lv_iconst (v := 4) hx hb dL_refused_100 (by decide) ?_
          cases o2 hm
          refine W.widen (k := 2) (n := 12) (Nat.le_of_ble_eq_true rfl) (Nat.le_of_ble_eq_true rfl) ?_
          exact W.iret hx hb hr (fun t ht hW => ⟨⟨_, (), rfl, rfl, by rw [ht]; exact hP, va_K.moved hW.alike hK, hD⟩, hS.F ht⟩) hS.2.2 dL_refused_101
        have hm := it_f hm hk3
        cases hm
      · obtain ⟨zk19, zm19, zb19, zs19, zr19, zu19, zt19, zf19, zg19, zmc19, zmg19, zsp19, zjn19⟩ := u_19
        rw [hw] at hm
        have hP : va_P (dC, dI) vwCl (wL cI ad zk19 zm19 zb19 zs19 zr19 zu19 zt19 zf19 zg19 zbd zro zmc19 zmg19 zsp19 zjn19) H := hP
        have hD : va_D A (wL cI ad zk19 zm19 zb19 zs19 zr19 zu19 zt19 zf19 zg19 zbd zro zmc19 zmg19 zsp19 zjn19) := hD
        refine lv_goto (tgt := 83) hx hb dL_refused_22 (by decide) ?_
        refine lv_iconst (v := 0) hx hb dL_refused_83 (by decide) ?_
        refine lv_imul hx hb dL_refused_84 ?_
        cases o2 hm
        refine W.widen (k := 2) (n := 12) (Nat.le_of_ble_eq_true rfl) (Nat.le_of_ble_eq_true rfl) ?_
        exact W.iret hx hb hr (fun t ht hW => ⟨⟨_, (), rfl, rfl, by rw [ht]; exact hP, va_K.moved hW.alike hK, hD⟩, hS.F ht⟩) hS.2.2 dL_refused_85
  · have hm := it_t hm c_1
    refine lv_aload_n hx hb dL_refused_4 rfl (lv_at hl 0 rfl) ?_
    refine lv_iload_n hx hb dL_refused_5 rfl (lv_at hl 2 rfl) ?_
    obtain ⟨z_6, h_6, hm⟩ := ob hm
    refine z_xVi (U := zN × zN × zN × zN × zN × zT) (w1 := fun u_ => (wL cI ad u_.1 u_.2.1 zb u_.2.2.1 u_.2.2.2.1 u_.2.2.2.2.1 u_.2.2.2.2.2 zf zg zbd zro zmc zmg zsp zjn)) (ws' := fun u_ => (wL cI ad u_.1 u_.2.1 zb u_.2.2.1 u_.2.2.2.1 u_.2.2.2.2.1 u_.2.2.2.2.2 zf zg zbd zro zmc zmg zsp zjn)) (As := [.int p3]) (rest := []) (wc := (wL cI ad zk zm zb zs zr zu zt zf zg zbd zro zmc zmg zsp zjn)) (ws := (wL cI ad zk zm zb zs zr zu zt zf zg zbd zro zmc zmg zsp zjn)) (ci := 2) (q := (RX2, TX2, 15)) ⟨hx, hb, hml, hown, hts⟩ (c_X2_append l dC dI cI ad zk zm zb zs zr zu zt zf zg zbd zro zmc zmg zsp zjn F p3 H.size sa hl9 z_6 h_6) (cwV 1 hts gL_refused_X2_append rfl rfl rfl kv_X2_append ⟨(Nat.le_of_ble_eq_true rfl), (Nat.le_of_ble_eq_true rfl)⟩) hV hK hP hD hS hA (z_spAll (wL cI ad zk zm zb zs zr zu zt zf zg zbd zro zmc zmg zsp zjn) (wL cI ad zk zm zb zs zr zu zt zf zg zbd zro zmc zmg zsp zjn)) (fun u_ => (z_spAll (wL cI ad zk zm zb zs zr zu zt zf zg zbd zro zmc zmg zsp zjn) (wL cI ad u_.1 u_.2.1 zb u_.2.2.1 u_.2.2.2.1 u_.2.2.2.2.1 u_.2.2.2.2.2 zf zg zbd zro zmc zmg zsp zjn))) (fun u_ => ((paL cI ad u_.1 u_.2.1 zb u_.2.2.1 u_.2.2.2.1 u_.2.2.2.2.1 u_.2.2.2.2.2 zf zg zbd zro zmc zmg zsp zjn).trans (paL cI ad zk zm zb zs zr zu zt zf zg zbd zro zmc zmg zsp zjn).symm)) rfl rfl rfl rfl hl.1 rfl (Nat.le_of_ble_eq_true rfl) dL_refused_6 ⟨(Nat.le_of_ble_eq_true rfl), (Nat.le_of_ble_eq_true rfl)⟩ (fun k ce q9 H locs ez hP hS hce hcv hcl => ?_) (fun r6 u_6 H locs hw hP hD hS => ?_)
    · rw [ez] at hm
      by_cases hk1 : k = 1
      · have hm := it_t hm hk1
        subst hk1
        refine vx_catch hown [] { startPc := 0, endPc := 85, handlerPc := 86, catchType := 53 } [{ startPc := 0, endPc := 85, handlerPc := 90, catchType := 55 }, { startPc := 0, endPc := 85, handlerPc := 94, catchType := 57 }, { startPc := 0, endPc := 85, handlerPc := 98, catchType := 59 }] (htab.trans rfl) (fun z hz => absurd hz List.not_mem_nil) (by decide) (by decide) zw0 (zV_ng hV (.castable (xN 1) (xN 1)) (by decide +kernel)) hce hcv hcl ?_
        refine lv_astore (lv' := [(4, .ref q9), (0, .ref (ad 0)), (1, .int p2), (2, .int p3), (3, .int p4)]) hx hb dL_refused_86 hl (by decide) rfl (fun ls hl => ?_)
        refine lv_iconst (v := 1) hx hb dL_refused_88 (by decide) ?_
        cases o2 hm
        refine W.widen (k := 2) (n := 12) (Nat.le_of_ble_eq_true rfl) (Nat.le_of_ble_eq_true rfl) ?_
        exact W.iret hx hb hr (fun t ht hW => ⟨⟨_, (), rfl, rfl, by rw [ht]; exact hP, va_K.moved hW.alike hK, hD⟩, hS.F ht⟩) hS.2.2 dL_refused_89
      have hm := it_f hm hk1
      by_cases hk2 : k = 2
      · have hm := it_t hm hk2
        subst hk2
        refine vx_catch hown [{ startPc := 0, endPc := 85, handlerPc := 86, catchType := 53 }] { startPc := 0, endPc := 85, handlerPc := 90, catchType := 55 } [{ startPc := 0, endPc := 85, handlerPc := 94, catchType := 57 }, { startPc := 0, endPc := 85, handlerPc := 98, catchType := 59 }] (htab.trans rfl) (fun z hz => by simp only [List.mem_cons, List.not_mem_nil, or_false] at hz; rcases hz with rfl <;> first | exact Or.inr ⟨by decide, _, zw0, hNc.1⟩) (by decide) (by decide) zw1 (zV_ng hV (.castable (xN 2) (xN 2)) (by decide +kernel)) hce hcv hcl ?_
        refine lv_astore (lv' := [(4, .ref q9), (0, .ref (ad 0)), (1, .int p2), (2, .int p3), (3, .int p4)]) hx hb dL_refused_90 hl (by decide) rfl (fun ls hl => ?_)
        refine lv_iconst (v := 2) hx hb dL_refused_92 (by decide) ?_
        cases o2 hm
        refine W.widen (k := 2) (n := 12) (Nat.le_of_ble_eq_true rfl) (Nat.le_of_ble_eq_true rfl) ?_
        exact W.iret hx hb hr (fun t ht hW => ⟨⟨_, (), rfl, rfl, by rw [ht]; exact hP, va_K.moved hW.alike hK, hD⟩, hS.F ht⟩) hS.2.2 dL_refused_93
      have hm := it_f hm hk2
      by_cases hk4 : k = 4
      · have hm := it_t hm hk4
        subst hk4
        refine vx_catch hown [{ startPc := 0, endPc := 85, handlerPc := 86, catchType := 53 }, { startPc := 0, endPc := 85, handlerPc := 90, catchType := 55 }] { startPc := 0, endPc := 85, handlerPc := 94, catchType := 57 } [{ startPc := 0, endPc := 85, handlerPc := 98, catchType := 59 }] (htab.trans rfl) (fun z hz => by simp only [List.mem_cons, List.not_mem_nil, or_false] at hz; rcases hz with rfl | rfl <;> first | exact Or.inr ⟨by decide, _, zw0, hNc.2.1⟩ | exact Or.inr ⟨by decide, _, zw1, hNc.2.2.1⟩) (by decide) (by decide) zw2 (zV_ng hV (.castable (xN 4) (xN 4)) (by decide +kernel)) hce hcv hcl ?_
        refine lv_astore (lv' := [(4, .ref q9), (0, .ref (ad 0)), (1, .int p2), (2, .int p3), (3, .int p4)]) hx hb dL_refused_94 hl (by decide) rfl (fun ls hl => ?_)
        refine lv_iconst (v := 3) hx hb dL_refused_96 (by decide) ?_
        cases o2 hm
        refine W.widen (k := 2) (n := 12) (Nat.le_of_ble_eq_true rfl) (Nat.le_of_ble_eq_true rfl) ?_
        exact W.iret hx hb hr (fun t ht hW => ⟨⟨_, (), rfl, rfl, by rw [ht]; exact hP, va_K.moved hW.alike hK, hD⟩, hS.F ht⟩) hS.2.2 dL_refused_97
      have hm := it_f hm hk4
      by_cases hk3 : k = 3
      · have hm := it_t hm hk3
        subst hk3
        refine vx_catch hown [{ startPc := 0, endPc := 85, handlerPc := 86, catchType := 53 }, { startPc := 0, endPc := 85, handlerPc := 90, catchType := 55 }, { startPc := 0, endPc := 85, handlerPc := 94, catchType := 57 }] { startPc := 0, endPc := 85, handlerPc := 98, catchType := 59 } [] (htab.trans rfl) (fun z hz => by simp only [List.mem_cons, List.not_mem_nil, or_false] at hz; rcases hz with rfl | rfl | rfl <;> first | exact Or.inr ⟨by decide, _, zw0, hNc.2.2.2.1⟩ | exact Or.inr ⟨by decide, _, zw1, hNc.2.2.2.2.1⟩ | exact Or.inr ⟨by decide, _, zw2, hNc.2.2.2.2.2⟩) (by decide) (by decide) zw3 (zV_ng hV (.castable (xN 3) (xN 3)) (by decide +kernel)) hce hcv hcl ?_
        refine lv_astore (lv' := [(4, .ref q9), (0, .ref (ad 0)), (1, .int p2), (2, .int p3), (3, .int p4)]) hx hb dL_refused_98 hl (by decide) rfl (fun ls hl => ?_)
        refine lv_iconst (v := 4) hx hb dL_refused_100 (by decide) ?_
        cases o2 hm
        refine W.widen (k := 2) (n := 12) (Nat.le_of_ble_eq_true rfl) (Nat.le_of_ble_eq_true rfl) ?_
        exact W.iret hx hb hr (fun t ht hW => ⟨⟨_, (), rfl, rfl, by rw [ht]; exact hP, va_K.moved hW.alike hK, hD⟩, hS.F ht⟩) hS.2.2 dL_refused_101
      have hm := it_f hm hk3
      cases hm
    · obtain ⟨zk6, zm6, zs6, zr6, zu6, zt6⟩ := u_6
      rw [hw] at hm
      have hP : va_P (dC, dI) vwCl (wL cI ad zk6 zm6 zb zs6 zr6 zu6 zt6 zf zg zbd zro zmc zmg zsp zjn) H := hP
      have hD : va_D A (wL cI ad zk6 zm6 zb zs6 zr6 zu6 zt6 zf zg zbd zro zmc zmg zsp zjn) := hD
      refine lv_goto (tgt := 83) hx hb dL_refused_9 (by decide) ?_
      refine lv_iconst (v := 0) hx hb dL_refused_83 (by decide) ?_
      refine lv_imul hx hb dL_refused_84 ?_
      cases o2 hm
      refine W.widen (k := 2) (n := 12) (Nat.le_of_ble_eq_true rfl) (Nat.le_of_ble_eq_true rfl) ?_
      exact W.iret hx hb hr (fun t ht hW => ⟨⟨_, (), rfl, rfl, by rw [ht]; exact hP, va_K.moved hW.alike hK, hD⟩, hS.F ht⟩) hS.2.2 dL_refused_85
