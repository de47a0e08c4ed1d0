set_option maxHeartbeats 4000000 in
set_option maxRecDepth 100000 in
theorem c_X2_gatherAll (l : Launch) (dC : Nat → ClassId) (dI : Nat → Nat → Nat) (cI : ClassId) (ad : Nat → Nat) (zk : zN) (zm : zN) (zb : zN) (zs : zN) (zr : zN) (zu : zN) (zt : zT) (zf : zN) (zg : zN) (zbd : Int32) (zro : Int32) (zmc : Int32) (zmg : Int32) (zsp : Int32) (zjn : Int32) (F : Nat) (sz : Nat) (u_zf : zN) (hm : X2_gatherAll F zk zm zb zf = some u_zf) : Met l yX2_gatherAll wsX2_gatherAll ({ frames := 3, cells := 0, slots := 0, locals := 70 }) (va_Pc [.ref (ad 0)] (zW (dC, dI) (wL cI ad zk zm zb zs zr zu zt zf zg zbd zro zmc zmg zsp zjn) [(cI, .int)] sz)) (zQv (dC, dI) (wL cI ad zk zm zb zs zr zu zt u_zf zg zbd zro zmc zmg zsp zjn) [(cI, .int)] (va_A (wL cI ad zk zm zb zs zr zu zt zf zg zbd zro zmc zmg zsp zjn) sz)) 0 0 (va_A (wL cI ad zk zm zb zs zr zu zt zf zg zbd zro zmc zmg zsp zjn) sz) := by
  refine Met.ofW (cc := cX2_gatherAll) (maxL := 1) (ret := none) (by decide) rfl ?_
  intro p e s m args below meth c s₁ B hml hv
  obtain ⟨rfl, hsz, hP, hK, hD0⟩ := hv
  have hx := B.exec
  have hb := B.bytes
  have hr := B.returns
  have hts := atoms_spec (ws := wsX2_gatherAll) B.pre
  have hown : s.vm.findClass RX2 = some m.cls := findClass_of_methodNamed B.named
  have hlocks := B.notSynchronized
  subst hsz
  have hD := hD0.self (sz := s.heap.size)
  generalize hAe : va_A (wL cI ad zk zm zb zs zr zu zt zf zg zbd zro zmc zmg zsp zjn) s.heap.size = A at hD ⊢
  have hA : ∀ q : Nat, s.heap.size ≤ q → A q := fun q h => by rw [← hAe]; exact Or.inr h
  have hS : va_S A s.heap s.heap [] := va_S.rf
  generalize eL : ([] : List Loc) = locs at hS ⊢
  obtain ⟨H, eH⟩ : ∃ z : Heap, z = s.heap := ⟨_, rfl⟩
  have hP : va_P (dC, dI) vwCl (wL cI ad zk zm zb zs zr zu zt zf zg zbd zro zmc zmg zsp zjn) H := by rw [eH]; exact hP
  have hS : va_S A s.heap H locs := by rw [eH]; exact hS
  refine z_heap eH ?_
  have hl := lv_entry ([.ref (ad 0)]) (n := 1) (Nat.le_of_ble_eq_true rfl)
  rw [lg_entry_eq]
  generalize (lg_sl ([.ref (ad 0)]) ++ List.replicate (1 - (lg_sl ([.ref (ad 0)])).length) Slot.unset).toArray = ls at hl ⊢
  have hl : lv_has ls 1 [(0, .ref (ad 0))] := hl
  have zw0 := hts (.fieldLink RX2 40 "LearnedLedge" "freshKeys" "LLearnedLedge$Numbers;") (List.mem_cons_of_mem _ (List.mem_append_left _ (List.mem_append_left _ (List.mem_append_left _ (List.mem_of_getElem? (i := 0) rfl)))))
  have zw1 := hts (.fieldLink RX2 14 "LearnedLedge" "keys" "LLearnedLedge$Numbers;") (List.mem_cons_of_mem _ (List.mem_append_left _ (List.mem_append_left _ (List.mem_append_left _ (List.mem_of_getElem? (i := 1) rfl)))))
  have zw2 := hts (.fieldLink RX2 21 "LearnedLedge" "buffer" "LLearnedLedge$Numbers;") (List.mem_cons_of_mem _ (List.mem_append_left _ (List.mem_append_left _ (List.mem_append_left _ (List.mem_of_getElem? (i := 2) rfl)))))
  have ziX2 : ∀ w ∈ u_ws RX2 TX2 15, w ∈ wsX2_gatherAll := (fun _ h9 => (List.mem_cons_of_mem _ (List.mem_append_left _ (List.mem_append_right _ h9))))
  refine lv_aload_n hx hb dX2_gatherAll_0 rfl (lv_at hl 0 rfl) ?_
  refine va_get (D := (dC, dI)) (ci := 2) (v := .ref (ad 14)) (C := RX2) (T := TX2) (N := 15) hx hb hts ziX2 hown hK hP 0 rfl rfl 7 (by decide) zw0 (fun _ h9 => h9) rfl dX2_gatherAll_1 ?_
  obtain ⟨zf4, h_4, hm⟩ := ob hm
  refine z_callWv (wc := (wN cI (ad 14) (ad 15) 256 zf)) (w1 := (wN cI (ad 14) (ad 15) 256 zf4)) (ws := (wL cI ad zk zm zb zs zr zu zt zf zg zbd zro zmc zmg zsp zjn)) (ws' := (wL cI ad zk zm zb zs zr zu zt zf4 zg zbd zro zmc zmg zsp zjn)) (As := []) (rest := []) (ci := 0) (q := (RX0, TX0, 2)) ⟨hx, hb, hml, hown, hts⟩ (c_X0_clear l dC dI cI (ad 14) (ad 15) 256 zf F H.size zf4 h_4) (cwV 0 hts gX2_gatherAll_X0_clear rfl rfl rfl kv_X0_clear ⟨Nat.le_of_ble_eq_true rfl, Nat.le_of_ble_eq_true rfl⟩) hK hP hD hS hA (pjL_zf cI ad zk zm zb zs zr zu zt zf zg zbd zro zmc zmg zsp zjn zf4) ((paN cI (ad 14) (ad 15) 256 zf4).trans (paN cI (ad 14) (ad 15) 256 zf).symm) rfl rfl rfl rfl hl.1 rfl (Nat.le_of_ble_eq_true rfl) dX2_gatherAll_4 ⟨Nat.zero_le _, Nat.zero_le _⟩ (fun H locs hP hD hS => ?_)
  refine lv_aload_n hx hb dX2_gatherAll_7 rfl (lv_at hl 0 rfl) ?_
  refine lv_iconst (v := 0) hx hb dX2_gatherAll_8 (by decide) ?_
  refine lv_aload_n hx hb dX2_gatherAll_9 rfl (lv_at hl 0 rfl) ?_
  refine va_get (D := (dC, dI)) (ci := 2) (v := .ref (ad 1)) (C := RX2) (T := TX2) (N := 15) hx hb hts ziX2 hown hK hP 0 rfl rfl 0 (by decide) zw1 (fun _ h9 => h9) rfl dX2_gatherAll_10 ?_
  obtain ⟨r13, h_13, hm⟩ := ob hm
  refine z_callRi (As := []) (rest := [.int 0, .ref (ad 0)]) (ci := 0) (q := (RX0, TX0, 2)) ⟨hx, hb, hml, hown, hts⟩ (c_X0_length l dC dI cI (ad 1) (ad 2) 256 zk F r13 h_13) (cwV 0 hts gX2_gatherAll_X0_length rfl rfl rfl kv_X0_length ⟨Nat.le_of_ble_eq_true rfl, Nat.le_of_ble_eq_true rfl⟩) hK (z_mid (pjL_zk cI ad zk zm zb zs zr zu zt zf4 zg zbd zro zmc zmg zsp zjn zk) hP) rfl rfl rfl rfl hl.1 rfl (Nat.le_of_ble_eq_true rfl) dX2_gatherAll_13 ⟨Nat.zero_le _, Nat.zero_le _⟩ ?_
  refine lv_iconst (v := 0) hx hb dX2_gatherAll_16 (by decide) ?_
  refine lv_aload_n hx hb dX2_gatherAll_17 rfl (lv_at hl 0 rfl) ?_
  refine va_get (D := (dC, dI)) (ci := 2) (v := .ref (ad 5)) (C := RX2) (T := TX2) (N := 15) hx hb hts ziX2 hown hK hP 0 rfl rfl 2 (by decide) zw2 (fun _ h9 => h9) rfl dX2_gatherAll_18 ?_
  obtain ⟨r21, h_21, hm⟩ := ob hm
  refine z_callRi (As := []) (rest := [.int 0, .int r13, .int 0, .ref (ad 0)]) (ci := 0) (q := (RX0, TX0, 2)) ⟨hx, hb, hml, hown, hts⟩ (c_X0_length l dC dI cI (ad 5) (ad 6) 16 zb F r21 h_21) (cwV 0 hts gX2_gatherAll_X0_length rfl rfl rfl kv_X0_length ⟨Nat.le_of_ble_eq_true rfl, Nat.le_of_ble_eq_true rfl⟩) hK (z_mid (pjL_zb cI ad zk zm zb zs zr zu zt zf4 zg zbd zro zmc zmg zsp zjn zb) hP) rfl rfl rfl rfl hl.1 rfl (Nat.le_of_ble_eq_true rfl) dX2_gatherAll_21 ⟨Nat.zero_le _, Nat.zero_le _⟩ ?_
  obtain ⟨⟨r24, zf24⟩, h_24, hm⟩ := ob hm
  refine z_callWi (wc := (wL cI ad zk zm zb zs zr zu zt zf4 zg zbd zro zmc zmg zsp zjn)) (w1 := (wL cI ad zk zm zb zs zr zu zt zf24 zg zbd zro zmc zmg zsp zjn)) (ws := (wL cI ad zk zm zb zs zr zu zt zf4 zg zbd zro zmc zmg zsp zjn)) (ws' := (wL cI ad zk zm zb zs zr zu zt zf24 zg zbd zro zmc zmg zsp zjn)) (As := [.int 0, .int r13, .int 0, .int r21]) (rest := []) (ci := 2) (q := (RX2, TX2, 15)) ⟨hx, hb, hml, hown, hts⟩ (c_X2_gather l dC dI cI ad zk zm zb zs zr zu zt zf4 zg zbd zro zmc zmg zsp zjn F 0 r13 0 r21 H.size r24 zf24 h_24) (cwV 4 hts gX2_gatherAll_X2_gather rfl rfl rfl kv_X2_gather ⟨Nat.le_of_ble_eq_true rfl, Nat.le_of_ble_eq_true rfl⟩) hK hP hD hS hA (z_spAll (wL cI ad zk zm zb zs zr zu zt zf4 zg zbd zro zmc zmg zsp zjn) (wL cI ad zk zm zb zs zr zu zt zf24 zg zbd zro zmc zmg zsp zjn)) ((paL cI ad zk zm zb zs zr zu zt zf24 zg zbd zro zmc zmg zsp zjn).trans (paL cI ad zk zm zb zs zr zu zt zf4 zg zbd zro zmc zmg zsp zjn).symm) rfl rfl rfl rfl hl.1 rfl (Nat.le_of_ble_eq_true rfl) dX2_gatherAll_24 ⟨Nat.zero_le _, Nat.zero_le _⟩ (fun H locs hP hD hS => ?_)
  refine lv_pop hx hb dX2_gatherAll_27 rfl ?_
  cases o2 hm
  exact W.vret hx hb hr (fun t ht hW => ⟨⟨(), rfl, trivial, by rw [ht]; exact hP, va_K.moved hW.alike hK, hD⟩, hS.F ht⟩) hS.2.2 dX2_gatherAll_28
set_option maxHeartbeats 4000000 in
set_option maxRecDepth 100000 in
theorem c_X2_rebuild (l : Launch) (dC : Nat → ClassId) (dI : Nat → Nat → Nat) (cI : ClassId) (ad : Nat → Nat) (zk : zN) (zm : zN) (zb : zN) (zs : zN) (zr : zN) (zu : zN) (zt : zT) (zf : zN) (zg : zN) (zbd : Int32) (zro : Int32) (zmc : Int32) (zmg : Int32) (zsp : Int32) (zjn : Int32) (F : Nat) (p1 : Int32) (p2 : Int32) (sz : Nat) (sa : Nat → Nat) (hl9 : l.stackTraces = false) (z : Nat ⊕ (Int32 × zN × zN × zN × zN × zN × zN × zT × zN × Int32 × Int32 × Int32)) (hm : X2_rebuild F zk zm zb zs zr zu zt zf zbd zro zmc p1 p2 = some z) : vx_Met l yX2_rebuild wsX2_rebuild ({ frames := 6, cells := 1, slots := 6, locals := 91 }) (va_Pc [.ref (ad 0), .int p1, .int p2] (zX (dC, dI) (wL cI ad zk zm zb zs zr zu zt zf zg zbd zro zmc zmg zsp zjn) [(cI, .int)] sz sa)) (zXi (dC, dI) (fun (u_ : zN × zN × zN × zN × zN × zN × zT × zN × Int32 × Int32 × Int32) => (wL cI ad u_.1 u_.2.1 u_.2.2.1 u_.2.2.2.1 u_.2.2.2.2.1 u_.2.2.2.2.2.1 u_.2.2.2.2.2.2.1 u_.2.2.2.2.2.2.2.1 zg u_.2.2.2.2.2.2.2.2.1 u_.2.2.2.2.2.2.2.2.2.1 u_.2.2.2.2.2.2.2.2.2.2 zmg zsp zjn)) [(cI, .int)] (va_A (wL cI ad zk zm zb zs zr zu zt zf zg zbd zro zmc zmg zsp zjn) sz) (fun r_ u_ => z = Sum.inr (r_, u_))) (zXC (dC, dI) (wL cI ad zk zm zb zs zr zu zt zf zg zbd zro zmc zmg zsp zjn) [(cI, .int)] (va_A (wL cI ad zk zm zb zs zr zu zt zf zg zbd zro zmc zmg zsp zjn) sz) z) 1 6 (va_A (wL cI ad zk zm zb zs zr zu zt zf zg zbd zro zmc zmg zsp zjn) sz) := by
  refine vx_ofW (cc := cX2_rebuild) (maxL := 4) (ret := (some .int)) (by decide) rfl ?_
  intro p e s m args below meth c s₁ B hml hnx hv
  obtain ⟨rfl, ⟨hsz, hP, hK, hD0⟩, hV⟩ := hv
  have hx := B.exec
  have hb := B.bytes
  have hr := B.returns
  have hts := atoms_spec (ws := wsX2_rebuild) B.pre
  have hown : s.vm.findClass RX2 = some m.cls := findClass_of_methodNamed B.named
  have hlocks := B.notSynchronized
  subst hsz
  have hD := hD0.self (sz := s.heap.size)
  generalize hAe : va_A (wL cI ad zk zm zb zs zr zu zt zf zg zbd zro zmc zmg zsp zjn) s.heap.size = A at hD hV ⊢
  have hA : ∀ q : Nat, s.heap.size ≤ q → A q := fun q h => by rw [← hAe]; exact Or.inr h
  have hS : va_S A s.heap s.heap [] := va_S.rf
  generalize eL : ([] : List Loc) = locs at hS ⊢
  obtain ⟨H, eH⟩ : ∃ z : Heap, z = s.heap := ⟨_, rfl⟩
  have hP : va_P (dC, dI) vwCl (wL cI ad zk zm zb zs zr zu zt zf zg zbd zro zmc zmg zsp zjn) H := by rw [eH]; exact hP
  have hS : va_S A s.heap H locs := by rw [eH]; exact hS
  refine z_heap eH ?_
  have hl := lv_entry ([.ref (ad 0), .int p1, .int p2]) (n := 4) (Nat.le_of_ble_eq_true rfl)
  rw [lg_entry_eq]
  generalize (lg_sl ([.ref (ad 0), .int p1, .int p2]) ++ List.replicate (4 - (lg_sl ([.ref (ad 0), .int p1, .int p2])).length) Slot.unset).toArray = ls at hl ⊢
  have hl : lv_has ls 4 [(0, .ref (ad 0)), (1, .int p1), (2, .int p2)] := hl
  have zw0 := hts (.fieldLink RX2 46 "LearnedLedge" "bound" "I") (List.mem_cons_of_mem _ (List.mem_append_left _ (List.mem_append_left _ (List.mem_append_left _ (List.mem_append_left _ (List.mem_append_left _ (List.mem_of_getElem? (i := 2) rfl)))))))
  have zw1 := hts (.fieldLink RX2 50 "LearnedLedge" "room" "I") (List.mem_cons_of_mem _ (List.mem_append_left _ (List.mem_append_left _ (List.mem_append_left _ (List.mem_append_left _ (List.mem_append_left _ (List.mem_of_getElem? (i := 3) rfl)))))))
  have zw2 := hts (.fieldLink RX2 40 "LearnedLedge" "freshKeys" "LLearnedLedge$Numbers;") (List.mem_cons_of_mem _ (List.mem_append_left _ (List.mem_append_left _ (List.mem_append_left _ (List.mem_append_left _ (List.mem_append_left _ (List.mem_of_getElem? (i := 4) rfl)))))))
  have zw3 := hts (.fieldLink RX2 24 "LearnedLedge" "starts" "LLearnedLedge$Numbers;") (List.mem_cons_of_mem _ (List.mem_append_left _ (List.mem_append_left _ (List.mem_append_left _ (List.mem_append_left _ (List.mem_append_left _ (List.mem_of_getElem? (i := 5) rfl)))))))
  have zw4 := hts (.classLink RX2 80 "java/lang/IllegalArgumentException") (List.mem_cons_of_mem _ (List.mem_append_left _ (List.mem_append_left _ (List.mem_append_left _ (List.mem_append_left _ (List.mem_append_left _ (List.mem_of_getElem? (i := 0) rfl)))))))
  have zw5 := hts (.initialized "java/lang/IllegalArgumentException") (List.mem_cons_of_mem _ (List.mem_append_left _ (List.mem_append_left _ (List.mem_append_left _ (List.mem_append_left _ (List.mem_append_left _ (List.mem_of_getElem? (i := 1) rfl)))))))
  have ziX2 : ∀ w ∈ u_ws RX2 TX2 15, w ∈ wsX2_rebuild := (fun _ h9 => (List.mem_cons_of_mem _ (List.mem_append_left _ (List.mem_append_left _ (List.mem_append_left _ (List.mem_append_right _ h9))))))
  refine lv_iload_n hx hb dX2_rebuild_0 rfl (lv_at hl 1 rfl) ?_
  refine lv_if_lt (tgt := 21) hx hb dX2_rebuild_1 (by decide) (fun c_1 => ?_) (fun c_1 => ?_)
  · have hm := it_t hm c_1
    exact vx_throwS hx hb hl9 (own := RX2) (cls := "java/lang/IllegalArgumentException") (names := ["java/lang/RuntimeException", "java/lang/Exception"]) (ik := 80) (is := 126) (ic := 84) hown (by decide +kernel) (by decide +kernel) zw4 zw5 (hV.1 (126, "bound or room out of range") (by decide +kernel)) (vx_hat (fun w h => hts w (List.mem_cons_of_mem _ (List.mem_append_right _ h))) (by decide +kernel) (zV_ng hV)) (by decide +kernel) hV.2.2.1 hV.2.2.2 hS (hl.1.trans hml.symm) dX2_rebuild_21 dX2_rebuild_24 dX2_rebuild_25 dX2_rebuild_27 dX2_rebuild_30 (fun x hx => (hnx x hx).elim) (Nat.le_of_ble_eq_true rfl) (Nat.le_of_ble_eq_true rfl) (Nat.le_of_ble_eq_true rfl) (Nat.le_of_ble_eq_true rfl) hlocks (z_xt (k := 1) rfl (o2 hm) hP hK hD hS) hS.2.2 (Nat.le_of_ble_eq_true rfl) (Nat.le_of_ble_eq_true rfl)
  · have hm := it_f hm c_1
    refine lv_iload_n hx hb dX2_rebuild_4 rfl (lv_at hl 1 rfl) ?_
    refine lv_bipush (v := 20) hx hb dX2_rebuild_5 (by decide) ?_
    refine lv_icmp_gt (tgt := 21) hx hb dX2_rebuild_7 (by decide) (fun c_7 => ?_) (fun c_7 => ?_)
    · have hm := it_t hm c_7
      exact vx_throwS hx hb hl9 (own := RX2) (cls := "java/lang/IllegalArgumentException") (names := ["java/lang/RuntimeException", "java/lang/Exception"]) (ik := 80) (is := 126) (ic := 84) hown (by decide +kernel) (by decide +kernel) zw4 zw5 (hV.1 (126, "bound or room out of range") (by decide +kernel)) (vx_hat (fun w h => hts w (List.mem_cons_of_mem _ (List.mem_append_right _ h))) (by decide +kernel) (zV_ng hV)) (by decide +kernel) hV.2.2.1 hV.2.2.2 hS (hl.1.trans hml.symm) dX2_rebuild_21 dX2_rebuild_24 dX2_rebuild_25 dX2_rebuild_27 dX2_rebuild_30 (fun x hx => (hnx x hx).elim) (Nat.le_of_ble_eq_true rfl) (Nat.le_of_ble_eq_true rfl) (Nat.le_of_ble_eq_true rfl) (Nat.le_of_ble_eq_true rfl) hlocks (z_xt (k := 1) rfl (o2 hm) hP hK hD hS) hS.2.2 (Nat.le_of_ble_eq_true rfl) (Nat.le_of_ble_eq_true rfl)
    · have hm := it_f hm c_7
      refine lv_iload_n hx hb dX2_rebuild_10 rfl (lv_at hl 2 rfl) ?_
      refine lv_iconst (v := 1) hx hb dX2_rebuild_11 (by decide) ?_
      refine lv_icmp_lt (tgt := 21) hx hb dX2_rebuild_12 (by decide) (fun c_12 => ?_) (fun c_12 => ?_)
      · have hm := it_t hm c_12
        exact vx_throwS hx hb hl9 (own := RX2) (cls := "java/lang/IllegalArgumentException") (names := ["java/lang/RuntimeException", "java/lang/Exception"]) (ik := 80) (is := 126) (ic := 84) hown (by decide +kernel) (by decide +kernel) zw4 zw5 (hV.1 (126, "bound or room out of range") (by decide +kernel)) (vx_hat (fun w h => hts w (List.mem_cons_of_mem _ (List.mem_append_right _ h))) (by decide +kernel) (zV_ng hV)) (by decide +kernel) hV.2.2.1 hV.2.2.2 hS (hl.1.trans hml.symm) dX2_rebuild_21 dX2_rebuild_24 dX2_rebuild_25 dX2_rebuild_27 dX2_rebuild_30 (fun x hx => (hnx x hx).elim) (Nat.le_of_ble_eq_true rfl) (Nat.le_of_ble_eq_true rfl) (Nat.le_of_ble_eq_true rfl) (Nat.le_of_ble_eq_true rfl) hlocks (z_xt (k := 1) rfl (o2 hm) hP hK hD hS) hS.2.2 (Nat.le_of_ble_eq_true rfl) (Nat.le_of_ble_eq_true rfl)
      · have hm := it_f hm c_12
        refine lv_iload_n hx hb dX2_rebuild_15 rfl (lv_at hl 2 rfl) ?_
        refine lv_bipush (v := 16) hx hb dX2_rebuild_16 (by decide) ?_
        refine lv_icmp_le (tgt := 31) hx hb dX2_rebuild_18 (by decide) (fun c_18 => ?_) (fun c_18 => ?_)
        · have hm := it_t hm c_18
          refine lv_aload_n hx hb dX2_rebuild_31 rfl (lv_at hl 0 rfl) ?_
          refine lv_iload_n hx hb dX2_rebuild_32 rfl (lv_at hl 1 rfl) ?_
          refine va_put (D := (dC, dI)) (ci := 2) (v := .int p1) (ty := .int) (C := RX2) (T := TX2) (N := 15) hx hb hts ziX2 tyX2 tyX2_ok nmX2 hown hK hP hD hS 0 rfl rfl 9 (by decide) zw0 (fun _ h9 => h9) rfl (by decide +kernel) rfl rfl (Nat.le_of_ble_eq_true rfl) dX2_rebuild_33 (fun H locs hP hD hS => ?_)
          have hP : va_P (dC, dI) vwCl (wL cI ad zk zm zb zs zr zu zt zf zg p1 zro zmc zmg zsp zjn) H := hP
          have hD : va_D A (wL cI ad zk zm zb zs zr zu zt zf zg p1 zro zmc zmg zsp zjn) := hD
          refine lv_aload_n hx hb dX2_rebuild_36 rfl (lv_at hl 0 rfl) ?_
          refine lv_iload_n hx hb dX2_rebuild_37 rfl (lv_at hl 2 rfl) ?_
          refine va_put (D := (dC, dI)) (ci := 2) (v := .int p2) (ty := .int) (C := RX2) (T := TX2) (N := 15) hx hb hts ziX2 tyX2 tyX2_ok nmX2 hown hK hP hD hS 0 rfl rfl 10 (by decide) zw1 (fun _ h9 => h9) rfl (by decide +kernel) rfl rfl (Nat.le_of_ble_eq_true rfl) dX2_rebuild_38 (fun H locs hP hD hS => ?_)
          have hP : va_P (dC, dI) vwCl (wL cI ad zk zm zb zs zr zu zt zf zg p1 p2 zmc zmg zsp zjn) H := hP
          have hD : va_D A (wL cI ad zk zm zb zs zr zu zt zf zg p1 p2 zmc zmg zsp zjn) := hD
          refine lv_aload_n hx hb dX2_rebuild_41 rfl (lv_at hl 0 rfl) ?_
          obtain ⟨zf42, h_42, hm⟩ := ob hm
          refine z_callWv (wc := (wL cI ad zk zm zb zs zr zu zt zf zg p1 p2 zmc zmg zsp zjn)) (w1 := (wL cI ad zk zm zb zs zr zu zt zf42 zg p1 p2 zmc zmg zsp zjn)) (ws := (wL cI ad zk zm zb zs zr zu zt zf zg p1 p2 zmc zmg zsp zjn)) (ws' := (wL cI ad zk zm zb zs zr zu zt zf42 zg p1 p2 zmc zmg zsp zjn)) (As := []) (rest := []) (ci := 2) (q := (RX2, TX2, 15)) ⟨hx, hb, hml, hown, hts⟩ (c_X2_gatherAll l dC dI cI ad zk zm zb zs zr zu zt zf zg p1 p2 zmc zmg zsp zjn F H.size zf42 h_42) (cwV 0 hts gX2_rebuild_X2_gatherAll rfl rfl rfl kv_X2_gatherAll ⟨Nat.le_of_ble_eq_true rfl, Nat.le_of_ble_eq_true rfl⟩) hK hP hD hS hA (z_spAll (wL cI ad zk zm zb zs zr zu zt zf zg p1 p2 zmc zmg zsp zjn) (wL cI ad zk zm zb zs zr zu zt zf42 zg p1 p2 zmc zmg zsp zjn)) ((paL cI ad zk zm zb zs zr zu zt zf42 zg p1 p2 zmc zmg zsp zjn).trans (paL cI ad zk zm zb zs zr zu zt zf zg p1 p2 zmc zmg zsp zjn).symm) rfl rfl rfl rfl hl.1 rfl (Nat.le_of_ble_eq_true rfl) dX2_rebuild_42 ⟨Nat.zero_le _, Nat.zero_le _⟩ (fun H locs hP hD hS => ?_)
          refine lv_aload_n hx hb dX2_rebuild_45 rfl (lv_at hl 0 rfl) ?_
          obtain ⟨⟨zk46, zm46, zb46, zs46, zr46, zu46, zmc46⟩, h_46, hm⟩ := ob hm
          refine z_callWv (wc := (wL cI ad zk zm zb zs zr zu zt zf42 zg p1 p2 zmc zmg zsp zjn)) (w1 := (wL cI ad zk46 zm46 zb46 zs46 zr46 zu46 zt zf42 zg p1 p2 zmc46 zmg zsp zjn)) (ws := (wL cI ad zk zm zb zs zr zu zt zf42 zg p1 p2 zmc zmg zsp zjn)) (ws' := (wL cI ad zk46 zm46 zb46 zs46 zr46 zu46 zt zf42 zg p1 p2 zmc46 zmg zsp zjn)) (As := []) (rest := []) (ci := 2) (q := (RX2, TX2, 15)) ⟨hx, hb, hml, hown, hts⟩ (c_X2_clearRow l dC dI cI ad zk zm zb zs zr zu zt zf42 zg p1 p2 zmc zmg zsp zjn F H.size zk46 zm46 zb46 zs46 zr46 zu46 zmc46 h_46) (cwV 0 hts gX2_rebuild_X2_clearRow rfl rfl rfl kv_X2_clearRow ⟨Nat.le_of_ble_eq_true rfl, Nat.le_of_ble_eq_true rfl⟩) hK hP hD hS hA (z_spAll (wL cI ad zk zm zb zs zr zu zt zf42 zg p1 p2 zmc zmg zsp zjn) (wL cI ad zk46 zm46 zb46 zs46 zr46 zu46 zt zf42 zg p1 p2 zmc46 zmg zsp zjn)) ((paL cI ad zk46 zm46 zb46 zs46 zr46 zu46 zt zf42 zg p1 p2 zmc46 zmg zsp zjn).trans (paL cI ad zk zm zb zs zr zu zt zf42 zg p1 p2 zmc zmg zsp zjn).symm) rfl rfl rfl rfl hl.1 rfl (Nat.le_of_ble_eq_true rfl) dX2_rebuild_46 ⟨Nat.zero_le _, Nat.zero_le _⟩ (fun H locs hP hD hS => ?_)
          refine lv_iconst (v := 0) hx hb dX2_rebuild_49 (by decide) ?_
          refine lv_istore_n (lv' := [(3, .int 0), (0, .ref (ad 0)), (1, .int p1), (2, .int p2)]) hx hb dX2_rebuild_50 rfl hl (by decide) rfl (fun ls hl => ?_)
          obtain ⟨z_51, hq_51, hm⟩ := ob hm
          have K_51 : ∀ (zkx51 : zN), ∀ (zmx51 : zN), ∀ (zsx51 : zN), ∀ (zrx51 : zN), ∀ (zux51 : zN), ∀ (ztx51 : zT), z_51 = (zkx51, zmx51, zsx51, zrx51, zux51, ztx51) → ∀ (H : Heap) (locs : List Loc), va_P (dC, dI) vwCl (wL cI ad zkx51 zmx51 zb46 zsx51 zrx51 zux51 ztx51 zf42 zg p1 p2 zmc46 zmg zsp zjn) H → va_D A (wL cI ad zkx51 zmx51 zb46 zsx51 zrx51 zux51 ztx51 zf42 zg p1 p2 zmc46 zmg zsp zjn) → va_S A s.heap H locs → ∀ (ls : Array Slot), lv_has ls 4 [(0, .ref (ad 0))] → W p l e (headSpec wsX2_rebuild ({ frames := 6, cells := 1, slots := 6, locals := 91 } : Room)).room s m ([.ref (ad 0), .int p1, .int p2] : List Value).toArray below meth c H locs 0 0 (vx_MQ below (zXi (dC, dI) (fun (u_ : zN × zN × zN × zN × zN × zN × zT × zN × Int32 × Int32 × Int32) => (wL cI ad u_.1 u_.2.1 u_.2.2.1 u_.2.2.2.1 u_.2.2.2.2.1 u_.2.2.2.2.2.1 u_.2.2.2.2.2.2.1 u_.2.2.2.2.2.2.2.1 zg u_.2.2.2.2.2.2.2.2.1 u_.2.2.2.2.2.2.2.2.2.1 u_.2.2.2.2.2.2.2.2.2.2 zmg zsp zjn)) [(cI, .int)] A (fun r_ u_ => z = Sum.inr (r_, u_))) (zXC (dC, dI) (wL cI ad zk zm zb zs zr zu zt zf zg zbd zro zmc zmg zsp zjn) [(cI, .int)] A z) ([.ref (ad 0), .int p1, .int p2] : List Value).toArray s 1 6 A) (F0 m 80 ls []) := by
            intro zkx51 zmx51 zsx51 zrx51 zux51 ztx51 ez H locs hP hD hS ls hl
            rw [ez] at hm
            refine lv_aload_n hx hb dX2_rebuild_80 rfl (lv_at hl 0 rfl) ?_
            refine va_get (D := (dC, dI)) (ci := 2) (v := .ref (ad 7)) (C := RX2) (T := TX2) (N := 15) hx hb hts ziX2 hown hK hP 0 rfl rfl 3 (by decide) zw3 (fun _ h9 => h9) rfl dX2_rebuild_81 ?_
            obtain ⟨r84, h_84, hm⟩ := ob hm
            refine z_callRi (As := []) (rest := []) (ci := 0) (q := (RX0, TX0, 2)) ⟨hx, hb, hml, hown, hts⟩ (c_X0_length l dC dI cI (ad 7) (ad 8) 256 zsx51 F r84 h_84) (cwV 0 hts gX2_rebuild_X0_length rfl rfl rfl kv_X0_length ⟨Nat.le_of_ble_eq_true rfl, Nat.le_of_ble_eq_true rfl⟩) hK (z_mid (pjL_zs cI ad zkx51 zmx51 zb46 zsx51 zrx51 zux51 ztx51 zf42 zg p1 p2 zmc46 zmg zsp zjn zsx51) hP) rfl rfl rfl rfl hl.1 rfl (Nat.le_of_ble_eq_true rfl) dX2_rebuild_84 ⟨Nat.zero_le _, Nat.zero_le _⟩ ?_
            refine vx_ret (W.widen (k := 1) (n := 6) (Nat.le_of_ble_eq_true rfl) (Nat.le_of_ble_eq_true rfl) ?_)
            exact W.iret hx hb hr (fun t ht hW => ⟨⟨_, (zkx51, zmx51, zb46, zsx51, zrx51, zux51, ztx51, zf42, p1, p2, zmc46), rfl, o2 hm, by rw [ht]; exact hP, va_K.moved hW.alike hK, hD⟩, hS.F ht⟩) hS.2.2 dX2_rebuild_87
          have L_51 : ∀ (n : Nat) (x3 : Int32) (zkl51 : zN) (zml51 : zN) (zsl51 : zN) (zrl51 : zN) (zul51 : zN) (ztl51 : zT), X2_rebuild_L51 p1 F zf42 n x3 zkl51 zml51 zsl51 zrl51 zul51 ztl51 = some z_51 → ∀ (H : Heap) (locs : List Loc), va_P (dC, dI) vwCl (wL cI ad zkl51 zml51 zb46 zsl51 zrl51 zul51 ztl51 zf42 zg p1 p2 zmc46 zmg zsp zjn) H → va_D A (wL cI ad zkl51 zml51 zb46 zsl51 zrl51 zul51 ztl51 zf42 zg p1 p2 zmc46 zmg zsp zjn) → va_S A s.heap H locs → ∀ (ls : Array Slot), lv_has ls 4 [(3, .int x3), (0, .ref (ad 0))] → W p l e (headSpec wsX2_rebuild ({ frames := 6, cells := 1, slots := 6, locals := 91 } : Room)).room s m ([.ref (ad 0), .int p1, .int p2] : List Value).toArray below meth c H locs 0 0 (vx_MQ below (zXi (dC, dI) (fun (u_ : zN × zN × zN × zN × zN × zN × zT × zN × Int32 × Int32 × Int32) => (wL cI ad u_.1 u_.2.1 u_.2.2.1 u_.2.2.2.1 u_.2.2.2.2.1 u_.2.2.2.2.2.1 u_.2.2.2.2.2.2.1 u_.2.2.2.2.2.2.2.1 zg u_.2.2.2.2.2.2.2.2.1 u_.2.2.2.2.2.2.2.2.2.1 u_.2.2.2.2.2.2.2.2.2.2 zmg zsp zjn)) [(cI, .int)] A (fun r_ u_ => z = Sum.inr (r_, u_))) (zXC (dC, dI) (wL cI ad zk zm zb zs zr zu zt zf zg zbd zro zmc zmg zsp zjn) [(cI, .int)] A z) ([.ref (ad 0), .int p1, .int p2] : List Value).toArray s 1 6 A) (F0 m 51 ls []) := by
            intro n
            induction n with
            | zero => intro x3 zkl51 zml51 zsl51 zrl51 zul51 ztl51 hm; cases hm
            | succ n ih_51 =>
              intro x3 zkl51 zml51 zsl51 zrl51 zul51 ztl51 hm H locs hP hD hS ls hl
              refine lv_iload_n hx hb dX2_rebuild_51 rfl (lv_at hl 0 rfl) ?_
              refine lv_aload_n hx hb dX2_rebuild_52 rfl (lv_at hl 1 rfl) ?_
              refine va_get (D := (dC, dI)) (ci := 2) (v := .ref (ad 14)) (C := RX2) (T := TX2) (N := 15) hx hb hts ziX2 hown hK hP 0 rfl rfl 7 (by decide) zw2 (fun _ h9 => h9) rfl dX2_rebuild_53 ?_
              obtain ⟨r56, h_56, hm⟩ := ob hm
              refine z_callRi (As := []) (rest := [.int x3]) (ci := 0) (q := (RX0, TX0, 2)) ⟨hx, hb, hml, hown, hts⟩ (c_X0_length l dC dI cI (ad 14) (ad 15) 256 zf42 F r56 h_56) (cwV 0 hts gX2_rebuild_X0_length rfl rfl rfl kv_X0_length ⟨Nat.le_of_ble_eq_true rfl, Nat.le_of_ble_eq_true rfl⟩) hK (z_mid (pjL_zf cI ad zkl51 zml51 zb46 zsl51 zrl51 zul51 ztl51 zf42 zg p1 p2 zmc46 zmg zsp zjn zf42) hP) rfl rfl rfl rfl hl.1 rfl (Nat.le_of_ble_eq_true rfl) dX2_rebuild_56 ⟨Nat.zero_le _, Nat.zero_le _⟩ ?_
              refine lv_icmp_ge (tgt := 80) hx hb dX2_rebuild_59 (by decide) (fun c_59 => ?_) (fun c_59 => ?_)
              · have hm := it_t hm c_59
                exact K_51 zkl51 zml51 zsl51 zrl51 zul51 ztl51 (o2 hm) _ _ hP hD hS _ (lv_sub hl [1] rfl)
              · have hm := it_f hm c_59
                refine lv_aload_n hx hb dX2_rebuild_62 rfl (lv_at hl 1 rfl) ?_
                refine lv_aload_n hx hb dX2_rebuild_63 rfl (lv_at hl 1 rfl) ?_
                refine va_get (D := (dC, dI)) (ci := 2) (v := .ref (ad 14)) (C := RX2) (T := TX2) (N := 15) hx hb hts ziX2 hown hK hP 0 rfl rfl 7 (by decide) zw2 (fun _ h9 => h9) rfl dX2_rebuild_64 ?_
                refine lv_iload_n hx hb dX2_rebuild_67 rfl (lv_at hl 0 rfl) ?_
                obtain ⟨r68, h_68, hm⟩ := ob hm
                refine z_callRi (As := [.int x3]) (rest := [.ref (ad 0)]) (ci := 0) (q := (RX0, TX0, 2)) ⟨hx, hb, hml, hown, hts⟩ (c_X0_at l dC dI cI (ad 14) (ad 15) 256 zf42 F x3 r68 h_68) (cwV 1 hts gX2_rebuild_X0_at rfl rfl rfl kv_X0_at ⟨Nat.le_of_ble_eq_true rfl, Nat.le_of_ble_eq_true rfl⟩) hK (z_mid (pjL_zf cI ad zkl51 zml51 zb46 zsl51 zrl51 zul51 ztl51 zf42 zg p1 p2 zmc46 zmg zsp zjn zf42) hP) rfl rfl rfl rfl hl.1 rfl (Nat.le_of_ble_eq_true rfl) dX2_rebuild_68 ⟨Nat.zero_le _, Nat.zero_le _⟩ ?_
                obtain ⟨⟨zk71, zm71, zs71, zr71, zu71, zt71⟩, h_71, hm⟩ := ob hm
                refine z_callWv (wc := (wL cI ad zkl51 zml51 zb46 zsl51 zrl51 zul51 ztl51 zf42 zg p1 p2 zmc46 zmg zsp zjn)) (w1 := (wL cI ad zk71 zm71 zb46 zs71 zr71 zu71 zt71 zf42 zg p1 p2 zmc46 zmg zsp zjn)) (ws := (wL cI ad zkl51 zml51 zb46 zsl51 zrl51 zul51 ztl51 zf42 zg p1 p2 zmc46 zmg zsp zjn)) (ws' := (wL cI ad zk71 zm71 zb46 zs71 zr71 zu71 zt71 zf42 zg p1 p2 zmc46 zmg zsp zjn)) (As := [.int r68]) (rest := []) (ci := 2) (q := (RX2, TX2, 15)) ⟨hx, hb, hml, hown, hts⟩ (c_X2_addLast l dC dI cI ad zkl51 zml51 zb46 zsl51 zrl51 zul51 ztl51 zf42 zg p1 p2 zmc46 zmg zsp zjn F r68 H.size zk71 zm71 zs71 zr71 zu71 zt71 h_71) (cwV 1 hts gX2_rebuild_X2_addLast rfl rfl rfl kv_X2_addLast ⟨Nat.le_of_ble_eq_true rfl, Nat.le_of_ble_eq_true rfl⟩) hK hP hD hS hA (z_spAll (wL cI ad zkl51 zml51 zb46 zsl51 zrl51 zul51 ztl51 zf42 zg p1 p2 zmc46 zmg zsp zjn) (wL cI ad zk71 zm71 zb46 zs71 zr71 zu71 zt71 zf42 zg p1 p2 zmc46 zmg zsp zjn)) ((paL cI ad zk71 zm71 zb46 zs71 zr71 zu71 zt71 zf42 zg p1 p2 zmc46 zmg zsp zjn).trans (paL cI ad zkl51 zml51 zb46 zsl51 zrl51 zul51 ztl51 zf42 zg p1 p2 zmc46 zmg zsp zjn).symm) rfl rfl rfl rfl hl.1 rfl (Nat.le_of_ble_eq_true rfl) dX2_rebuild_71 ⟨Nat.zero_le _, Nat.zero_le _⟩ (fun H locs hP hD hS => ?_)
                obtain ⟨x3_1, e_x3_1⟩ : ∃ y : Int32, y = x3 + 1 := ⟨_, rfl⟩
                have hm := bnd_e hm e_x3_1
                refine lv_iinc (v := x3_1) (lv' := [(3, .int x3_1), (0, .ref (ad 0))]) hx hb dX2_rebuild_74 hl (k := 0) rfl (by rw [e_x3_1]; rfl) (by decide) rfl (fun ls hl => ?_)
                refine lv_goto (tgt := 51) hx hb dX2_rebuild_77 (by decide) ?_
                exact ih_51 x3_1 zk71 zm71 zs71 zr71 zu71 zt71 hm _ _ hP hD hS _ (lv_sub hl [0, 1] rfl)
          exact L_51 F 0 zk46 zm46 zs46 zr46 zu46 zt hq_51 _ _ hP hD hS _ (lv_sub hl [0, 1] rfl)
        · have hm := it_f hm c_18
          exact vx_throwS hx hb hl9 (own := RX2) (cls := "java/lang/IllegalArgumentException") (names := ["java/lang/RuntimeException", "java/lang/Exception"]) (ik := 80) (is := 126) (ic := 84) hown (by decide +kernel) (by decide +kernel) zw4 zw5 (hV.1 (126, "bound or room out of range") (by decide +kernel)) (vx_hat (fun w h => hts w (List.mem_cons_of_mem _ (List.mem_append_right _ h))) (by decide +kernel) (zV_ng hV)) (by decide +kernel) hV.2.2.1 hV.2.2.2 hS (hl.1.trans hml.symm) dX2_rebuild_21 dX2_rebuild_24 dX2_rebuild_25 dX2_rebuild_27 dX2_rebuild_30 (fun x hx => (hnx x hx).elim) (Nat.le_of_ble_eq_true rfl) (Nat.le_of_ble_eq_true rfl) (Nat.le_of_ble_eq_true rfl) (Nat.le_of_ble_eq_true rfl) hlocks (z_xt (k := 1) rfl (o2 hm) hP hK hD hS) hS.2.2 (Nat.le_of_ble_eq_true rfl) (Nat.le_of_ble_eq_true rfl)
