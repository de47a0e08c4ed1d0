set_option maxHeartbeats 4000000 in
set_option maxRecDepth 100000 in
theorem n_X2_needToFollow (l : Launch) (dC : Nat → ClassId) (dI : Nat → Nat → Nat) (cI : ClassId) (ad : Nat → Nat) (zk : zN) (zm : zN) (zb : zN) (zs : zN) (zr : zN) (zu : zN) (zt : zT) (zf : zN) (zg : zN) (zbd : Int32) (zro : Int32) (zmc : Int32) (zmg : Int32) (zsp : Int32) (zjn : Int32) (F : Nat) (p1 : Int32) (p2 : Int32) (sz : Nat) (hm : X2_needToFollow F zk zb p1 p2 = some (Sum.inr ())) : Met l yX2_needToFollow wsX2_needToFollow ({ frames := 6, cells := 0, slots := 0, locals := 90 }) (va_Pc [.ref (ad 0), .int p1, .int p2] (zW (dC, dI) (wL cI ad zk zm zb zs zr zu zt zf zg zbd zro zmc zmg zsp zjn) [(cI, .int)] sz)) (zQv (dC, dI) (wL cI ad zk zm zb zs zr zu zt zf zg zbd zro zmc zmg zsp zjn) [(cI, .int)] (va_A (wL cI ad zk zm zb zs zr zu zt zf zg zbd zro zmc zmg zsp zjn) sz)) 0 0 (va_A (wL cI ad zk zm zb zs zr zu zt zf zg zbd zro zmc zmg zsp zjn) sz) := by
  refine Met.ofW (cc := cX2_needToFollow) (maxL := 4) (ret := none) (by decide) rfl ?_
  intro p e s m args below meth c s₁ B hml hv
  obtain ⟨rfl, hsz, hP, hK, hD0⟩ := hv
  have hx := B.exec
  have hb := B.bytes
  have hr := B.returns
  have hts := atoms_spec (ws := wsX2_needToFollow) B.pre
  have hown : s.vm.findClass RX2 = some m.cls := findClass_of_methodNamed B.named
  have hlocks := B.notSynchronized
  subst hsz
  have hD := hD0.self (sz := s.heap.size)
  generalize hAe : va_A (wL cI ad zk zm zb zs zr zu zt zf zg zbd zro zmc zmg zsp zjn) s.heap.size = A at hD ⊢
  have hA : ∀ q : Nat, s.heap.size ≤ q → A q := fun q h => by rw [← hAe]; exact Or.inr h
  have hS : va_S A s.heap s.heap [] := va_S.rf
  generalize eL : ([] : List Loc) = locs at hS ⊢
  obtain ⟨H, eH⟩ : ∃ z : Heap, z = s.heap := ⟨_, rfl⟩
  have hP : va_P (dC, dI) vwCl (wL cI ad zk zm zb zs zr zu zt zf zg zbd zro zmc zmg zsp zjn) H := by rw [eH]; exact hP
  have hS : va_S A s.heap H locs := by rw [eH]; exact hS
  refine z_heap eH ?_
  have hl := lv_entry ([.ref (ad 0), .int p1, .int p2]) (n := 4) (Nat.le_of_ble_eq_true rfl)
  rw [lg_entry_eq]
  generalize (lg_sl ([.ref (ad 0), .int p1, .int p2]) ++ List.replicate (4 - (lg_sl ([.ref (ad 0), .int p1, .int p2])).length) Slot.unset).toArray = ls at hl ⊢
  have hl : lv_has ls 4 [(0, .ref (ad 0)), (1, .int p1), (2, .int p2)] := hl
  have zw0 := hts (.fieldLink RX2 14 "LearnedLedge" "keys" "LLearnedLedge$Numbers;") (List.mem_cons_of_mem _ (List.mem_append_left _ (List.mem_append_left _ (List.mem_append_left _ (List.mem_append_left _ (List.mem_of_getElem? (i := 2) rfl))))))
  have zw1 := hts (.fieldLink RX2 21 "LearnedLedge" "buffer" "LLearnedLedge$Numbers;") (List.mem_cons_of_mem _ (List.mem_append_left _ (List.mem_append_left _ (List.mem_append_left _ (List.mem_append_left _ (List.mem_of_getElem? (i := 3) rfl))))))
  have zw2 := hts (.classLink RX2 98 "java/lang/IllegalStateException") (List.mem_cons_of_mem _ (List.mem_append_left _ (List.mem_append_left _ (List.mem_append_left _ (List.mem_append_left _ (List.mem_of_getElem? (i := 0) rfl))))))
  have zw3 := hts (.initialized "java/lang/IllegalStateException") (List.mem_cons_of_mem _ (List.mem_append_left _ (List.mem_append_left _ (List.mem_append_left _ (List.mem_append_left _ (List.mem_of_getElem? (i := 1) rfl))))))
  have ziX2 : ∀ w ∈ u_ws RX2 TX2 15, w ∈ wsX2_needToFollow := (fun _ h9 => (List.mem_cons_of_mem _ (List.mem_append_left _ (List.mem_append_left _ (List.mem_append_right _ h9)))))
  refine lv_aload_n hx hb dX2_needToFollow_0 rfl (lv_at hl 0 rfl) ?_
  refine va_get (D := (dC, dI)) (ci := 2) (v := .ref (ad 1)) (C := RX2) (T := TX2) (N := 15) hx hb hts ziX2 hown hK hP 0 rfl rfl 0 (by decide) zw0 (fun _ h9 => h9) rfl dX2_needToFollow_1 ?_
  refine lv_iload_n hx hb dX2_needToFollow_4 rfl (lv_at hl 1 rfl) ?_
  obtain ⟨r5, h_5, hm⟩ := ob hm
  refine z_callRi (As := [.int p1]) (rest := []) (ci := 0) (q := (RX0, TX0, 2)) ⟨hx, hb, hml, hown, hts⟩ (c_X0_below l dC dI cI (ad 1) (ad 2) 256 zk F p1 r5 h_5) (cwV 1 hts gX2_needToFollow_X0_below rfl rfl rfl kv_X0_below ⟨Nat.le_of_ble_eq_true rfl, Nat.le_of_ble_eq_true rfl⟩) hK (z_mid (pjL_zk cI ad zk zm zb zs zr zu zt zf zg zbd zro zmc zmg zsp zjn zk) hP) rfl rfl rfl rfl hl.1 rfl (Nat.le_of_ble_eq_true rfl) dX2_needToFollow_5 ⟨Nat.zero_le _, Nat.zero_le _⟩ ?_
  refine lv_aload_n hx hb dX2_needToFollow_8 rfl (lv_at hl 0 rfl) ?_
  refine va_get (D := (dC, dI)) (ci := 2) (v := .ref (ad 1)) (C := RX2) (T := TX2) (N := 15) hx hb hts ziX2 hown hK hP 0 rfl rfl 0 (by decide) zw0 (fun _ h9 => h9) rfl dX2_needToFollow_9 ?_
  obtain ⟨r12, h_12, hm⟩ := ob hm
  refine z_callRi (As := []) (rest := [.int r5]) (ci := 0) (q := (RX0, TX0, 2)) ⟨hx, hb, hml, hown, hts⟩ (c_X0_length l dC dI cI (ad 1) (ad 2) 256 zk F r12 h_12) (cwV 0 hts gX2_needToFollow_X0_length rfl rfl rfl kv_X0_length ⟨Nat.le_of_ble_eq_true rfl, Nat.le_of_ble_eq_true rfl⟩) hK (z_mid (pjL_zk cI ad zk zm zb zs zr zu zt zf zg zbd zro zmc zmg zsp zjn zk) hP) rfl rfl rfl rfl hl.1 rfl (Nat.le_of_ble_eq_true rfl) dX2_needToFollow_12 ⟨Nat.zero_le _, Nat.zero_le _⟩ ?_
  obtain ⟨z_41, hq_41, hm⟩ := ob hm
  have J_41 : ∀ (y41 : Int32), z_41 = y41 → W p l e (headSpec wsX2_needToFollow ({ frames := 6, cells := 0, slots := 0, locals := 90 } : Room)).room s m ([.ref (ad 0), .int p1, .int p2] : List Value).toArray below meth c H locs 0 0 (MQ below (zQv (dC, dI) (wL cI ad zk zm zb zs zr zu zt zf zg zbd zro zmc zmg zsp zjn) [(cI, .int)] A) ([.ref (ad 0), .int p1, .int p2] : List Value).toArray s 0 0 A) (F0 m 41 ls [.int y41]) := by
    intro y41 ez
    rw [ez] at hm
    refine lv_istore_n (lv' := [(3, .int y41), (0, .ref (ad 0)), (1, .int p1), (2, .int p2)]) hx hb dX2_needToFollow_41 rfl hl (by decide) rfl (fun ls hl => ?_)
    refine lv_aload_n hx hb dX2_needToFollow_42 rfl (lv_at hl 1 rfl) ?_
    obtain ⟨r43, h_43, hm⟩ := ob hm
    refine z_callRi (As := []) (rest := []) (ci := 2) (q := (RX2, TX2, 15)) ⟨hx, hb, hml, hown, hts⟩ (c_X2_allKeys l dC dI cI ad zk zm zb zs zr zu zt zf zg zbd zro zmc zmg zsp zjn F r43 h_43) (cwV 0 hts gX2_needToFollow_X2_allKeys rfl rfl rfl kv_X2_allKeys ⟨Nat.le_of_ble_eq_true rfl, Nat.le_of_ble_eq_true rfl⟩) hK hP rfl rfl rfl rfl hl.1 rfl (Nat.le_of_ble_eq_true rfl) dX2_needToFollow_43 ⟨Nat.zero_le _, Nat.zero_le _⟩ ?_
    refine lv_iload_n hx hb dX2_needToFollow_46 rfl (lv_at hl 3 rfl) ?_
    refine lv_iadd hx hb dX2_needToFollow_47 ?_
    refine lv_sipush (v := 256) hx hb dX2_needToFollow_48 (by decide) ?_
    refine lv_icmp_gt (tgt := 58) hx hb dX2_needToFollow_51 (by decide) (fun c_51 => ?_) (fun c_51 => ?_)
    · have hm := it_t hm c_51
      exact zno hm
    · have hm := it_f hm c_51
      refine lv_iload_n hx hb dX2_needToFollow_54 rfl (lv_at hl 0 rfl) ?_
      refine lv_if_ne (tgt := 68) hx hb dX2_needToFollow_55 (by decide) (fun c_55 => ?_) (fun c_55 => ?_)
      · have hm := it_f hm c_55
        cases o2 hm
        exact W.vret hx hb hr (fun t ht hW => ⟨⟨(), rfl, trivial, by rw [ht]; exact hP, va_K.moved hW.alike hK, hD⟩, hS.F ht⟩) hS.2.2 dX2_needToFollow_68
      · have hm := it_t hm c_55
        exact zno hm
  have hm := hq_41
  refine lv_icmp_ne (tgt := 40) hx hb dX2_needToFollow_15 (by decide) (fun c_15 => ?_) (fun c_15 => ?_)
  · have hm := it_f hm c_15
    refine lv_iconst (v := 0) hx hb dX2_needToFollow_40 (by decide) ?_
    exact J_41 0 (o2 hm)
  · have hm := it_t hm c_15
    refine lv_aload_n hx hb dX2_needToFollow_18 rfl (lv_at hl 0 rfl) ?_
    refine va_get (D := (dC, dI)) (ci := 2) (v := .ref (ad 5)) (C := RX2) (T := TX2) (N := 15) hx hb hts ziX2 hown hK hP 0 rfl rfl 2 (by decide) zw1 (fun _ h9 => h9) rfl dX2_needToFollow_19 ?_
    refine lv_iload_n hx hb dX2_needToFollow_22 rfl (lv_at hl 1 rfl) ?_
    obtain ⟨r23, h_23, hm⟩ := ob hm
    refine z_callRi (As := [.int p1]) (rest := []) (ci := 0) (q := (RX0, TX0, 2)) ⟨hx, hb, hml, hown, hts⟩ (c_X0_below l dC dI cI (ad 5) (ad 6) 16 zb F p1 r23 h_23) (cwV 1 hts gX2_needToFollow_X0_below rfl rfl rfl kv_X0_below ⟨Nat.le_of_ble_eq_true rfl, Nat.le_of_ble_eq_true rfl⟩) hK (z_mid (pjL_zb cI ad zk zm zb zs zr zu zt zf zg zbd zro zmc zmg zsp zjn zb) hP) rfl rfl rfl rfl hl.1 rfl (Nat.le_of_ble_eq_true rfl) dX2_needToFollow_23 ⟨Nat.zero_le _, Nat.zero_le _⟩ ?_
    refine lv_aload_n hx hb dX2_needToFollow_26 rfl (lv_at hl 0 rfl) ?_
    refine va_get (D := (dC, dI)) (ci := 2) (v := .ref (ad 5)) (C := RX2) (T := TX2) (N := 15) hx hb hts ziX2 hown hK hP 0 rfl rfl 2 (by decide) zw1 (fun _ h9 => h9) rfl dX2_needToFollow_27 ?_
    obtain ⟨r30, h_30, hm⟩ := ob hm
    refine z_callRi (As := []) (rest := [.int r23]) (ci := 0) (q := (RX0, TX0, 2)) ⟨hx, hb, hml, hown, hts⟩ (c_X0_length l dC dI cI (ad 5) (ad 6) 16 zb F r30 h_30) (cwV 0 hts gX2_needToFollow_X0_length rfl rfl rfl kv_X0_length ⟨Nat.le_of_ble_eq_true rfl, Nat.le_of_ble_eq_true rfl⟩) hK (z_mid (pjL_zb cI ad zk zm zb zs zr zu zt zf zg zbd zro zmc zmg zsp zjn zb) hP) rfl rfl rfl rfl hl.1 rfl (Nat.le_of_ble_eq_true rfl) dX2_needToFollow_30 ⟨Nat.zero_le _, Nat.zero_le _⟩ ?_
    refine lv_icmp_ne (tgt := 40) hx hb dX2_needToFollow_33 (by decide) (fun c_33 => ?_) (fun c_33 => ?_)
    · have hm := it_f hm c_33
      refine lv_iconst (v := 0) hx hb dX2_needToFollow_40 (by decide) ?_
      exact J_41 0 (o2 hm)
    · have hm := it_t hm c_33
      refine lv_iconst (v := 1) hx hb dX2_needToFollow_36 (by decide) ?_
      refine lv_goto (tgt := 41) hx hb dX2_needToFollow_37 (by decide) ?_
      exact J_41 1 (o2 hm)
set_option maxHeartbeats 4000000 in
set_option maxRecDepth 100000 in
theorem c_X2_noteTailSlope (l : Launch) (dC : Nat → ClassId) (dI : Nat → Nat → Nat) (cI : ClassId) (ad : Nat → Nat) (zk : zN) (zm : zN) (zb : zN) (zs : zN) (zr : zN) (zu : zN) (zt : zT) (zf : zN) (zg : zN) (zbd : Int32) (zro : Int32) (zmc : Int32) (zmg : Int32) (zsp : Int32) (zjn : Int32) (F : Nat) (sz : Nat) (u_zr : zN) (u_zu : zN) (hm : X2_noteTailSlope F zs zr zu zt = some (u_zr, u_zu)) : Met l yX2_noteTailSlope wsX2_noteTailSlope ({ frames := 2, cells := 0, slots := 0, locals := 47 }) (va_Pc [.ref (ad 0)] (zW (dC, dI) (wL cI ad zk zm zb zs zr zu zt zf zg zbd zro zmc zmg zsp zjn) [(cI, .int)] sz)) (zQv (dC, dI) (wL cI ad zk zm zb zs u_zr u_zu zt zf zg zbd zro zmc zmg zsp zjn) [(cI, .int)] (va_A (wL cI ad zk zm zb zs zr zu zt zf zg zbd zro zmc zmg zsp zjn) sz)) 0 0 (va_A (wL cI ad zk zm zb zs zr zu zt zf zg zbd zro zmc zmg zsp zjn) sz) := by
  refine Met.ofW (cc := cX2_noteTailSlope) (maxL := 2) (ret := none) (by decide) rfl ?_
  intro p e s m args below meth c s₁ B hml hv
  obtain ⟨rfl, hsz, hP, hK, hD0⟩ := hv
  have hx := B.exec
  have hb := B.bytes
  have hr := B.returns
  have hts := atoms_spec (ws := wsX2_noteTailSlope) B.pre
  have hown : s.vm.findClass RX2 = some m.cls := findClass_of_methodNamed B.named
  have hlocks := B.notSynchronized
  subst hsz
  have hD := hD0.self (sz := s.heap.size)
  generalize hAe : va_A (wL cI ad zk zm zb zs zr zu zt zf zg zbd zro zmc zmg zsp zjn) s.heap.size = A at hD ⊢
  have hA : ∀ q : Nat, s.heap.size ≤ q → A q := fun q h => by rw [← hAe]; exact Or.inr h
  have hS : va_S A s.heap s.heap [] := va_S.rf
  generalize eL : ([] : List Loc) = locs at hS ⊢
  obtain ⟨H, eH⟩ : ∃ z : Heap, z = s.heap := ⟨_, rfl⟩
  have hP : va_P (dC, dI) vwCl (wL cI ad zk zm zb zs zr zu zt zf zg zbd zro zmc zmg zsp zjn) H := by rw [eH]; exact hP
  have hS : va_S A s.heap H locs := by rw [eH]; exact hS
  refine z_heap eH ?_
  have hl := lv_entry ([.ref (ad 0)]) (n := 2) (Nat.le_of_ble_eq_true rfl)
  rw [lg_entry_eq]
  generalize (lg_sl ([.ref (ad 0)]) ++ List.replicate (2 - (lg_sl ([.ref (ad 0)])).length) Slot.unset).toArray = ls at hl ⊢
  have hl : lv_has ls 2 [(0, .ref (ad 0))] := hl
  have zw0 := hts (.fieldLink RX2 24 "LearnedLedge" "starts" "LLearnedLedge$Numbers;") (List.mem_cons_of_mem _ (List.mem_append_left _ (List.mem_append_left _ (List.mem_append_left _ (List.mem_append_left _ (List.mem_of_getElem? (i := 0) rfl))))))
  have zw1 := hts (.fieldLink RX2 27 "LearnedLedge" "rises" "LLearnedLedge$Numbers;") (List.mem_cons_of_mem _ (List.mem_append_left _ (List.mem_append_left _ (List.mem_append_left _ (List.mem_append_left _ (List.mem_of_getElem? (i := 1) rfl))))))
  have zw2 := hts (.fieldLink RX2 36 "LearnedLedge" "tail" "LLearnedLedge$SlopeRange;") (List.mem_cons_of_mem _ (List.mem_append_left _ (List.mem_append_left _ (List.mem_append_left _ (List.mem_append_left _ (List.mem_of_getElem? (i := 2) rfl))))))
  have zw3 := hts (.fieldLink RX2 30 "LearnedLedge" "runs" "LLearnedLedge$Numbers;") (List.mem_cons_of_mem _ (List.mem_append_left _ (List.mem_append_left _ (List.mem_append_left _ (List.mem_append_left _ (List.mem_of_getElem? (i := 3) rfl))))))
  have ziX2 : ∀ w ∈ u_ws RX2 TX2 15, w ∈ wsX2_noteTailSlope := (fun _ h9 => (List.mem_cons_of_mem _ (List.mem_append_left _ (List.mem_append_left _ (List.mem_append_right _ h9)))))
  refine lv_aload_n hx hb dX2_noteTailSlope_0 rfl (lv_at hl 0 rfl) ?_
  refine va_get (D := (dC, dI)) (ci := 2) (v := .ref (ad 7)) (C := RX2) (T := TX2) (N := 15) hx hb hts ziX2 hown hK hP 0 rfl rfl 3 (by decide) zw0 (fun _ h9 => h9) rfl dX2_noteTailSlope_1 ?_
  obtain ⟨r4, h_4, hm⟩ := ob hm
  refine z_callRi (As := []) (rest := []) (ci := 0) (q := (RX0, TX0, 2)) ⟨hx, hb, hml, hown, hts⟩ (c_X0_length l dC dI cI (ad 7) (ad 8) 256 zs F r4 h_4) (cwV 0 hts gX2_noteTailSlope_X0_length rfl rfl rfl kv_X0_length ⟨Nat.le_of_ble_eq_true rfl, Nat.le_of_ble_eq_true rfl⟩) hK (z_mid (pjL_zs cI ad zk zm zb zs zr zu zt zf zg zbd zro zmc zmg zsp zjn zs) hP) rfl rfl rfl rfl hl.1 rfl (Nat.le_of_ble_eq_true rfl) dX2_noteTailSlope_4 ⟨Nat.zero_le _, Nat.zero_le _⟩ ?_
  refine lv_iconst (v := 1) hx hb dX2_noteTailSlope_7 (by decide) ?_
  refine lv_isub hx hb dX2_noteTailSlope_8 ?_
  refine lv_topi (fun x1 e_x1 => ?_)
  have hm := bnd_e hm e_x1
  refine lv_istore_n (lv' := [(1, .int x1), (0, .ref (ad 0))]) hx hb dX2_noteTailSlope_9 rfl hl (by decide) rfl (fun ls hl => ?_)
  refine lv_aload_n hx hb dX2_noteTailSlope_10 rfl (lv_at hl 1 rfl) ?_
  refine va_get (D := (dC, dI)) (ci := 2) (v := .ref (ad 9)) (C := RX2) (T := TX2) (N := 15) hx hb hts ziX2 hown hK hP 0 rfl rfl 4 (by decide) zw1 (fun _ h9 => h9) rfl dX2_noteTailSlope_11 ?_
  refine lv_iload_n hx hb dX2_noteTailSlope_14 rfl (lv_at hl 0 rfl) ?_
  refine lv_aload_n hx hb dX2_noteTailSlope_15 rfl (lv_at hl 1 rfl) ?_
  refine va_get (D := (dC, dI)) (ci := 2) (v := .ref (ad 13)) (C := RX2) (T := TX2) (N := 15) hx hb hts ziX2 hown hK hP 0 rfl rfl 6 (by decide) zw2 (fun _ h9 => h9) rfl dX2_noteTailSlope_16 ?_
  obtain ⟨r19, h_19, hm⟩ := ob hm
  refine z_callRi (As := []) (rest := [.int x1, .ref (ad 9)]) (ci := 1) (q := (RX1, TX1, 7)) ⟨hx, hb, hml, hown, hts⟩ (c_X1_leastRise l dC dI (ad 13) zt F r19 h_19) (cwV 0 hts gX2_noteTailSlope_X1_leastRise rfl rfl rfl kv_X1_leastRise ⟨Nat.le_of_ble_eq_true rfl, Nat.le_of_ble_eq_true rfl⟩) (hK.sub (tys' := []) [] rfl) (z_mid (pjL_zt cI ad zk zm zb zs zr zu zt zf zg zbd zro zmc zmg zsp zjn zt) hP) rfl rfl rfl rfl hl.1 rfl (Nat.le_of_ble_eq_true rfl) dX2_noteTailSlope_19 ⟨Nat.zero_le _, Nat.zero_le _⟩ ?_
  obtain ⟨zr22, h_22, hm⟩ := ob hm
  refine z_callWv (wc := (wN cI (ad 9) (ad 10) 256 zr)) (w1 := (wN cI (ad 9) (ad 10) 256 zr22)) (ws := (wL cI ad zk zm zb zs zr zu zt zf zg zbd zro zmc zmg zsp zjn)) (ws' := (wL cI ad zk zm zb zs zr22 zu zt zf zg zbd zro zmc zmg zsp zjn)) (As := [.int x1, .int r19]) (rest := []) (ci := 0) (q := (RX0, TX0, 2)) ⟨hx, hb, hml, hown, hts⟩ (c_X0_put l dC dI cI (ad 9) (ad 10) 256 zr F x1 r19 H.size zr22 h_22) (cwV 2 hts gX2_noteTailSlope_X0_put rfl rfl rfl kv_X0_put ⟨Nat.le_of_ble_eq_true rfl, Nat.le_of_ble_eq_true rfl⟩) hK hP hD hS hA (pjL_zr cI ad zk zm zb zs zr zu zt zf zg zbd zro zmc zmg zsp zjn zr22) ((paN cI (ad 9) (ad 10) 256 zr22).trans (paN cI (ad 9) (ad 10) 256 zr).symm) rfl rfl rfl rfl hl.1 rfl (Nat.le_of_ble_eq_true rfl) dX2_noteTailSlope_22 ⟨Nat.zero_le _, Nat.zero_le _⟩ (fun H locs hP hD hS => ?_)
  refine lv_aload_n hx hb dX2_noteTailSlope_25 rfl (lv_at hl 1 rfl) ?_
  refine va_get (D := (dC, dI)) (ci := 2) (v := .ref (ad 11)) (C := RX2) (T := TX2) (N := 15) hx hb hts ziX2 hown hK hP 0 rfl rfl 5 (by decide) zw3 (fun _ h9 => h9) rfl dX2_noteTailSlope_26 ?_
  refine lv_iload_n hx hb dX2_noteTailSlope_29 rfl (lv_at hl 0 rfl) ?_
  refine lv_aload_n hx hb dX2_noteTailSlope_30 rfl (lv_at hl 1 rfl) ?_
  refine va_get (D := (dC, dI)) (ci := 2) (v := .ref (ad 13)) (C := RX2) (T := TX2) (N := 15) hx hb hts ziX2 hown hK hP 0 rfl rfl 6 (by decide) zw2 (fun _ h9 => h9) rfl dX2_noteTailSlope_31 ?_
  obtain ⟨r34, h_34, hm⟩ := ob hm
  refine z_callRi (As := []) (rest := [.int x1, .ref (ad 11)]) (ci := 1) (q := (RX1, TX1, 7)) ⟨hx, hb, hml, hown, hts⟩ (c_X1_leastRun l dC dI (ad 13) zt F r34 h_34) (cwV 0 hts gX2_noteTailSlope_X1_leastRun rfl rfl rfl kv_X1_leastRun ⟨Nat.le_of_ble_eq_true rfl, Nat.le_of_ble_eq_true rfl⟩) (hK.sub (tys' := []) [] rfl) (z_mid (pjL_zt cI ad zk zm zb zs zr22 zu zt zf zg zbd zro zmc zmg zsp zjn zt) hP) rfl rfl rfl rfl hl.1 rfl (Nat.le_of_ble_eq_true rfl) dX2_noteTailSlope_34 ⟨Nat.zero_le _, Nat.zero_le _⟩ ?_
  obtain ⟨zu37, h_37, hm⟩ := ob hm
  refine z_callWv (wc := (wN cI (ad 11) (ad 12) 256 zu)) (w1 := (wN cI (ad 11) (ad 12) 256 zu37)) (ws := (wL cI ad zk zm zb zs zr22 zu zt zf zg zbd zro zmc zmg zsp zjn)) (ws' := (wL cI ad zk zm zb zs zr22 zu37 zt zf zg zbd zro zmc zmg zsp zjn)) (As := [.int x1, .int r34]) (rest := []) (ci := 0) (q := (RX0, TX0, 2)) ⟨hx, hb, hml, hown, hts⟩ (c_X0_put l dC dI cI (ad 11) (ad 12) 256 zu F x1 r34 H.size zu37 h_37) (cwV 2 hts gX2_noteTailSlope_X0_put rfl rfl rfl kv_X0_put ⟨Nat.le_of_ble_eq_true rfl, Nat.le_of_ble_eq_true rfl⟩) hK hP hD hS hA (pjL_zu cI ad zk zm zb zs zr22 zu zt zf zg zbd zro zmc zmg zsp zjn zu37) ((paN cI (ad 11) (ad 12) 256 zu37).trans (paN cI (ad 11) (ad 12) 256 zu).symm) rfl rfl rfl rfl hl.1 rfl (Nat.le_of_ble_eq_true rfl) dX2_noteTailSlope_37 ⟨Nat.zero_le _, Nat.zero_le _⟩ (fun H locs hP hD hS => ?_)
  cases o2 hm
  exact W.vret hx hb hr (fun t ht hW => ⟨⟨(), rfl, trivial, by rw [ht]; exact hP, va_K.moved hW.alike hK, hD⟩, hS.F ht⟩) hS.2.2 dX2_noteTailSlope_40
set_option maxHeartbeats 4000000 in
set_option maxRecDepth 100000 in
theorem c_X2_beginPiece (l : Launch) (dC : Nat → ClassId) (dI : Nat → Nat → Nat) (cI : ClassId) (ad : Nat → Nat) (zk : zN) (zm : zN) (zb : zN) (zs : zN) (zr : zN) (zu : zN) (zt : zT) (zf : zN) (zg : zN) (zbd : Int32) (zro : Int32) (zmc : Int32) (zmg : Int32) (zsp : Int32) (zjn : Int32) (F : Nat) (p1 : Int32) (p2 : Int32) (sz : Nat) (u_zs : zN) (u_zr : zN) (u_zu : zN) (u_zt : zT) (hm : X2_beginPiece F zs zr zu zt zbd p1 p2 = some (u_zs, u_zr, u_zu, u_zt)) : Met l yX2_beginPiece wsX2_beginPiece ({ frames := 2, cells := 0, slots := 0, locals := 47 }) (va_Pc [.ref (ad 0), .int p1, .int p2] (zW (dC, dI) (wL cI ad zk zm zb zs zr zu zt zf zg zbd zro zmc zmg zsp zjn) [(cI, .int)] sz)) (zQv (dC, dI) (wL cI ad zk zm zb u_zs u_zr u_zu u_zt zf zg zbd zro zmc zmg zsp zjn) [(cI, .int)] (va_A (wL cI ad zk zm zb zs zr zu zt zf zg zbd zro zmc zmg zsp zjn) sz)) 0 0 (va_A (wL cI ad zk zm zb zs zr zu zt zf zg zbd zro zmc zmg zsp zjn) sz) := by
  refine Met.ofW (cc := cX2_beginPiece) (maxL := 3) (ret := none) (by decide) rfl ?_
  intro p e s m args below meth c s₁ B hml hv
  obtain ⟨rfl, hsz, hP, hK, hD0⟩ := hv
  have hx := B.exec
  have hb := B.bytes
  have hr := B.returns
  have hts := atoms_spec (ws := wsX2_beginPiece) B.pre
  have hown : s.vm.findClass RX2 = some m.cls := findClass_of_methodNamed B.named
  have hlocks := B.notSynchronized
  subst hsz
  have hD := hD0.self (sz := s.heap.size)
  generalize hAe : va_A (wL cI ad zk zm zb zs zr zu zt zf zg zbd zro zmc zmg zsp zjn) s.heap.size = A at hD ⊢
  have hA : ∀ q : Nat, s.heap.size ≤ q → A q := fun q h => by rw [← hAe]; exact Or.inr h
  have hS : va_S A s.heap s.heap [] := va_S.rf
  generalize eL : ([] : List Loc) = locs at hS ⊢
  obtain ⟨H, eH⟩ : ∃ z : Heap, z = s.heap := ⟨_, rfl⟩
  have hP : va_P (dC, dI) vwCl (wL cI ad zk zm zb zs zr zu zt zf zg zbd zro zmc zmg zsp zjn) H := by rw [eH]; exact hP
  have hS : va_S A s.heap H locs := by rw [eH]; exact hS
  refine z_heap eH ?_
  have hl := lv_entry ([.ref (ad 0), .int p1, .int p2]) (n := 3) (Nat.le_of_ble_eq_true rfl)
  rw [lg_entry_eq]
  generalize (lg_sl ([.ref (ad 0), .int p1, .int p2]) ++ List.replicate (3 - (lg_sl ([.ref (ad 0), .int p1, .int p2])).length) Slot.unset).toArray = ls at hl ⊢
  have hl : lv_has ls 3 [(0, .ref (ad 0)), (1, .int p1), (2, .int p2)] := hl
  have zw0 := hts (.fieldLink RX2 36 "LearnedLedge" "tail" "LLearnedLedge$SlopeRange;") (List.mem_cons_of_mem _ (List.mem_append_left _ (List.mem_append_left _ (List.mem_append_left _ (List.mem_append_left _ (List.mem_of_getElem? (i := 0) rfl))))))
  have zw1 := hts (.fieldLink RX2 46 "LearnedLedge" "bound" "I") (List.mem_cons_of_mem _ (List.mem_append_left _ (List.mem_append_left _ (List.mem_append_left _ (List.mem_append_left _ (List.mem_of_getElem? (i := 1) rfl))))))
  have zw2 := hts (.fieldLink RX2 24 "LearnedLedge" "starts" "LLearnedLedge$Numbers;") (List.mem_cons_of_mem _ (List.mem_append_left _ (List.mem_append_left _ (List.mem_append_left _ (List.mem_append_left _ (List.mem_of_getElem? (i := 2) rfl))))))
  have zw3 := hts (.fieldLink RX2 27 "LearnedLedge" "rises" "LLearnedLedge$Numbers;") (List.mem_cons_of_mem _ (List.mem_append_left _ (List.mem_append_left _ (List.mem_append_left _ (List.mem_append_left _ (List.mem_of_getElem? (i := 3) rfl))))))
  have zw4 := hts (.fieldLink RX2 30 "LearnedLedge" "runs" "LLearnedLedge$Numbers;") (List.mem_cons_of_mem _ (List.mem_append_left _ (List.mem_append_left _ (List.mem_append_left _ (List.mem_append_left _ (List.mem_of_getElem? (i := 4) rfl))))))
  have ziX2 : ∀ w ∈ u_ws RX2 TX2 15, w ∈ wsX2_beginPiece := (fun _ h9 => (List.mem_cons_of_mem _ (List.mem_append_left _ (List.mem_append_left _ (List.mem_append_right _ h9)))))
  refine lv_aload_n hx hb dX2_beginPiece_0 rfl (lv_at hl 0 rfl) ?_
  refine va_get (D := (dC, dI)) (ci := 2) (v := .ref (ad 13)) (C := RX2) (T := TX2) (N := 15) hx hb hts ziX2 hown hK hP 0 rfl rfl 6 (by decide) zw0 (fun _ h9 => h9) rfl dX2_beginPiece_1 ?_
  refine lv_iload_n hx hb dX2_beginPiece_4 rfl (lv_at hl 1 rfl) ?_
  refine lv_iload_n hx hb dX2_beginPiece_5 rfl (lv_at hl 2 rfl) ?_
  refine lv_aload_n hx hb dX2_beginPiece_6 rfl (lv_at hl 0 rfl) ?_
  refine va_get (D := (dC, dI)) (ci := 2) (v := .int zbd) (C := RX2) (T := TX2) (N := 15) hx hb hts ziX2 hown hK hP 0 rfl rfl 9 (by decide) zw1 (fun _ h9 => h9) rfl dX2_beginPiece_7 ?_
  obtain ⟨zt10, h_10, hm⟩ := ob hm
  refine z_callWv (wc := (wT (ad 13) zt)) (w1 := (wT (ad 13) zt10)) (ws := (wL cI ad zk zm zb zs zr zu zt zf zg zbd zro zmc zmg zsp zjn)) (ws' := (wL cI ad zk zm zb zs zr zu zt10 zf zg zbd zro zmc zmg zsp zjn)) (As := [.int p1, .int p2, .int zbd]) (rest := []) (ci := 1) (q := (RX1, TX1, 7)) ⟨hx, hb, hml, hown, hts⟩ (c_X1_begin l dC dI (ad 13) zt F p1 p2 zbd H.size zt10 h_10) (cwV 3 hts gX2_beginPiece_X1_begin rfl rfl rfl kv_X1_begin ⟨Nat.le_of_ble_eq_true rfl, Nat.le_of_ble_eq_true rfl⟩) (hK.sub (tys' := []) [] rfl) hP hD hS hA (pjL_zt cI ad zk zm zb zs zr zu zt zf zg zbd zro zmc zmg zsp zjn zt10) ((paT (ad 13) zt10).trans (paT (ad 13) zt).symm) rfl rfl rfl rfl hl.1 rfl (Nat.le_of_ble_eq_true rfl) dX2_beginPiece_10 ⟨Nat.zero_le _, Nat.zero_le _⟩ (fun H locs hP hD hS => ?_)
  refine lv_aload_n hx hb dX2_beginPiece_13 rfl (lv_at hl 0 rfl) ?_
  refine va_get (D := (dC, dI)) (ci := 2) (v := .ref (ad 7)) (C := RX2) (T := TX2) (N := 15) hx hb hts ziX2 hown hK hP 0 rfl rfl 3 (by decide) zw2 (fun _ h9 => h9) rfl dX2_beginPiece_14 ?_
  refine lv_iload_n hx hb dX2_beginPiece_17 rfl (lv_at hl 2 rfl) ?_
  obtain ⟨zs18, h_18, hm⟩ := ob hm
  refine z_callWv (wc := (wN cI (ad 7) (ad 8) 256 zs)) (w1 := (wN cI (ad 7) (ad 8) 256 zs18)) (ws := (wL cI ad zk zm zb zs zr zu zt10 zf zg zbd zro zmc zmg zsp zjn)) (ws' := (wL cI ad zk zm zb zs18 zr zu zt10 zf zg zbd zro zmc zmg zsp zjn)) (As := [.int p2]) (rest := []) (ci := 0) (q := (RX0, TX0, 2)) ⟨hx, hb, hml, hown, hts⟩ (c_X0_push l dC dI cI (ad 7) (ad 8) 256 zs F p2 H.size zs18 h_18) (cwV 1 hts gX2_beginPiece_X0_push rfl rfl rfl kv_X0_push ⟨Nat.le_of_ble_eq_true rfl, Nat.le_of_ble_eq_true rfl⟩) hK hP hD hS hA (pjL_zs cI ad zk zm zb zs zr zu zt10 zf zg zbd zro zmc zmg zsp zjn zs18) ((paN cI (ad 7) (ad 8) 256 zs18).trans (paN cI (ad 7) (ad 8) 256 zs).symm) rfl rfl rfl rfl hl.1 rfl (Nat.le_of_ble_eq_true rfl) dX2_beginPiece_18 ⟨Nat.zero_le _, Nat.zero_le _⟩ (fun H locs hP hD hS => ?_)
  refine lv_aload_n hx hb dX2_beginPiece_21 rfl (lv_at hl 0 rfl) ?_
  refine va_get (D := (dC, dI)) (ci := 2) (v := .ref (ad 9)) (C := RX2) (T := TX2) (N := 15) hx hb hts ziX2 hown hK hP 0 rfl rfl 4 (by decide) zw3 (fun _ h9 => h9) rfl dX2_beginPiece_22 ?_
  refine lv_aload_n hx hb dX2_beginPiece_25 rfl (lv_at hl 0 rfl) ?_
  refine va_get (D := (dC, dI)) (ci := 2) (v := .ref (ad 13)) (C := RX2) (T := TX2) (N := 15) hx hb hts ziX2 hown hK hP 0 rfl rfl 6 (by decide) zw0 (fun _ h9 => h9) rfl dX2_beginPiece_26 ?_
  obtain ⟨r29, h_29, hm⟩ := ob hm
  refine z_callRi (As := []) (rest := [.ref (ad 9)]) (ci := 1) (q := (RX1, TX1, 7)) ⟨hx, hb, hml, hown, hts⟩ (c_X1_leastRise l dC dI (ad 13) zt10 F r29 h_29) (cwV 0 hts gX2_beginPiece_X1_leastRise rfl rfl rfl kv_X1_leastRise ⟨Nat.le_of_ble_eq_true rfl, Nat.le_of_ble_eq_true rfl⟩) (hK.sub (tys' := []) [] rfl) (z_mid (pjL_zt cI ad zk zm zb zs18 zr zu zt10 zf zg zbd zro zmc zmg zsp zjn zt10) hP) rfl rfl rfl rfl hl.1 rfl (Nat.le_of_ble_eq_true rfl) dX2_beginPiece_29 ⟨Nat.zero_le _, Nat.zero_le _⟩ ?_
  obtain ⟨zr32, h_32, hm⟩ := ob hm
  refine z_callWv (wc := (wN cI (ad 9) (ad 10) 256 zr)) (w1 := (wN cI (ad 9) (ad 10) 256 zr32)) (ws := (wL cI ad zk zm zb zs18 zr zu zt10 zf zg zbd zro zmc zmg zsp zjn)) (ws' := (wL cI ad zk zm zb zs18 zr32 zu zt10 zf zg zbd zro zmc zmg zsp zjn)) (As := [.int r29]) (rest := []) (ci := 0) (q := (RX0, TX0, 2)) ⟨hx, hb, hml, hown, hts⟩ (c_X0_push l dC dI cI (ad 9) (ad 10) 256 zr F r29 H.size zr32 h_32) (cwV 1 hts gX2_beginPiece_X0_push rfl rfl rfl kv_X0_push ⟨Nat.le_of_ble_eq_true rfl, Nat.le_of_ble_eq_true rfl⟩) hK hP hD hS hA (pjL_zr cI ad zk zm zb zs18 zr zu zt10 zf zg zbd zro zmc zmg zsp zjn zr32) ((paN cI (ad 9) (ad 10) 256 zr32).trans (paN cI (ad 9) (ad 10) 256 zr).symm) rfl rfl rfl rfl hl.1 rfl (Nat.le_of_ble_eq_true rfl) dX2_beginPiece_32 ⟨Nat.zero_le _, Nat.zero_le _⟩ (fun H locs hP hD hS => ?_)
  refine lv_aload_n hx hb dX2_beginPiece_35 rfl (lv_at hl 0 rfl) ?_
  refine va_get (D := (dC, dI)) (ci := 2) (v := .ref (ad 11)) (C := RX2) (T := TX2) (N := 15) hx hb hts ziX2 hown hK hP 0 rfl rfl 5 (by decide) zw4 (fun _ h9 => h9) rfl dX2_beginPiece_36 ?_
  refine lv_aload_n hx hb dX2_beginPiece_39 rfl (lv_at hl 0 rfl) ?_
  refine va_get (D := (dC, dI)) (ci := 2) (v := .ref (ad 13)) (C := RX2) (T := TX2) (N := 15) hx hb hts ziX2 hown hK hP 0 rfl rfl 6 (by decide) zw0 (fun _ h9 => h9) rfl dX2_beginPiece_40 ?_
  obtain ⟨r43, h_43, hm⟩ := ob hm
  refine z_callRi (As := []) (rest := [.ref (ad 11)]) (ci := 1) (q := (RX1, TX1, 7)) ⟨hx, hb, hml, hown, hts⟩ (c_X1_leastRun l dC dI (ad 13) zt10 F r43 h_43) (cwV 0 hts gX2_beginPiece_X1_leastRun rfl rfl rfl kv_X1_leastRun ⟨Nat.le_of_ble_eq_true rfl, Nat.le_of_ble_eq_true rfl⟩) (hK.sub (tys' := []) [] rfl) (z_mid (pjL_zt cI ad zk zm zb zs18 zr32 zu zt10 zf zg zbd zro zmc zmg zsp zjn zt10) hP) rfl rfl rfl rfl hl.1 rfl (Nat.le_of_ble_eq_true rfl) dX2_beginPiece_43 ⟨Nat.zero_le _, Nat.zero_le _⟩ ?_
  obtain ⟨zu46, h_46, hm⟩ := ob hm
  refine z_callWv (wc := (wN cI (ad 11) (ad 12) 256 zu)) (w1 := (wN cI (ad 11) (ad 12) 256 zu46)) (ws := (wL cI ad zk zm zb zs18 zr32 zu zt10 zf zg zbd zro zmc zmg zsp zjn)) (ws' := (wL cI ad zk zm zb zs18 zr32 zu46 zt10 zf zg zbd zro zmc zmg zsp zjn)) (As := [.int r43]) (rest := []) (ci := 0) (q := (RX0, TX0, 2)) ⟨hx, hb, hml, hown, hts⟩ (c_X0_push l dC dI cI (ad 11) (ad 12) 256 zu F r43 H.size zu46 h_46) (cwV 1 hts gX2_beginPiece_X0_push rfl rfl rfl kv_X0_push ⟨Nat.le_of_ble_eq_true rfl, Nat.le_of_ble_eq_true rfl⟩) hK hP hD hS hA (pjL_zu cI ad zk zm zb zs18 zr32 zu zt10 zf zg zbd zro zmc zmg zsp zjn zu46) ((paN cI (ad 11) (ad 12) 256 zu46).trans (paN cI (ad 11) (ad 12) 256 zu).symm) rfl rfl rfl rfl hl.1 rfl (Nat.le_of_ble_eq_true rfl) dX2_beginPiece_46 ⟨Nat.zero_le _, Nat.zero_le _⟩ (fun H locs hP hD hS => ?_)
  cases o2 hm
  exact W.vret hx hb hr (fun t ht hW => ⟨⟨(), rfl, trivial, by rw [ht]; exact hP, va_K.moved hW.alike hK, hD⟩, hS.F ht⟩) hS.2.2 dX2_beginPiece_49
