set_option maxHeartbeats 4000000 in
set_option maxRecDepth 100000 in
theorem c_X2_endOf (l : Launch) (dC : Nat → ClassId) (dI : Nat → Nat → Nat) (cI : ClassId) (ad : Nat → Nat) (zk : zN) (zm : zN) (zb : zN) (zs : zN) (zr : zN) (zu : zN) (zt : zT) (zf : zN) (zg : zN) (zbd : Int32) (zro : Int32) (zmc : Int32) (zmg : Int32) (zsp : Int32) (zjn : Int32) (F : Nat) (p1 : Int32) (r : Int32) (hm : X2_endOf F zk zs p1 = some r) : Met l yX2_endOf wsX2_endOf ({ frames := 2, cells := 0, slots := 0, locals := 42 }) (va_Pc [.ref (ad 0), .int p1] (zR (dC, dI) (wL cI ad zk zm zb zs zr zu zt zf zg zbd zro zmc zmg zsp zjn) [(cI, .int)])) (vp_Si (fun v => v = r)) 0 0 (fun _ => False) := by
  refine Met.ofW (cc := cX2_endOf) (maxL := 2) (ret := (some .int)) (by decide) rfl ?_
  intro p e s m args below meth c s₁ B hml hv
  obtain ⟨rfl, hP, hK⟩ := hv
  have hx := B.exec
  have hb := B.bytes
  have hr := B.returns
  have hts := atoms_spec (ws := wsX2_endOf) B.pre
  have hown : s.vm.findClass RX2 = some m.cls := findClass_of_methodNamed B.named
  have hlocks := B.notSynchronized
  have hl := lv_entry ([.ref (ad 0), .int p1]) (n := 2) (Nat.le_of_ble_eq_true rfl)
  rw [lg_entry_eq]
  generalize (lg_sl ([.ref (ad 0), .int p1]) ++ List.replicate (2 - (lg_sl ([.ref (ad 0), .int p1])).length) Slot.unset).toArray = ls at hl ⊢
  have hl : lv_has ls 2 [(0, .ref (ad 0)), (1, .int p1)] := hl
  have zw0 := hts (.fieldLink RX2 24 "LearnedLedge" "starts" "LLearnedLedge$Numbers;") (List.mem_cons_of_mem _ (List.mem_append_left _ (List.mem_append_left _ (List.mem_of_getElem? (i := 0) rfl))))
  have zw1 := hts (.fieldLink RX2 14 "LearnedLedge" "keys" "LLearnedLedge$Numbers;") (List.mem_cons_of_mem _ (List.mem_append_left _ (List.mem_append_left _ (List.mem_of_getElem? (i := 1) rfl))))
  have ziX2 : ∀ w ∈ u_ws RX2 TX2 15, w ∈ wsX2_endOf := (fun _ h9 => (List.mem_cons_of_mem _ (List.mem_append_left _ (List.mem_append_right _ h9))))
  refine lv_aload_n hx hb dX2_endOf_0 rfl (lv_at hl 0 rfl) ?_
  refine va_get (D := (dC, dI)) (ci := 2) (v := .ref (ad 7)) (C := RX2) (T := TX2) (N := 15) hx hb hts ziX2 hown hK hP 0 rfl rfl 3 (by decide) zw0 (fun _ h9 => h9) rfl dX2_endOf_1 ?_
  refine lv_iload_n hx hb dX2_endOf_4 rfl (lv_at hl 1 rfl) ?_
  refine lv_iconst (v := 1) hx hb dX2_endOf_5 (by decide) ?_
  refine lv_iadd hx hb dX2_endOf_6 ?_
  obtain ⟨r7, h_7, hm⟩ := ob hm
  refine z_callRi (As := [.int (p1 + 1)]) (rest := []) (ci := 0) (q := (RX0, TX0, 2)) ⟨hx, hb, hml, hown, hts⟩ (c_X0_has l dC dI cI (ad 7) (ad 8) 256 zs F (p1 + 1) r7 h_7) (cwV 1 hts gX2_endOf_X0_has rfl rfl rfl kv_X0_has ⟨Nat.le_of_ble_eq_true rfl, Nat.le_of_ble_eq_true rfl⟩) hK (z_mid (pjL_zs cI ad zk zm zb zs zr zu zt zf zg zbd zro zmc zmg zsp zjn zs) hP) rfl rfl rfl rfl hl.1 rfl (Nat.le_of_ble_eq_true rfl) dX2_endOf_7 ⟨Nat.zero_le _, Nat.zero_le _⟩ ?_
  refine lv_if_eq (tgt := 26) hx hb dX2_endOf_10 (by decide) (fun c_10 => ?_) (fun c_10 => ?_)
  · have hm := it_t hm c_10
    refine lv_aload_n hx hb dX2_endOf_26 rfl (lv_at hl 0 rfl) ?_
    refine va_get (D := (dC, dI)) (ci := 2) (v := .ref (ad 1)) (C := RX2) (T := TX2) (N := 15) hx hb hts ziX2 hown hK hP 0 rfl rfl 0 (by decide) zw1 (fun _ h9 => h9) rfl dX2_endOf_27 ?_
    obtain ⟨r30, h_30, hm⟩ := ob hm
    refine z_callRi (As := []) (rest := []) (ci := 0) (q := (RX0, TX0, 2)) ⟨hx, hb, hml, hown, hts⟩ (c_X0_length l dC dI cI (ad 1) (ad 2) 256 zk F r30 h_30) (cwV 0 hts gX2_endOf_X0_length rfl rfl rfl kv_X0_length ⟨Nat.le_of_ble_eq_true rfl, Nat.le_of_ble_eq_true rfl⟩) hK (z_mid (pjL_zk cI ad zk zm zb zs zr zu zt zf zg zbd zro zmc zmg zsp zjn zk) hP) rfl rfl rfl rfl hl.1 rfl (Nat.le_of_ble_eq_true rfl) dX2_endOf_30 ⟨Nat.zero_le _, Nat.zero_le _⟩ ?_
    exact W.iret hx hb hr (fun t ht hW => ⟨_, rfl, (o2 hm).symm, ht⟩) (fun q h => absurd h List.not_mem_nil) dX2_endOf_33
  · have hm := it_f hm c_10
    refine lv_aload_n hx hb dX2_endOf_13 rfl (lv_at hl 0 rfl) ?_
    refine va_get (D := (dC, dI)) (ci := 2) (v := .ref (ad 7)) (C := RX2) (T := TX2) (N := 15) hx hb hts ziX2 hown hK hP 0 rfl rfl 3 (by decide) zw0 (fun _ h9 => h9) rfl dX2_endOf_14 ?_
    refine lv_iload_n hx hb dX2_endOf_17 rfl (lv_at hl 1 rfl) ?_
    refine lv_iconst (v := 1) hx hb dX2_endOf_18 (by decide) ?_
    refine lv_iadd hx hb dX2_endOf_19 ?_
    obtain ⟨r20, h_20, hm⟩ := ob hm
    refine z_callRi (As := [.int (p1 + 1)]) (rest := []) (ci := 0) (q := (RX0, TX0, 2)) ⟨hx, hb, hml, hown, hts⟩ (c_X0_at l dC dI cI (ad 7) (ad 8) 256 zs F (p1 + 1) r20 h_20) (cwV 1 hts gX2_endOf_X0_at rfl rfl rfl kv_X0_at ⟨Nat.le_of_ble_eq_true rfl, Nat.le_of_ble_eq_true rfl⟩) hK (z_mid (pjL_zs cI ad zk zm zb zs zr zu zt zf zg zbd zro zmc zmg zsp zjn zs) hP) rfl rfl rfl rfl hl.1 rfl (Nat.le_of_ble_eq_true rfl) dX2_endOf_20 ⟨Nat.zero_le _, Nat.zero_le _⟩ ?_
    refine lv_goto (tgt := 33) hx hb dX2_endOf_23 (by decide) ?_
    exact W.iret hx hb hr (fun t ht hW => ⟨_, rfl, (o2 hm).symm, ht⟩) (fun q h => absurd h List.not_mem_nil) dX2_endOf_33
set_option maxHeartbeats 4000000 in
set_option maxRecDepth 100000 in
theorem c_X2_mergePiece (l : Launch) (dC : Nat → ClassId) (dI : Nat → Nat → Nat) (cI : ClassId) (ad : Nat → Nat) (zk : zN) (zm : zN) (zb : zN) (zs : zN) (zr : zN) (zu : zN) (zt : zT) (zf : zN) (zg : zN) (zbd : Int32) (zro : Int32) (zmc : Int32) (zmg : Int32) (zsp : Int32) (zjn : Int32) (F : Nat) (p1 : Int32) (sz : Nat) (u_zt : zT) (u_zf : zN) (u_zg : zN) (u_zsp : Int32) (hm : X2_mergePiece F zk zm zb zs zt zf zg zbd zsp p1 = some (u_zt, u_zf, u_zg, u_zsp)) : Met l yX2_mergePiece wsX2_mergePiece ({ frames := 3, cells := 0, slots := 0, locals := 70 }) (va_Pc [.ref (ad 0), .int p1] (zW (dC, dI) (wL cI ad zk zm zb zs zr zu zt zf zg zbd zro zmc zmg zsp zjn) [(cI, .int)] sz)) (zQv (dC, dI) (wL cI ad zk zm zb zs zr zu u_zt u_zf u_zg zbd zro zmc zmg u_zsp zjn) [(cI, .int)] (va_A (wL cI ad zk zm zb zs zr zu zt zf zg zbd zro zmc zmg zsp zjn) sz)) 0 0 (va_A (wL cI ad zk zm zb zs zr zu zt zf zg zbd zro zmc zmg zsp zjn) sz) := by
  refine Met.ofW (cc := cX2_mergePiece) (maxL := 6) (ret := none) (by decide) rfl ?_
  intro p e s m args below meth c s₁ B hml hv
  obtain ⟨rfl, hsz, hP, hK, hD0⟩ := hv
  have hx := B.exec
  have hb := B.bytes
  have hr := B.returns
  have hts := atoms_spec (ws := wsX2_mergePiece) B.pre
  have hown : s.vm.findClass RX2 = some m.cls := findClass_of_methodNamed B.named
  have hlocks := B.notSynchronized
  subst hsz
  have hD := hD0.self (sz := s.heap.size)
  generalize hAe : va_A (wL cI ad zk zm zb zs zr zu zt zf zg zbd zro zmc zmg zsp zjn) s.heap.size = A at hD ⊢
  have hA : ∀ q : Nat, s.heap.size ≤ q → A q := fun q h => by rw [← hAe]; exact Or.inr h
  have hS : va_S A s.heap s.heap [] := va_S.rf
  generalize eL : ([] : List Loc) = locs at hS ⊢
  obtain ⟨H, eH⟩ : ∃ z : Heap, z = s.heap := ⟨_, rfl⟩
  have hP : va_P (dC, dI) vwCl (wL cI ad zk zm zb zs zr zu zt zf zg zbd zro zmc zmg zsp zjn) H := by rw [eH]; exact hP
  have hS : va_S A s.heap H locs := by rw [eH]; exact hS
  refine z_heap eH ?_
  have hl := lv_entry ([.ref (ad 0), .int p1]) (n := 6) (Nat.le_of_ble_eq_true rfl)
  rw [lg_entry_eq]
  generalize (lg_sl ([.ref (ad 0), .int p1]) ++ List.replicate (6 - (lg_sl ([.ref (ad 0), .int p1])).length) Slot.unset).toArray = ls at hl ⊢
  have hl : lv_has ls 6 [(0, .ref (ad 0)), (1, .int p1)] := hl
  have zw0 := hts (.fieldLink RX2 21 "LearnedLedge" "buffer" "LLearnedLedge$Numbers;") (List.mem_cons_of_mem _ (List.mem_append_left _ (List.mem_append_left _ (List.mem_append_left _ (List.mem_append_left _ (List.mem_of_getElem? (i := 0) rfl))))))
  have zw1 := hts (.fieldLink RX2 24 "LearnedLedge" "starts" "LLearnedLedge$Numbers;") (List.mem_cons_of_mem _ (List.mem_append_left _ (List.mem_append_left _ (List.mem_append_left _ (List.mem_append_left _ (List.mem_of_getElem? (i := 1) rfl))))))
  have zw2 := hts (.fieldLink RX2 40 "LearnedLedge" "freshKeys" "LLearnedLedge$Numbers;") (List.mem_cons_of_mem _ (List.mem_append_left _ (List.mem_append_left _ (List.mem_append_left _ (List.mem_append_left _ (List.mem_of_getElem? (i := 2) rfl))))))
  have zw3 := hts (.fieldLink RX2 43 "LearnedLedge" "freshStarts" "LLearnedLedge$Numbers;") (List.mem_cons_of_mem _ (List.mem_append_left _ (List.mem_append_left _ (List.mem_append_left _ (List.mem_append_left _ (List.mem_of_getElem? (i := 3) rfl))))))
  have ziX2 : ∀ w ∈ u_ws RX2 TX2 15, w ∈ wsX2_mergePiece := (fun _ h9 => (List.mem_cons_of_mem _ (List.mem_append_left _ (List.mem_append_left _ (List.mem_append_right _ h9)))))
  refine lv_iload_n hx hb dX2_mergePiece_0 rfl (lv_at hl 1 rfl) ?_
  obtain ⟨z_20, hq_20, hm⟩ := ob hm
  have J_20 : ∀ (y20 : Int32), z_20 = y20 → W p l e (headSpec wsX2_mergePiece ({ frames := 3, cells := 0, slots := 0, locals := 70 } : Room)).room s m ([.ref (ad 0), .int p1] : List Value).toArray below meth c H locs 0 0 (MQ below (zQv (dC, dI) (wL cI ad zk zm zb zs zr zu u_zt u_zf u_zg zbd zro zmc zmg u_zsp zjn) [(cI, .int)] A) ([.ref (ad 0), .int p1] : List Value).toArray s 0 0 A) (F0 m 20 ls [.int y20]) := by
    intro y20 ez
    rw [ez] at hm
    refine lv_istore_n (lv' := [(2, .int y20), (0, .ref (ad 0)), (1, .int p1)]) hx hb dX2_mergePiece_20 rfl hl (by decide) rfl (fun ls hl => ?_)
    refine lv_aload_n hx hb dX2_mergePiece_21 rfl (lv_at hl 1 rfl) ?_
    refine va_get (D := (dC, dI)) (ci := 2) (v := .ref (ad 7)) (C := RX2) (T := TX2) (N := 15) hx hb hts ziX2 hown hK hP 0 rfl rfl 3 (by decide) zw1 (fun _ h9 => h9) rfl dX2_mergePiece_22 ?_
    refine lv_iload_n hx hb dX2_mergePiece_25 rfl (lv_at hl 2 rfl) ?_
    refine lv_iconst (v := 1) hx hb dX2_mergePiece_26 (by decide) ?_
    refine lv_iadd hx hb dX2_mergePiece_27 ?_
    obtain ⟨r28, h_28, hm⟩ := ob hm
    refine z_callRi (As := [.int (p1 + 1)]) (rest := []) (ci := 0) (q := (RX0, TX0, 2)) ⟨hx, hb, hml, hown, hts⟩ (c_X0_has l dC dI cI (ad 7) (ad 8) 256 zs F (p1 + 1) r28 h_28) (cwV 1 hts gX2_mergePiece_X0_has rfl rfl rfl kv_X0_has ⟨Nat.le_of_ble_eq_true rfl, Nat.le_of_ble_eq_true rfl⟩) hK (z_mid (pjL_zs cI ad zk zm zb zs zr zu zt zf zg zbd zro zmc zmg zsp zjn zs) hP) rfl rfl rfl rfl hl.1 rfl (Nat.le_of_ble_eq_true rfl) dX2_mergePiece_28 ⟨Nat.zero_le _, Nat.zero_le _⟩ ?_
    obtain ⟨z_58, hq_58, hm⟩ := ob hm
    have J_58 : ∀ (y58 : Int32), z_58 = y58 → W p l e (headSpec wsX2_mergePiece ({ frames := 3, cells := 0, slots := 0, locals := 70 } : Room)).room s m ([.ref (ad 0), .int p1] : List Value).toArray below meth c H locs 0 0 (MQ below (zQv (dC, dI) (wL cI ad zk zm zb zs zr zu u_zt u_zf u_zg zbd zro zmc zmg u_zsp zjn) [(cI, .int)] A) ([.ref (ad 0), .int p1] : List Value).toArray s 0 0 A) (F0 m 58 ls [.int y58]) := by
      intro y58 ez
      rw [ez] at hm
      refine lv_istore_n (lv' := [(3, .int y58), (2, .int y20), (0, .ref (ad 0)), (1, .int p1)]) hx hb dX2_mergePiece_58 rfl hl (by decide) rfl (fun ls hl => ?_)
      refine lv_aload_n hx hb dX2_mergePiece_59 rfl (lv_at hl 2 rfl) ?_
      refine va_get (D := (dC, dI)) (ci := 2) (v := .ref (ad 14)) (C := RX2) (T := TX2) (N := 15) hx hb hts ziX2 hown hK hP 0 rfl rfl 7 (by decide) zw2 (fun _ h9 => h9) rfl dX2_mergePiece_60 ?_
      obtain ⟨r63, h_63, hm⟩ := ob hm
      refine z_callRi (As := []) (rest := []) (ci := 0) (q := (RX0, TX0, 2)) ⟨hx, hb, hml, hown, hts⟩ (c_X0_length l dC dI cI (ad 14) (ad 15) 256 zf F r63 h_63) (cwV 0 hts gX2_mergePiece_X0_length rfl rfl rfl kv_X0_length ⟨Nat.le_of_ble_eq_true rfl, Nat.le_of_ble_eq_true rfl⟩) hK (z_mid (pjL_zf cI ad zk zm zb zs zr zu zt zf zg zbd zro zmc zmg zsp zjn zf) hP) rfl rfl rfl rfl hl.1 rfl (Nat.le_of_ble_eq_true rfl) dX2_mergePiece_63 ⟨Nat.zero_le _, Nat.zero_le _⟩ ?_
      refine lv_istore (lv' := [(4, .int r63), (3, .int y58), (2, .int y20), (0, .ref (ad 0)), (1, .int p1)]) hx hb dX2_mergePiece_66 hl (by decide) rfl (fun ls hl => ?_)
      refine lv_aload_n hx hb dX2_mergePiece_68 rfl (lv_at hl 3 rfl) ?_
      refine lv_aload_n hx hb dX2_mergePiece_69 rfl (lv_at hl 3 rfl) ?_
      refine va_get (D := (dC, dI)) (ci := 2) (v := .ref (ad 7)) (C := RX2) (T := TX2) (N := 15) hx hb hts ziX2 hown hK hP 0 rfl rfl 3 (by decide) zw1 (fun _ h9 => h9) rfl dX2_mergePiece_70 ?_
      refine lv_iload_n hx hb dX2_mergePiece_73 rfl (lv_at hl 4 rfl) ?_
      obtain ⟨r74, h_74, hm⟩ := ob hm
      refine z_callRi (As := [.int p1]) (rest := [.ref (ad 0)]) (ci := 0) (q := (RX0, TX0, 2)) ⟨hx, hb, hml, hown, hts⟩ (c_X0_at l dC dI cI (ad 7) (ad 8) 256 zs F p1 r74 h_74) (cwV 1 hts gX2_mergePiece_X0_at rfl rfl rfl kv_X0_at ⟨Nat.le_of_ble_eq_true rfl, Nat.le_of_ble_eq_true rfl⟩) hK (z_mid (pjL_zs cI ad zk zm zb zs zr zu zt zf zg zbd zro zmc zmg zsp zjn zs) hP) rfl rfl rfl rfl hl.1 rfl (Nat.le_of_ble_eq_true rfl) dX2_mergePiece_74 ⟨Nat.zero_le _, Nat.zero_le _⟩ ?_
      refine lv_aload_n hx hb dX2_mergePiece_77 rfl (lv_at hl 3 rfl) ?_
      refine lv_iload_n hx hb dX2_mergePiece_78 rfl (lv_at hl 4 rfl) ?_
      obtain ⟨r79, h_79, hm⟩ := ob hm
      refine z_callRi (As := [.int p1]) (rest := [.int r74, .ref (ad 0)]) (ci := 2) (q := (RX2, TX2, 15)) ⟨hx, hb, hml, hown, hts⟩ (c_X2_endOf l dC dI cI ad zk zm zb zs zr zu zt zf zg zbd zro zmc zmg zsp zjn F p1 r79 h_79) (cwV 1 hts gX2_mergePiece_X2_endOf rfl rfl rfl kv_X2_endOf ⟨Nat.le_of_ble_eq_true rfl, Nat.le_of_ble_eq_true rfl⟩) hK hP rfl rfl rfl rfl hl.1 rfl (Nat.le_of_ble_eq_true rfl) dX2_mergePiece_79 ⟨Nat.zero_le _, Nat.zero_le _⟩ ?_
      refine lv_iload_n hx hb dX2_mergePiece_82 rfl (lv_at hl 2 rfl) ?_
      refine lv_iload_n hx hb dX2_mergePiece_83 rfl (lv_at hl 1 rfl) ?_
      obtain ⟨⟨r84, zf84⟩, h_84, hm⟩ := ob hm
      refine z_callWi (wc := (wL cI ad zk zm zb zs zr zu zt zf zg zbd zro zmc zmg zsp zjn)) (w1 := (wL cI ad zk zm zb zs zr zu zt zf84 zg zbd zro zmc zmg zsp zjn)) (ws := (wL cI ad zk zm zb zs zr zu zt zf zg zbd zro zmc zmg zsp zjn)) (ws' := (wL cI ad zk zm zb zs zr zu zt zf84 zg zbd zro zmc zmg zsp zjn)) (As := [.int r74, .int r79, .int y20, .int y58]) (rest := []) (ci := 2) (q := (RX2, TX2, 15)) ⟨hx, hb, hml, hown, hts⟩ (c_X2_gather l dC dI cI ad zk zm zb zs zr zu zt zf zg zbd zro zmc zmg zsp zjn F r74 r79 y20 y58 H.size r84 zf84 h_84) (cwV 4 hts gX2_mergePiece_X2_gather rfl rfl rfl kv_X2_gather ⟨Nat.le_of_ble_eq_true rfl, Nat.le_of_ble_eq_true rfl⟩) hK hP hD hS hA (z_spAll (wL cI ad zk zm zb zs zr zu zt zf zg zbd zro zmc zmg zsp zjn) (wL cI ad zk zm zb zs zr zu zt zf84 zg zbd zro zmc zmg zsp zjn)) ((paL cI ad zk zm zb zs zr zu zt zf84 zg zbd zro zmc zmg zsp zjn).trans (paL cI ad zk zm zb zs zr zu zt zf zg zbd zro zmc zmg zsp zjn).symm) rfl rfl rfl rfl hl.1 rfl (Nat.le_of_ble_eq_true rfl) dX2_mergePiece_84 ⟨Nat.zero_le _, Nat.zero_le _⟩ (fun H locs hP hD hS => ?_)
      refine lv_istore (lv' := [(5, .int r84), (4, .int r63), (3, .int y58), (2, .int y20), (0, .ref (ad 0)), (1, .int p1)]) hx hb dX2_mergePiece_87 hl (by decide) rfl (fun ls hl => ?_)
      refine lv_iload hx hb dX2_mergePiece_89 (lv_at hl 0 rfl) ?_
      refine lv_if_ne (tgt := 99) hx hb dX2_mergePiece_91 (by decide) (fun c_91 => ?_) (fun c_91 => ?_)
      · have hm := it_f hm c_91
        refine lv_aload_n hx hb dX2_mergePiece_99 rfl (lv_at hl 4 rfl) ?_
        refine lv_iload hx hb dX2_mergePiece_100 (lv_at hl 1 rfl) ?_
        obtain ⟨⟨zt102, zg102, zsp102⟩, h_102, hm⟩ := ob hm
        refine z_callWv (wc := (wL cI ad zk zm zb zs zr zu zt zf84 zg zbd zro zmc zmg zsp zjn)) (w1 := (wL cI ad zk zm zb zs zr zu zt102 zf84 zg102 zbd zro zmc zmg zsp102 zjn)) (ws := (wL cI ad zk zm zb zs zr zu zt zf84 zg zbd zro zmc zmg zsp zjn)) (ws' := (wL cI ad zk zm zb zs zr zu zt102 zf84 zg102 zbd zro zmc zmg zsp102 zjn)) (As := [.int r63]) (rest := []) (ci := 2) (q := (RX2, TX2, 15)) ⟨hx, hb, hml, hown, hts⟩ (c_X2_cutFresh l dC dI cI ad zk zm zb zs zr zu zt zf84 zg zbd zro zmc zmg zsp zjn F r63 H.size zt102 zg102 zsp102 h_102) (cwV 1 hts gX2_mergePiece_X2_cutFresh rfl rfl rfl kv_X2_cutFresh ⟨Nat.le_of_ble_eq_true rfl, Nat.le_of_ble_eq_true rfl⟩) hK hP hD hS hA (z_spAll (wL cI ad zk zm zb zs zr zu zt zf84 zg zbd zro zmc zmg zsp zjn) (wL cI ad zk zm zb zs zr zu zt102 zf84 zg102 zbd zro zmc zmg zsp102 zjn)) ((paL cI ad zk zm zb zs zr zu zt102 zf84 zg102 zbd zro zmc zmg zsp102 zjn).trans (paL cI ad zk zm zb zs zr zu zt zf84 zg zbd zro zmc zmg zsp zjn).symm) rfl rfl rfl rfl hl.1 rfl (Nat.le_of_ble_eq_true rfl) dX2_mergePiece_102 ⟨Nat.zero_le _, Nat.zero_le _⟩ (fun H locs hP hD hS => ?_)
        refine lv_goto (tgt := 117) hx hb dX2_mergePiece_105 (by decide) ?_
        cases o2 hm
        exact W.vret hx hb hr (fun t ht hW => ⟨⟨(), rfl, trivial, by rw [ht]; exact hP, va_K.moved hW.alike hK, hD⟩, hS.F ht⟩) hS.2.2 dX2_mergePiece_117
      · have hm := it_t hm c_91
        refine lv_iload_n hx hb dX2_mergePiece_94 rfl (lv_at hl 3 rfl) ?_
        refine lv_iload_n hx hb dX2_mergePiece_95 rfl (lv_at hl 2 rfl) ?_
        refine lv_icmp_ge (tgt := 108) hx hb dX2_mergePiece_96 (by decide) (fun c_96 => ?_) (fun c_96 => ?_)
        · have hm := it_t hm c_96
          refine lv_aload_n hx hb dX2_mergePiece_108 rfl (lv_at hl 4 rfl) ?_
          refine va_get (D := (dC, dI)) (ci := 2) (v := .ref (ad 16)) (C := RX2) (T := TX2) (N := 15) hx hb hts ziX2 hown hK hP 0 rfl rfl 8 (by decide) zw3 (fun _ h9 => h9) rfl dX2_mergePiece_109 ?_
          refine lv_iload hx hb dX2_mergePiece_112 (lv_at hl 1 rfl) ?_
          obtain ⟨zg114, h_114, hm⟩ := ob hm
          refine z_callWv (wc := (wN cI (ad 16) (ad 17) 256 zg)) (w1 := (wN cI (ad 16) (ad 17) 256 zg114)) (ws := (wL cI ad zk zm zb zs zr zu zt zf84 zg zbd zro zmc zmg zsp zjn)) (ws' := (wL cI ad zk zm zb zs zr zu zt zf84 zg114 zbd zro zmc zmg zsp zjn)) (As := [.int r63]) (rest := []) (ci := 0) (q := (RX0, TX0, 2)) ⟨hx, hb, hml, hown, hts⟩ (c_X0_push l dC dI cI (ad 16) (ad 17) 256 zg F r63 H.size zg114 h_114) (cwV 1 hts gX2_mergePiece_X0_push rfl rfl rfl kv_X0_push ⟨Nat.le_of_ble_eq_true rfl, Nat.le_of_ble_eq_true rfl⟩) hK hP hD hS hA (pjL_zg cI ad zk zm zb zs zr zu zt zf84 zg zbd zro zmc zmg zsp zjn zg114) ((paN cI (ad 16) (ad 17) 256 zg114).trans (paN cI (ad 16) (ad 17) 256 zg).symm) rfl rfl rfl rfl hl.1 rfl (Nat.le_of_ble_eq_true rfl) dX2_mergePiece_114 ⟨Nat.zero_le _, Nat.zero_le _⟩ (fun H locs hP hD hS => ?_)
          cases o2 hm
          exact W.vret hx hb hr (fun t ht hW => ⟨⟨(), rfl, trivial, by rw [ht]; exact hP, va_K.moved hW.alike hK, hD⟩, hS.F ht⟩) hS.2.2 dX2_mergePiece_117
        · have hm := it_f hm c_96
          refine lv_aload_n hx hb dX2_mergePiece_99 rfl (lv_at hl 4 rfl) ?_
          refine lv_iload hx hb dX2_mergePiece_100 (lv_at hl 1 rfl) ?_
          obtain ⟨⟨zt102_1, zg102_1, zsp102_1⟩, h_102, hm⟩ := ob hm
          refine z_callWv (wc := (wL cI ad zk zm zb zs zr zu zt zf84 zg zbd zro zmc zmg zsp zjn)) (w1 := (wL cI ad zk zm zb zs zr zu zt102_1 zf84 zg102_1 zbd zro zmc zmg zsp102_1 zjn)) (ws := (wL cI ad zk zm zb zs zr zu zt zf84 zg zbd zro zmc zmg zsp zjn)) (ws' := (wL cI ad zk zm zb zs zr zu zt102_1 zf84 zg102_1 zbd zro zmc zmg zsp102_1 zjn)) (As := [.int r63]) (rest := []) (ci := 2) (q := (RX2, TX2, 15)) ⟨hx, hb, hml, hown, hts⟩ (c_X2_cutFresh l dC dI cI ad zk zm zb zs zr zu zt zf84 zg zbd zro zmc zmg zsp zjn F r63 H.size zt102_1 zg102_1 zsp102_1 h_102) (cwV 1 hts gX2_mergePiece_X2_cutFresh rfl rfl rfl kv_X2_cutFresh ⟨Nat.le_of_ble_eq_true rfl, Nat.le_of_ble_eq_true rfl⟩) hK hP hD hS hA (z_spAll (wL cI ad zk zm zb zs zr zu zt zf84 zg zbd zro zmc zmg zsp zjn) (wL cI ad zk zm zb zs zr zu zt102_1 zf84 zg102_1 zbd zro zmc zmg zsp102_1 zjn)) ((paL cI ad zk zm zb zs zr zu zt102_1 zf84 zg102_1 zbd zro zmc zmg zsp102_1 zjn).trans (paL cI ad zk zm zb zs zr zu zt zf84 zg zbd zro zmc zmg zsp zjn).symm) rfl rfl rfl rfl hl.1 rfl (Nat.le_of_ble_eq_true rfl) dX2_mergePiece_102 ⟨Nat.zero_le _, Nat.zero_le _⟩ (fun H locs hP hD hS => ?_)
          refine lv_goto (tgt := 117) hx hb dX2_mergePiece_105 (by decide) ?_
          cases o2 hm
          exact W.vret hx hb hr (fun t ht hW => ⟨⟨(), rfl, trivial, by rw [ht]; exact hP, va_K.moved hW.alike hK, hD⟩, hS.F ht⟩) hS.2.2 dX2_mergePiece_117
    have hm := hq_58
    refine lv_if_eq (tgt := 51) hx hb dX2_mergePiece_31 (by decide) (fun c_31 => ?_) (fun c_31 => ?_)
    · have hm := it_t hm c_31
      refine lv_aload_n hx hb dX2_mergePiece_51 rfl (lv_at hl 1 rfl) ?_
      refine va_get (D := (dC, dI)) (ci := 2) (v := .ref (ad 5)) (C := RX2) (T := TX2) (N := 15) hx hb hts ziX2 hown hK hP 0 rfl rfl 2 (by decide) zw0 (fun _ h9 => h9) rfl dX2_mergePiece_52 ?_
      obtain ⟨r55, h_55, hm⟩ := ob hm
      refine z_callRi (As := []) (rest := []) (ci := 0) (q := (RX0, TX0, 2)) ⟨hx, hb, hml, hown, hts⟩ (c_X0_length l dC dI cI (ad 5) (ad 6) 16 zb F r55 h_55) (cwV 0 hts gX2_mergePiece_X0_length rfl rfl rfl kv_X0_length ⟨Nat.le_of_ble_eq_true rfl, Nat.le_of_ble_eq_true rfl⟩) hK (z_mid (pjL_zb cI ad zk zm zb zs zr zu zt zf zg zbd zro zmc zmg zsp zjn zb) hP) rfl rfl rfl rfl hl.1 rfl (Nat.le_of_ble_eq_true rfl) dX2_mergePiece_55 ⟨Nat.zero_le _, Nat.zero_le _⟩ ?_
      exact J_58 r55 (o2 hm)
    · have hm := it_f hm c_31
      refine lv_aload_n hx hb dX2_mergePiece_34 rfl (lv_at hl 1 rfl) ?_
      refine va_get (D := (dC, dI)) (ci := 2) (v := .ref (ad 5)) (C := RX2) (T := TX2) (N := 15) hx hb hts ziX2 hown hK hP 0 rfl rfl 2 (by decide) zw0 (fun _ h9 => h9) rfl dX2_mergePiece_35 ?_
      refine lv_aload_n hx hb dX2_mergePiece_38 rfl (lv_at hl 1 rfl) ?_
      refine lv_iload_n hx hb dX2_mergePiece_39 rfl (lv_at hl 2 rfl) ?_
      refine lv_iconst (v := 1) hx hb dX2_mergePiece_40 (by decide) ?_
      refine lv_iadd hx hb dX2_mergePiece_41 ?_
      obtain ⟨r42, h_42, hm⟩ := ob hm
      refine z_callRi (As := [.int (p1 + 1)]) (rest := [.ref (ad 5)]) (ci := 2) (q := (RX2, TX2, 15)) ⟨hx, hb, hml, hown, hts⟩ (c_X2_firstOf l dC dI cI ad zk zm zb zs zr zu zt zf zg zbd zro zmc zmg zsp zjn F (p1 + 1) r42 h_42) (cwV 1 hts gX2_mergePiece_X2_firstOf rfl rfl rfl kv_X2_firstOf ⟨Nat.le_of_ble_eq_true rfl, Nat.le_of_ble_eq_true rfl⟩) hK hP rfl rfl rfl rfl hl.1 rfl (Nat.le_of_ble_eq_true rfl) dX2_mergePiece_42 ⟨Nat.zero_le _, Nat.zero_le _⟩ ?_
      obtain ⟨r45, h_45, hm⟩ := ob hm
      refine z_callRi (As := [.int r42]) (rest := []) (ci := 0) (q := (RX0, TX0, 2)) ⟨hx, hb, hml, hown, hts⟩ (c_X0_below l dC dI cI (ad 5) (ad 6) 16 zb F r42 r45 h_45) (cwV 1 hts gX2_mergePiece_X0_below rfl rfl rfl kv_X0_below ⟨Nat.le_of_ble_eq_true rfl, Nat.le_of_ble_eq_true rfl⟩) hK (z_mid (pjL_zb cI ad zk zm zb zs zr zu zt zf zg zbd zro zmc zmg zsp zjn zb) hP) rfl rfl rfl rfl hl.1 rfl (Nat.le_of_ble_eq_true rfl) dX2_mergePiece_45 ⟨Nat.zero_le _, Nat.zero_le _⟩ ?_
      refine lv_goto (tgt := 58) hx hb dX2_mergePiece_48 (by decide) ?_
      exact J_58 r45 (o2 hm)
  have hm := hq_20
  refine lv_if_ne (tgt := 8) hx hb dX2_mergePiece_1 (by decide) (fun c_1 => ?_) (fun c_1 => ?_)
  · have hm := it_f hm c_1
    refine lv_aload_n hx hb dX2_mergePiece_8 rfl (lv_at hl 0 rfl) ?_
    refine va_get (D := (dC, dI)) (ci := 2) (v := .ref (ad 5)) (C := RX2) (T := TX2) (N := 15) hx hb hts ziX2 hown hK hP 0 rfl rfl 2 (by decide) zw0 (fun _ h9 => h9) rfl dX2_mergePiece_9 ?_
    refine lv_aload_n hx hb dX2_mergePiece_12 rfl (lv_at hl 0 rfl) ?_
    refine lv_iload_n hx hb dX2_mergePiece_13 rfl (lv_at hl 1 rfl) ?_
    obtain ⟨r14, h_14, hm⟩ := ob hm
    refine z_callRi (As := [.int p1]) (rest := [.ref (ad 5)]) (ci := 2) (q := (RX2, TX2, 15)) ⟨hx, hb, hml, hown, hts⟩ (c_X2_firstOf l dC dI cI ad zk zm zb zs zr zu zt zf zg zbd zro zmc zmg zsp zjn F p1 r14 h_14) (cwV 1 hts gX2_mergePiece_X2_firstOf rfl rfl rfl kv_X2_firstOf ⟨Nat.le_of_ble_eq_true rfl, Nat.le_of_ble_eq_true rfl⟩) hK hP rfl rfl rfl rfl hl.1 rfl (Nat.le_of_ble_eq_true rfl) dX2_mergePiece_14 ⟨Nat.zero_le _, Nat.zero_le _⟩ ?_
    obtain ⟨r17, h_17, hm⟩ := ob hm
    refine z_callRi (As := [.int r14]) (rest := []) (ci := 0) (q := (RX0, TX0, 2)) ⟨hx, hb, hml, hown, hts⟩ (c_X0_below l dC dI cI (ad 5) (ad 6) 16 zb F r14 r17 h_17) (cwV 1 hts gX2_mergePiece_X0_below rfl rfl rfl kv_X0_below ⟨Nat.le_of_ble_eq_true rfl, Nat.le_of_ble_eq_true rfl⟩) hK (z_mid (pjL_zb cI ad zk zm zb zs zr zu zt zf zg zbd zro zmc zmg zsp zjn zb) hP) rfl rfl rfl rfl hl.1 rfl (Nat.le_of_ble_eq_true rfl) dX2_mergePiece_17 ⟨Nat.zero_le _, Nat.zero_le _⟩ ?_
    exact J_20 r17 (o2 hm)
  · have hm := it_t hm c_1
    refine lv_iconst (v := 0) hx hb dX2_mergePiece_4 (by decide) ?_
    refine lv_goto (tgt := 20) hx hb dX2_mergePiece_5 (by decide) ?_
    exact J_20 0 (o2 hm)
