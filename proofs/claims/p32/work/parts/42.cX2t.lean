set_option maxHeartbeats 4000000 in
set_option maxRecDepth 100000 in
theorem n_X2_looks (l : Launch) (dC : Nat → ClassId) (dI : Nat → Nat → Nat) (cI : ClassId) (ad : Nat → Nat) (zk : zN) (zm : zN) (zb : zN) (zs : zN) (zr : zN) (zu : zN) (zt : zT) (zf : zN) (zg : zN) (zbd : Int32) (zro : Int32) (zmc : Int32) (zmg : Int32) (zsp : Int32) (zjn : Int32) (F : Nat) (p1 : Int32) (sz : Nat) (r : Int32) (hm : X2_looks F zk zs zr zu zbd p1 = some (Sum.inr r)) : Met l yX2_looks wsX2_looks ({ frames := 7, cells := 0, slots := 0, locals := 119 }) (va_Pc [.ref (ad 0), .int p1] (zW (dC, dI) (wL cI ad zk zm zb zs zr zu zt zf zg zbd zro zmc zmg zsp zjn) [(cI, .int)] sz)) (zQi (dC, dI) (wL cI ad zk zm zb zs zr zu zt zf zg zbd zro zmc zmg zsp zjn) [(cI, .int)] (va_A (wL cI ad zk zm zb zs zr zu zt zf zg zbd zro zmc zmg zsp zjn) sz) r) 0 0 (va_A (wL cI ad zk zm zb zs zr zu zt zf zg zbd zro zmc zmg zsp zjn) sz) := by
  refine Met.ofW (cc := cX2_looks) (maxL := 3) (ret := (some .int)) (by decide) rfl ?_
  intro p e s m args below meth c s₁ B hml hv
  obtain ⟨rfl, hsz, hP, hK, hD0⟩ := hv
  have hx := B.exec
  have hb := B.bytes
  have hr := B.returns
  have hts := atoms_spec (ws := wsX2_looks) B.pre
  have hown : s.vm.findClass RX2 = some m.cls := findClass_of_methodNamed B.named
  have hlocks := B.notSynchronized
  subst hsz
  have hD := hD0.self (sz := s.heap.size)
  generalize hAe : va_A (wL cI ad zk zm zb zs zr zu zt zf zg zbd zro zmc zmg zsp zjn) s.heap.size = A at hD ⊢
  have hA : ∀ q : Nat, s.heap.size ≤ q → A q := fun q h => by rw [← hAe]; exact Or.inr h
  have hS : va_S A s.heap s.heap [] := va_S.rf
  generalize eL : ([] : List Loc) = locs at hS ⊢
  obtain ⟨H, eH⟩ : ∃ z : Heap, z = s.heap := ⟨_, rfl⟩
  have hP : va_P (dC, dI) vwCl (wL cI ad zk zm zb zs zr zu zt zf zg zbd zro zmc zmg zsp zjn) H := by rw [eH]; exact hP
  have hS : va_S A s.heap H locs := by rw [eH]; exact hS
  refine z_heap eH ?_
  have hl := lv_entry ([.ref (ad 0), .int p1]) (n := 3) (Nat.le_of_ble_eq_true rfl)
  rw [lg_entry_eq]
  generalize (lg_sl ([.ref (ad 0), .int p1]) ++ List.replicate (3 - (lg_sl ([.ref (ad 0), .int p1])).length) Slot.unset).toArray = ls at hl ⊢
  have hl : lv_has ls 3 [(0, .ref (ad 0)), (1, .int p1)] := hl
  refine lv_iload_n hx hb dX2_looks_0 rfl (lv_at hl 1 rfl) ?_
  refine lv_i2l hx hb dX2_looks_1 rfl ?_
  obtain ⟨z_2, h_2, hm⟩ := ob hm
  rcases z_2 with e_2 | _
  · exact zno hm
  · have hm := hm
    refine z_callSWv (wc := []) (w1 := []) (ws := (wL cI ad zk zm zb zs zr zu zt zf zg zbd zro zmc zmg zsp zjn)) (ws' := (wL cI ad zk zm zb zs zr zu zt zf zg zbd zro zmc zmg zsp zjn)) (As := [.long (Int32.toInt64 p1)]) (rest := []) ⟨hx, hb, hml, hown, hts⟩ (n_X2_needKey l dC dI F (Int32.toInt64 p1) H.size h_2) (va_cwS 1 hts gX2_looks_X2_needKey rfl rfl rfl ks_X2_needKey ⟨Nat.le_of_ble_eq_true rfl, Nat.le_of_ble_eq_true rfl⟩) (hK.sub (tys' := []) [] rfl) hP hD hS hA (z_sp0 (wL cI ad zk zm zb zs zr zu zt zf zg zbd zro zmc zmg zsp zjn)) rfl rfl hl.1 rfl (Nat.le_of_ble_eq_true rfl) dX2_looks_2 ⟨Nat.zero_le _, Nat.zero_le _⟩ (fun H locs hP hD hS => ?_)
    refine lv_aload_n hx hb dX2_looks_5 rfl (lv_at hl 0 rfl) ?_
    refine lv_iload_n hx hb dX2_looks_6 rfl (lv_at hl 1 rfl) ?_
    obtain ⟨r7, h_7, hm⟩ := ob hm
    refine z_callRi (As := [.int p1]) (rest := []) (ci := 2) (q := (RX2, TX2, 15)) ⟨hx, hb, hml, hown, hts⟩ (c_X2_pieceOf l dC dI cI ad zk zm zb zs zr zu zt zf zg zbd zro zmc zmg zsp zjn F p1 r7 h_7) (cwV 1 hts gX2_looks_X2_pieceOf rfl rfl rfl kv_X2_pieceOf ⟨Nat.le_of_ble_eq_true rfl, Nat.le_of_ble_eq_true rfl⟩) hK hP rfl rfl rfl rfl hl.1 rfl (Nat.le_of_ble_eq_true rfl) dX2_looks_7 ⟨Nat.zero_le _, Nat.zero_le _⟩ ?_
    refine lv_istore_n (lv' := [(2, .int r7), (0, .ref (ad 0)), (1, .int p1)]) hx hb dX2_looks_10 rfl hl (by decide) rfl (fun ls hl => ?_)
    refine lv_iload_n hx hb dX2_looks_11 rfl (lv_at hl 0 rfl) ?_
    refine lv_iconst (v := (-1)) hx hb dX2_looks_12 (by decide) ?_
    refine lv_icmp_ne (tgt := 20) hx hb dX2_looks_13 (by decide) (fun c_13 => ?_) (fun c_13 => ?_)
    · have hm := it_f hm c_13
      refine lv_aload_n hx hb dX2_looks_20 rfl (lv_at hl 1 rfl) ?_
      refine lv_iload_n hx hb dX2_looks_21 rfl (lv_at hl 0 rfl) ?_
      refine lv_iload_n hx hb dX2_looks_22 rfl (lv_at hl 2 rfl) ?_
      obtain ⟨r23, h_23, hm⟩ := ob hm
      refine z_callRi (As := [.int r7, .int p1]) (rest := []) (ci := 2) (q := (RX2, TX2, 15)) ⟨hx, hb, hml, hown, hts⟩ (c_X2_looksBy l dC dI cI ad zk zm zb zs zr zu zt zf zg zbd zro zmc zmg zsp zjn F r7 p1 r23 h_23) (cwV 2 hts gX2_looks_X2_looksBy rfl rfl rfl kv_X2_looksBy ⟨Nat.le_of_ble_eq_true rfl, Nat.le_of_ble_eq_true rfl⟩) hK hP rfl rfl rfl rfl hl.1 rfl (Nat.le_of_ble_eq_true rfl) dX2_looks_23 ⟨Nat.zero_le _, Nat.zero_le _⟩ ?_
      cases o2 hm
      exact W.iret hx hb hr (fun t ht hW => ⟨⟨_, (), rfl, rfl, by rw [ht]; exact hP, va_K.moved hW.alike hK, hD⟩, hS.F ht⟩) hS.2.2 dX2_looks_26
    · have hm := it_t hm c_13
      refine lv_iconst (v := 0) hx hb dX2_looks_16 (by decide) ?_
      refine lv_goto (tgt := 26) hx hb dX2_looks_17 (by decide) ?_
      cases o2 hm
      exact W.iret hx hb hr (fun t ht hW => ⟨⟨_, (), rfl, rfl, by rw [ht]; exact hP, va_K.moved hW.alike hK, hD⟩, hS.F ht⟩) hS.2.2 dX2_looks_26
set_option maxHeartbeats 4000000 in
set_option maxRecDepth 100000 in
theorem c_X2_worstError (l : Launch) (dC : Nat → ClassId) (dI : Nat → Nat → Nat) (cI : ClassId) (ad : Nat → Nat) (zk : zN) (zm : zN) (zb : zN) (zs : zN) (zr : zN) (zu : zN) (zt : zT) (zf : zN) (zg : zN) (zbd : Int32) (zro : Int32) (zmc : Int32) (zmg : Int32) (zsp : Int32) (zjn : Int32) (F : Nat) (r : Int32) (hm : X2_worstError F zk zs zr zu = some r) : Met l yX2_worstError wsX2_worstError ({ frames := 4, cells := 0, slots := 0, locals := 89 }) (va_Pc [.ref (ad 0)] (zR (dC, dI) (wL cI ad zk zm zb zs zr zu zt zf zg zbd zro zmc zmg zsp zjn) [(cI, .int)])) (vp_Si (fun v => v = r)) 0 0 (fun _ => False) := by
  refine Met.ofW (cc := cX2_worstError) (maxL := 8) (ret := (some .int)) (by decide) rfl ?_
  intro p e s m args below meth c s₁ B hml hv
  obtain ⟨rfl, hP, hK⟩ := hv
  have hx := B.exec
  have hb := B.bytes
  have hr := B.returns
  have hts := atoms_spec (ws := wsX2_worstError) B.pre
  have hown : s.vm.findClass RX2 = some m.cls := findClass_of_methodNamed B.named
  have hlocks := B.notSynchronized
  have hl := lv_entry ([.ref (ad 0)]) (n := 8) (Nat.le_of_ble_eq_true rfl)
  rw [lg_entry_eq]
  generalize (lg_sl ([.ref (ad 0)]) ++ List.replicate (8 - (lg_sl ([.ref (ad 0)])).length) Slot.unset).toArray = ls at hl ⊢
  have hl : lv_has ls 8 [(0, .ref (ad 0))] := hl
  have zw0 := hts (.fieldLink RX2 24 "LearnedLedge" "starts" "LLearnedLedge$Numbers;") (List.mem_cons_of_mem _ (List.mem_append_left _ (List.mem_append_left _ (List.mem_append_left _ (List.mem_of_getElem? (i := 0) rfl)))))
  have zw1 := hts (.fieldLink RX2 14 "LearnedLedge" "keys" "LLearnedLedge$Numbers;") (List.mem_cons_of_mem _ (List.mem_append_left _ (List.mem_append_left _ (List.mem_append_left _ (List.mem_of_getElem? (i := 1) rfl)))))
  have zw2 := hts (.methodLink RX2 164 Lib.MathLoose.abs_long.x) (List.mem_cons_of_mem _ (List.mem_append_left _ (List.mem_append_left _ (List.mem_append_left _ (List.mem_of_getElem? (i := 2) rfl)))))
  have zw3 := hts (.static Lib.MathLoose.abs_long.x) (List.mem_cons_of_mem _ (List.mem_append_left _ (List.mem_append_left _ (List.mem_append_left _ (List.mem_of_getElem? (i := 3) rfl)))))
  have zw4 := hts (.initialized "java/lang/Math") (List.mem_cons_of_mem _ (List.mem_append_left _ (List.mem_append_left _ (List.mem_append_left _ (List.mem_of_getElem? (i := 4) rfl)))))
  have zw5 := hts (.code Lib.MathLoose.abs_long.x Lib.MathLoose.abs_long.code 2 (some .long)) (List.mem_cons_of_mem _ (List.mem_append_left _ (List.mem_append_left _ (List.mem_append_left _ (List.mem_of_getElem? (i := 5) rfl)))))
  have zw6 := hts (.methodLink RX2 170 Lib.MathLoose.max_long.x) (List.mem_cons_of_mem _ (List.mem_append_left _ (List.mem_append_left _ (List.mem_append_left _ (List.mem_of_getElem? (i := 6) rfl)))))
  have zw7 := hts (.static Lib.MathLoose.max_long.x) (List.mem_cons_of_mem _ (List.mem_append_left _ (List.mem_append_left _ (List.mem_append_left _ (List.mem_of_getElem? (i := 7) rfl)))))
  have zw8 := hts (.code Lib.MathLoose.max_long.x Lib.MathLoose.max_long.code 4 (some .long)) (List.mem_cons_of_mem _ (List.mem_append_left _ (List.mem_append_left _ (List.mem_append_left _ (List.mem_of_getElem? (i := 8) rfl)))))
  have ziX2 : ∀ w ∈ u_ws RX2 TX2 15, w ∈ wsX2_worstError := (fun _ h9 => (List.mem_cons_of_mem _ (List.mem_append_left _ (List.mem_append_right _ h9))))
  refine lv_lconst (v := 0) hx hb dX2_worstError_0 (by decide) ?_
  refine lv_lstore_n (lv' := [(1, .long 0), (0, .ref (ad 0))]) hx hb dX2_worstError_1 rfl hl (by decide) rfl (fun ls hl => ?_)
  refine lv_iconst (v := 0) hx hb dX2_worstError_2 (by decide) ?_
  refine lv_istore_n (lv' := [(3, .int 0), (1, .long 0), (0, .ref (ad 0))]) hx hb dX2_worstError_3 rfl hl (by decide) rfl (fun ls hl => ?_)
  obtain ⟨z_4, hq_4, hm⟩ := ob hm
  have K_4 : ∀ (x1_3 : Int64), z_4 = x1_3 → ∀ (ls : Array Slot), lv_has ls 8 [(1, .long x1_3)] → W p l e (headSpec wsX2_worstError ({ frames := 4, cells := 0, slots := 0, locals := 89 } : Room)).room s m ([.ref (ad 0)] : List Value).toArray below meth c s.heap [] 0 0 (MQ below (vp_Si (fun v => v = r)) ([.ref (ad 0)] : List Value).toArray s 0 0 (fun _ => False)) (F0 m 81 ls []) := by
    intro x1_3 ez ls hl
    rw [ez] at hm
    refine lv_lload_n hx hb dX2_worstError_81 rfl (lv_at hl 0 rfl) ?_
    refine lv_l2i hx hb dX2_worstError_82 rfl ?_
    exact W.iret hx hb hr (fun t ht hW => ⟨_, rfl, (o2 hm).symm, ht⟩) (fun q h => absurd h List.not_mem_nil) dX2_worstError_83
  have L_4 : ∀ (n : Nat) (x3 : Int32) (x1 : Int64), X2_worstError_L4 zk zs zr zu F n x3 x1 = some z_4 → ∀ (ls : Array Slot), lv_has ls 8 [(3, .int x3), (1, .long x1), (0, .ref (ad 0))] → W p l e (headSpec wsX2_worstError ({ frames := 4, cells := 0, slots := 0, locals := 89 } : Room)).room s m ([.ref (ad 0)] : List Value).toArray below meth c s.heap [] 0 0 (MQ below (vp_Si (fun v => v = r)) ([.ref (ad 0)] : List Value).toArray s 0 0 (fun _ => False)) (F0 m 4 ls []) := by
    intro n
    induction n with
    | zero => intro x3 x1 hm; cases hm
    | succ n ih_4 =>
      intro x3 x1 hm ls hl
      refine lv_iload_n hx hb dX2_worstError_4 rfl (lv_at hl 0 rfl) ?_
      refine lv_aload_n hx hb dX2_worstError_5 rfl (lv_at hl 2 rfl) ?_
      refine va_get (D := (dC, dI)) (ci := 2) (v := .ref (ad 7)) (C := RX2) (T := TX2) (N := 15) hx hb hts ziX2 hown hK hP 0 rfl rfl 3 (by decide) zw0 (fun _ h9 => h9) rfl dX2_worstError_6 ?_
      obtain ⟨r9, h_9, hm⟩ := ob hm
      refine z_callRi (As := []) (rest := [.int x3]) (ci := 0) (q := (RX0, TX0, 2)) ⟨hx, hb, hml, hown, hts⟩ (c_X0_length l dC dI cI (ad 7) (ad 8) 256 zs F r9 h_9) (cwV 0 hts gX2_worstError_X0_length rfl rfl rfl kv_X0_length ⟨Nat.le_of_ble_eq_true rfl, Nat.le_of_ble_eq_true rfl⟩) hK (z_mid (pjL_zs cI ad zk zm zb zs zr zu zt zf zg zbd zro zmc zmg zsp zjn zs) hP) rfl rfl rfl rfl hl.1 rfl (Nat.le_of_ble_eq_true rfl) dX2_worstError_9 ⟨Nat.zero_le _, Nat.zero_le _⟩ ?_
      refine lv_icmp_ge (tgt := 81) hx hb dX2_worstError_12 (by decide) (fun c_12 => ?_) (fun c_12 => ?_)
      · have hm := it_t hm c_12
        exact K_4 x1 (o2 hm) _ (lv_sub hl [1] rfl)
      · have hm := it_f hm c_12
        refine lv_aload_n hx hb dX2_worstError_15 rfl (lv_at hl 2 rfl) ?_
        refine lv_iload_n hx hb dX2_worstError_16 rfl (lv_at hl 0 rfl) ?_
        obtain ⟨r17, h_17, hm⟩ := ob hm
        refine z_callRi (As := [.int x3]) (rest := []) (ci := 2) (q := (RX2, TX2, 15)) ⟨hx, hb, hml, hown, hts⟩ (c_X2_endOf l dC dI cI ad zk zm zb zs zr zu zt zf zg zbd zro zmc zmg zsp zjn F x3 r17 h_17) (cwV 1 hts gX2_worstError_X2_endOf rfl rfl rfl kv_X2_endOf ⟨Nat.le_of_ble_eq_true rfl, Nat.le_of_ble_eq_true rfl⟩) hK hP rfl rfl rfl rfl hl.1 rfl (Nat.le_of_ble_eq_true rfl) dX2_worstError_17 ⟨Nat.zero_le _, Nat.zero_le _⟩ ?_
        refine lv_istore (lv' := [(4, .int r17), (3, .int x3), (1, .long x1), (0, .ref (ad 0))]) hx hb dX2_worstError_20 hl (by decide) rfl (fun ls hl => ?_)
        refine lv_aload_n hx hb dX2_worstError_22 rfl (lv_at hl 3 rfl) ?_
        refine va_get (D := (dC, dI)) (ci := 2) (v := .ref (ad 7)) (C := RX2) (T := TX2) (N := 15) hx hb hts ziX2 hown hK hP 0 rfl rfl 3 (by decide) zw0 (fun _ h9 => h9) rfl dX2_worstError_23 ?_
        refine lv_iload_n hx hb dX2_worstError_26 rfl (lv_at hl 1 rfl) ?_
        obtain ⟨r27, h_27, hm⟩ := ob hm
        refine z_callRi (As := [.int x3]) (rest := []) (ci := 0) (q := (RX0, TX0, 2)) ⟨hx, hb, hml, hown, hts⟩ (c_X0_at l dC dI cI (ad 7) (ad 8) 256 zs F x3 r27 h_27) (cwV 1 hts gX2_worstError_X0_at rfl rfl rfl kv_X0_at ⟨Nat.le_of_ble_eq_true rfl, Nat.le_of_ble_eq_true rfl⟩) hK (z_mid (pjL_zs cI ad zk zm zb zs zr zu zt zf zg zbd zro zmc zmg zsp zjn zs) hP) rfl rfl rfl rfl hl.1 rfl (Nat.le_of_ble_eq_true rfl) dX2_worstError_27 ⟨Nat.zero_le _, Nat.zero_le _⟩ ?_
        refine lv_istore (lv' := [(5, .int r27), (4, .int r17), (3, .int x3), (1, .long x1), (0, .ref (ad 0))]) hx hb dX2_worstError_30 hl (by decide) rfl (fun ls hl => ?_)
        obtain ⟨z_32, hq_32, hm⟩ := ob hm
        have K_32 : ∀ (x1_2 : Int64), z_32 = x1_2 → ∀ (ls : Array Slot), lv_has ls 8 [(3, .int x3), (1, .long x1_2), (0, .ref (ad 0))] → W p l e (headSpec wsX2_worstError ({ frames := 4, cells := 0, slots := 0, locals := 89 } : Room)).room s m ([.ref (ad 0)] : List Value).toArray below meth c s.heap [] 0 0 (MQ below (vp_Si (fun v => v = r)) ([.ref (ad 0)] : List Value).toArray s 0 0 (fun _ => False)) (F0 m 75 ls []) := by
          intro x1_2 ez ls hl
          rw [ez] at hm
          obtain ⟨x3_1, e_x3_1⟩ : ∃ y : Int32, y = x3 + 1 := ⟨_, rfl⟩
          have hm := bnd_e hm e_x3_1
          refine lv_iinc (v := x3_1) (lv' := [(3, .int x3_1), (1, .long x1_2), (0, .ref (ad 0))]) hx hb dX2_worstError_75 hl (k := 0) rfl (by rw [e_x3_1]; rfl) (by decide) rfl (fun ls hl => ?_)
          refine lv_goto (tgt := 4) hx hb dX2_worstError_78 (by decide) ?_
          exact ih_4 x3_1 x1_2 hm _ (lv_sub hl [0, 1, 2] rfl)
        have L_32 : ∀ (n : Nat) (x5 : Int32) (x1_1 : Int64), X2_worstError_L32 zk zs zr zu F x3 r17 n x5 x1_1 = some z_32 → ∀ (ls : Array Slot), lv_has ls 8 [(5, .int x5), (4, .int r17), (3, .int x3), (1, .long x1_1), (0, .ref (ad 0))] → W p l e (headSpec wsX2_worstError ({ frames := 4, cells := 0, slots := 0, locals := 89 } : Room)).room s m ([.ref (ad 0)] : List Value).toArray below meth c s.heap [] 0 0 (MQ below (vp_Si (fun v => v = r)) ([.ref (ad 0)] : List Value).toArray s 0 0 (fun _ => False)) (F0 m 32 ls []) := by
          intro n
          induction n with
          | zero => intro x5 x1_1 hm; cases hm
          | succ n ih_32 =>
            intro x5 x1_1 hm ls hl
            refine lv_iload hx hb dX2_worstError_32 (lv_at hl 0 rfl) ?_
            refine lv_iload hx hb dX2_worstError_34 (lv_at hl 1 rfl) ?_
            refine lv_icmp_ge (tgt := 75) hx hb dX2_worstError_36 (by decide) (fun c_36 => ?_) (fun c_36 => ?_)
            · have hm := it_t hm c_36
              exact K_32 x1_1 (o2 hm) _ (lv_sub hl [2, 3, 4] rfl)
            · have hm := it_f hm c_36
              refine lv_iload hx hb dX2_worstError_39 (lv_at hl 0 rfl) ?_
              refine lv_i2l hx hb dX2_worstError_41 rfl ?_
              refine lv_aload_n hx hb dX2_worstError_42 rfl (lv_at hl 4 rfl) ?_
              refine lv_iload_n hx hb dX2_worstError_43 rfl (lv_at hl 2 rfl) ?_
              refine lv_aload_n hx hb dX2_worstError_44 rfl (lv_at hl 4 rfl) ?_
              refine va_get (D := (dC, dI)) (ci := 2) (v := .ref (ad 1)) (C := RX2) (T := TX2) (N := 15) hx hb hts ziX2 hown hK hP 0 rfl rfl 0 (by decide) zw1 (fun _ h9 => h9) rfl dX2_worstError_45 ?_
              refine lv_iload hx hb dX2_worstError_48 (lv_at hl 0 rfl) ?_
              obtain ⟨r50, h_50, hm⟩ := ob hm
              refine z_callRi (As := [.int x5]) (rest := [.int x3, .ref (ad 0), .long (Int32.toInt64 x5)]) (ci := 0) (q := (RX0, TX0, 2)) ⟨hx, hb, hml, hown, hts⟩ (c_X0_at l dC dI cI (ad 1) (ad 2) 256 zk F x5 r50 h_50) (cwV 1 hts gX2_worstError_X0_at rfl rfl rfl kv_X0_at ⟨Nat.le_of_ble_eq_true rfl, Nat.le_of_ble_eq_true rfl⟩) hK (z_mid (pjL_zk cI ad zk zm zb zs zr zu zt zf zg zbd zro zmc zmg zsp zjn zk) hP) rfl rfl rfl rfl hl.1 rfl (Nat.le_of_ble_eq_true rfl) dX2_worstError_50 ⟨Nat.zero_le _, Nat.zero_le _⟩ ?_
              obtain ⟨r53, h_53, hm⟩ := ob hm
              refine z_callRl (As := [.int x3, .int r50]) (rest := [.long (Int32.toInt64 x5)]) (ci := 2) (q := (RX2, TX2, 15)) ⟨hx, hb, hml, hown, hts⟩ (c_X2_guessBy l dC dI cI ad zk zm zb zs zr zu zt zf zg zbd zro zmc zmg zsp zjn F x3 r50 r53 h_53) (cwV 2 hts gX2_worstError_X2_guessBy rfl rfl rfl kv_X2_guessBy ⟨Nat.le_of_ble_eq_true rfl, Nat.le_of_ble_eq_true rfl⟩) hK hP rfl rfl rfl rfl hl.1 rfl (Nat.le_of_ble_eq_true rfl) dX2_worstError_53 ⟨Nat.zero_le _, Nat.zero_le _⟩ ?_
              refine lv_lsub hx hb dX2_worstError_56 ?_
              refine va_mabs_long hx hb (hml.trans hl.1.symm) hown zw2 zw3 zw4 zw5 (Nat.le_of_ble_eq_true rfl) (Nat.le_of_ble_eq_true rfl) (Nat.zero_le _) (Nat.zero_le _) dX2_worstError_57 ?_
              refine lv_topl (fun q57 e_q57 => ?_)
              have hm := bnd_e hm e_q57
              refine lv_lstore (lv' := [(6, .long q57), (5, .int x5), (4, .int r17), (3, .int x3), (1, .long x1_1), (0, .ref (ad 0))]) hx hb dX2_worstError_60 hl (by decide) rfl (fun ls hl => ?_)
              refine lv_lload_n hx hb dX2_worstError_62 rfl (lv_at hl 4 rfl) ?_
              refine lv_lload hx hb dX2_worstError_63 (lv_at hl 0 rfl) ?_
              refine va_mmax_long hx hb (hml.trans hl.1.symm) hown zw6 zw7 zw4 zw8 (Nat.le_of_ble_eq_true rfl) (Nat.le_of_ble_eq_true rfl) (Nat.zero_le _) (Nat.zero_le _) dX2_worstError_65 ?_
              refine lv_topl (fun q65 e_q65 => ?_)
              have hm := bnd_e hm e_q65
              refine lv_lstore_n (lv' := [(1, .long q65), (6, .long q57), (5, .int x5), (4, .int r17), (3, .int x3), (0, .ref (ad 0))]) hx hb dX2_worstError_68 rfl hl (by decide) rfl (fun ls hl => ?_)
              obtain ⟨x5_1, e_x5_1⟩ : ∃ y : Int32, y = x5 + 1 := ⟨_, rfl⟩
              have hm := bnd_e hm e_x5_1
              refine lv_iinc (v := x5_1) (lv' := [(5, .int x5_1), (1, .long q65), (6, .long q57), (4, .int r17), (3, .int x3), (0, .ref (ad 0))]) hx hb dX2_worstError_69 hl (k := 2) rfl (by rw [e_x5_1]; rfl) (by decide) rfl (fun ls hl => ?_)
              refine lv_goto (tgt := 32) hx hb dX2_worstError_72 (by decide) ?_
              exact ih_32 x5_1 q65 hm _ (lv_sub hl [0, 3, 4, 1, 5] rfl)
        exact L_32 F r27 x1 hq_32 _ (lv_sub hl [0, 1, 2, 3, 4] rfl)
  exact L_4 F 0 0 hq_4 _ (lv_sub hl [0, 1, 2] rfl)
set_option maxHeartbeats 4000000 in
set_option maxRecDepth 100000 in
theorem c_X2_pieces (l : Launch) (dC : Nat → ClassId) (dI : Nat → Nat → Nat) (cI : ClassId) (ad : Nat → Nat) (zk : zN) (zm : zN) (zb : zN) (zs : zN) (zr : zN) (zu : zN) (zt : zT) (zf : zN) (zg : zN) (zbd : Int32) (zro : Int32) (zmc : Int32) (zmg : Int32) (zsp : Int32) (zjn : Int32) (F : Nat) (r : Int32) (hm : X2_pieces F zs = some r) : Met l yX2_pieces wsX2_pieces ({ frames := 1, cells := 0, slots := 0, locals := 20 }) (va_Pc [.ref (ad 0)] (zR (dC, dI) (wL cI ad zk zm zb zs zr zu zt zf zg zbd zro zmc zmg zsp zjn) [(cI, .int)])) (vp_Si (fun v => v = r)) 0 0 (fun _ => False) := by
  refine Met.ofW (cc := cX2_pieces) (maxL := 1) (ret := (some .int)) (by decide) rfl ?_
  intro p e s m args below meth c s₁ B hml hv
  obtain ⟨rfl, hP, hK⟩ := hv
  have hx := B.exec
  have hb := B.bytes
  have hr := B.returns
  have hts := atoms_spec (ws := wsX2_pieces) B.pre
  have hown : s.vm.findClass RX2 = some m.cls := findClass_of_methodNamed B.named
  have hlocks := B.notSynchronized
  have hl := lv_entry ([.ref (ad 0)]) (n := 1) (Nat.le_of_ble_eq_true rfl)
  rw [lg_entry_eq]
  generalize (lg_sl ([.ref (ad 0)]) ++ List.replicate (1 - (lg_sl ([.ref (ad 0)])).length) Slot.unset).toArray = ls at hl ⊢
  have hl : lv_has ls 1 [(0, .ref (ad 0))] := hl
  have zw0 := hts (.fieldLink RX2 24 "LearnedLedge" "starts" "LLearnedLedge$Numbers;") (List.mem_cons_of_mem _ (List.mem_append_left _ (List.mem_append_left _ (List.mem_of_getElem? (i := 0) rfl))))
  have ziX2 : ∀ w ∈ u_ws RX2 TX2 15, w ∈ wsX2_pieces := (fun _ h9 => (List.mem_cons_of_mem _ (List.mem_append_left _ (List.mem_append_right _ h9))))
  refine lv_aload_n hx hb dX2_pieces_0 rfl (lv_at hl 0 rfl) ?_
  refine va_get (D := (dC, dI)) (ci := 2) (v := .ref (ad 7)) (C := RX2) (T := TX2) (N := 15) hx hb hts ziX2 hown hK hP 0 rfl rfl 3 (by decide) zw0 (fun _ h9 => h9) rfl dX2_pieces_1 ?_
  obtain ⟨r4, h_4, hm⟩ := ob hm
  refine z_callRi (As := []) (rest := []) (ci := 0) (q := (RX0, TX0, 2)) ⟨hx, hb, hml, hown, hts⟩ (c_X0_length l dC dI cI (ad 7) (ad 8) 256 zs F r4 h_4) (cwV 0 hts gX2_pieces_X0_length rfl rfl rfl kv_X0_length ⟨Nat.le_of_ble_eq_true rfl, Nat.le_of_ble_eq_true rfl⟩) hK (z_mid (pjL_zs cI ad zk zm zb zs zr zu zt zf zg zbd zro zmc zmg zsp zjn zs) hP) rfl rfl rfl rfl hl.1 rfl (Nat.le_of_ble_eq_true rfl) dX2_pieces_4 ⟨Nat.zero_le _, Nat.zero_le _⟩ ?_
  exact W.iret hx hb hr (fun t ht hW => ⟨_, rfl, (o2 hm).symm, ht⟩) (fun q h => absurd h List.not_mem_nil) dX2_pieces_7
set_option maxHeartbeats 4000000 in
set_option maxRecDepth 100000 in
theorem c_X2_needPiece (l : Launch) (dC : Nat → ClassId) (dI : Nat → Nat → Nat) (cI : ClassId) (ad : Nat → Nat) (zk : zN) (zm : zN) (zb : zN) (zs : zN) (zr : zN) (zu : zN) (zt : zT) (zf : zN) (zg : zN) (zbd : Int32) (zro : Int32) (zmc : Int32) (zmg : Int32) (zsp : Int32) (zjn : Int32) (F : Nat) (p1 : Int32) (sz : Nat) (sa : Nat → Nat) (hl9 : l.stackTraces = false) (z : Nat ⊕ Unit) (hm : X2_needPiece F zs p1 = some z) : vx_Met l yX2_needPiece wsX2_needPiece ({ frames := 6, cells := 1, slots := 6, locals := 90 }) (va_Pc [.ref (ad 0), .int p1] (zX (dC, dI) (wL cI ad zk zm zb zs zr zu zt zf zg zbd zro zmc zmg zsp zjn) [(cI, .int)] sz sa)) (zXv (dC, dI) (fun (u_ : Unit) => (wL cI ad zk zm zb zs zr zu zt zf zg zbd zro zmc zmg zsp zjn)) [(cI, .int)] (va_A (wL cI ad zk zm zb zs zr zu zt zf zg zbd zro zmc zmg zsp zjn) sz) (fun _ => z = Sum.inr ())) (zXC (dC, dI) (wL cI ad zk zm zb zs zr zu zt zf zg zbd zro zmc zmg zsp zjn) [(cI, .int)] (va_A (wL cI ad zk zm zb zs zr zu zt zf zg zbd zro zmc zmg zsp zjn) sz) z) 1 6 (va_A (wL cI ad zk zm zb zs zr zu zt zf zg zbd zro zmc zmg zsp zjn) sz) := by
  refine vx_ofW (cc := cX2_needPiece) (maxL := 2) (ret := none) (by decide) rfl ?_
  intro p e s m args below meth c s₁ B hml hnx hv
  obtain ⟨rfl, ⟨hsz, hP, hK, hD0⟩, hV⟩ := hv
  have hx := B.exec
  have hb := B.bytes
  have hr := B.returns
  have hts := atoms_spec (ws := wsX2_needPiece) B.pre
  have hown : s.vm.findClass RX2 = some m.cls := findClass_of_methodNamed B.named
  have hlocks := B.notSynchronized
  subst hsz
  have hD := hD0.self (sz := s.heap.size)
  generalize hAe : va_A (wL cI ad zk zm zb zs zr zu zt zf zg zbd zro zmc zmg zsp zjn) s.heap.size = A at hD hV ⊢
  have hA : ∀ q : Nat, s.heap.size ≤ q → A q := fun q h => by rw [← hAe]; exact Or.inr h
  have hS : va_S A s.heap s.heap [] := va_S.rf
  generalize eL : ([] : List Loc) = locs at hS ⊢
  obtain ⟨H, eH⟩ : ∃ z : Heap, z = s.heap := ⟨_, rfl⟩
  have hP : va_P (dC, dI) vwCl (wL cI ad zk zm zb zs zr zu zt zf zg zbd zro zmc zmg zsp zjn) H := by rw [eH]; exact hP
  have hS : va_S A s.heap H locs := by rw [eH]; exact hS
  refine z_heap eH ?_
  have hl := lv_entry ([.ref (ad 0), .int p1]) (n := 2) (Nat.le_of_ble_eq_true rfl)
  rw [lg_entry_eq]
  generalize (lg_sl ([.ref (ad 0), .int p1]) ++ List.replicate (2 - (lg_sl ([.ref (ad 0), .int p1])).length) Slot.unset).toArray = ls at hl ⊢
  have hl : lv_has ls 2 [(0, .ref (ad 0)), (1, .int p1)] := hl
  have zw0 := hts (.fieldLink RX2 24 "LearnedLedge" "starts" "LLearnedLedge$Numbers;") (List.mem_cons_of_mem _ (List.mem_append_left _ (List.mem_append_left _ (List.mem_append_left _ (List.mem_of_getElem? (i := 2) rfl)))))
  have zw1 := hts (.classLink RX2 140 "java/lang/IndexOutOfBoundsException") (List.mem_cons_of_mem _ (List.mem_append_left _ (List.mem_append_left _ (List.mem_append_left _ (List.mem_of_getElem? (i := 0) rfl)))))
  have zw2 := hts (.initialized "java/lang/IndexOutOfBoundsException") (List.mem_cons_of_mem _ (List.mem_append_left _ (List.mem_append_left _ (List.mem_append_left _ (List.mem_of_getElem? (i := 1) rfl)))))
  have ziX2 : ∀ w ∈ u_ws RX2 TX2 15, w ∈ wsX2_needPiece := (fun _ h9 => (List.mem_cons_of_mem _ (List.mem_append_left _ (List.mem_append_left _ (List.mem_append_right _ h9)))))
  refine lv_aload_n hx hb dX2_needPiece_0 rfl (lv_at hl 0 rfl) ?_
  refine va_get (D := (dC, dI)) (ci := 2) (v := .ref (ad 7)) (C := RX2) (T := TX2) (N := 15) hx hb hts ziX2 hown hK hP 0 rfl rfl 3 (by decide) zw0 (fun _ h9 => h9) rfl dX2_needPiece_1 ?_
  refine lv_iload_n hx hb dX2_needPiece_4 rfl (lv_at hl 1 rfl) ?_
  obtain ⟨r5, h_5, hm⟩ := ob hm
  refine z_callRi (As := [.int p1]) (rest := []) (ci := 0) (q := (RX0, TX0, 2)) ⟨hx, hb, hml, hown, hts⟩ (c_X0_has l dC dI cI (ad 7) (ad 8) 256 zs F p1 r5 h_5) (cwV 1 hts gX2_needPiece_X0_has rfl rfl rfl kv_X0_has ⟨Nat.le_of_ble_eq_true rfl, Nat.le_of_ble_eq_true rfl⟩) hK (z_mid (pjL_zs cI ad zk zm zb zs zr zu zt zf zg zbd zro zmc zmg zsp zjn zs) hP) rfl rfl rfl rfl hl.1 rfl (Nat.le_of_ble_eq_true rfl) dX2_needPiece_5 ⟨Nat.zero_le _, Nat.zero_le _⟩ ?_
  refine lv_if_ne (tgt := 21) hx hb dX2_needPiece_8 (by decide) (fun c_8 => ?_) (fun c_8 => ?_)
  · have hm := it_f hm c_8
    refine vx_ret (W.widen (k := 1) (n := 6) (Nat.le_of_ble_eq_true rfl) (Nat.le_of_ble_eq_true rfl) ?_)
    exact W.vret hx hb hr (fun t ht hW => ⟨⟨(), rfl, o2 hm, by rw [ht]; exact hP, va_K.moved hW.alike hK, hD⟩, hS.F ht⟩) hS.2.2 dX2_needPiece_21
  · have hm := it_t hm c_8
    exact vx_throwS hx hb hl9 (own := RX2) (cls := "java/lang/IndexOutOfBoundsException") (names := ["java/lang/RuntimeException", "java/lang/Exception"]) (ik := 140) (is := 195) (ic := 144) hown (by decide +kernel) (by decide +kernel) zw1 zw2 (hV.1 (195, "no such piece") (by decide +kernel)) (vx_hat (fun w h => hts w (List.mem_cons_of_mem _ (List.mem_append_right _ h))) (by decide +kernel) (zV_ng hV)) (by decide +kernel) hV.2.2.1 hV.2.2.2 hS (hl.1.trans hml.symm) dX2_needPiece_11 dX2_needPiece_14 dX2_needPiece_15 dX2_needPiece_17 dX2_needPiece_20 (fun x hx => (hnx x hx).elim) (Nat.le_of_ble_eq_true rfl) (Nat.le_of_ble_eq_true rfl) (Nat.le_of_ble_eq_true rfl) (Nat.le_of_ble_eq_true rfl) hlocks (z_xt (k := 3) rfl (o2 hm) hP hK hD hS) hS.2.2 (Nat.le_of_ble_eq_true rfl) (Nat.le_of_ble_eq_true rfl)
