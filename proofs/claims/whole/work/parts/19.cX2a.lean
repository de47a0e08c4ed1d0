set_option maxHeartbeats 4000000 in
set_option maxRecDepth 100000 in
theorem c_X2_needKey (l : Launch) (dC : Nat → ClassId) (dI : Nat → Nat → Nat) (F : Nat) (p1 : Int64) (sz : Nat) (sa : Nat → Nat) (hl9 : l.stackTraces = false) (z : Nat ⊕ Unit) (hm : X2_needKey F p1 = some z) : vx_Met l yX2_needKey wsX2_needKey ({ frames := 6, cells := 1, slots := 6, locals := 90 }) (va_Pc [.long p1] (zX (dC, dI) [] [] sz sa)) (zXv (dC, dI) (fun (u_ : Unit) => []) [] (va_A [] sz) (fun _ => z = Sum.inr ())) (zXC (dC, dI) [] [] (va_A [] sz) z) 1 6 (va_A [] sz) := by
  refine vx_ofW (cc := cX2_needKey) (maxL := 2) (ret := none) (by decide) rfl ?_
  intro p e s m args below meth c s₁ B hml hnx hv
  obtain ⟨rfl, ⟨hsz, hP, hK, hD0⟩, hV⟩ := hv
  have hx := B.exec
  have hb := B.bytes
  have hr := B.returns
  have hts := atoms_spec (ws := wsX2_needKey) B.pre
  have hown : s.vm.findClass RX2 = some m.cls := findClass_of_methodNamed B.named
  have hlocks := B.notSynchronized
  subst hsz
  have hD := hD0.self (sz := s.heap.size)
  generalize hAe : va_A [] s.heap.size = A at hD hV ⊢
  have hA : ∀ q : Nat, s.heap.size ≤ q → A q := fun q h => by rw [← hAe]; exact Or.inr h
  have hS : va_S A s.heap s.heap [] := va_S.rf
  generalize eL : ([] : List Loc) = locs at hS ⊢
  obtain ⟨H, eH⟩ : ∃ z : Heap, z = s.heap := ⟨_, rfl⟩
  have hP : va_P (dC, dI) vwCl [] H := by rw [eH]; exact hP
  have hS : va_S A s.heap H locs := by rw [eH]; exact hS
  refine z_heap eH ?_
  have hl := lv_entry ([.long p1]) (n := 2) (Nat.le_of_ble_eq_true rfl)
  rw [lg_entry_eq]
  generalize (lg_sl ([.long p1]) ++ List.replicate (2 - (lg_sl ([.long p1])).length) Slot.unset).toArray = ls at hl ⊢
  have hl : lv_has ls 2 [(0, .long p1)] := hl
  have zw0 := hts (.constantLong RX2 186 (-1000000)) (by decide +kernel)
  have zw1 := hts (.constantLong RX2 188 (1000000)) (by decide +kernel)
  have zw2 := hts (.classLink RX2 80 "java/lang/IllegalArgumentException") (by decide +kernel)
  have zw3 := hts (.initialized "java/lang/IllegalArgumentException") (by decide +kernel)
  refine lv_lload_n hx hb dX2_needKey_0 rfl (lv_at hl 0 rfl) ?_
  refine lv_ldc2 hx hb hown zw0 dX2_needKey_1 ?_
  refine W.lcmp hx hb dX2_needKey_4 ?_
  refine lv_if_lt (tgt := 16) hx hb dX2_needKey_5 (by decide) (fun c_5 => ?_) (fun c_5 => ?_)
  · have c_5 : p1 < (-1000000) := (lg_cmp_lt _ _).mp c_5
    have hm := it_t hm c_5
    exact vx_throwS hx hb hl9 (own := RX2) (cls := "java/lang/IllegalArgumentException") (names := ["java/lang/RuntimeException", "java/lang/Exception"]) (ik := 80) (is := 190) (ic := 84) hown (by decide +kernel) (by decide +kernel) zw2 zw3 (hV.1 (190, "key out of range") (by decide +kernel)) (vx_hat (fun w h => hts w (List.mem_cons_of_mem _ (List.mem_append_right _ h))) (by decide +kernel) (zV_ng hV)) (by decide +kernel) hV.2.2.1 hV.2.2.2 hS (hl.1.trans hml.symm) dX2_needKey_16 dX2_needKey_19 dX2_needKey_20 dX2_needKey_22 dX2_needKey_25 (fun x hx => (hnx x hx).elim) (Nat.le_of_ble_eq_true rfl) (Nat.le_of_ble_eq_true rfl) (Nat.le_of_ble_eq_true rfl) (Nat.le_of_ble_eq_true rfl) hlocks (z_xt (k := 1) rfl (o2 hm) hP hK hD hS) hS.2.2 (Nat.le_of_ble_eq_true rfl) (Nat.le_of_ble_eq_true rfl)
  · have c_5 : ¬ (p1 < (-1000000)) := fun h => c_5 ((lg_cmp_lt _ _).mpr h)
    have hm := it_f hm c_5
    refine lv_lload_n hx hb dX2_needKey_8 rfl (lv_at hl 0 rfl) ?_
    refine lv_ldc2 hx hb hown zw1 dX2_needKey_9 ?_
    refine W.lcmp hx hb dX2_needKey_12 ?_
    refine lv_if_le (tgt := 26) hx hb dX2_needKey_13 (by decide) (fun c_13 => ?_) (fun c_13 => ?_)
    · have c_13 : p1 ≤ 1000000 := (lg_cmp_le _ _).mp c_13
      have hm := it_t hm c_13
      refine vx_ret (W.widen (k := 1) (n := 6) (Nat.le_of_ble_eq_true rfl) (Nat.le_of_ble_eq_true rfl) ?_)
      exact W.vret hx hb hr (fun t ht hW => ⟨⟨(), rfl, o2 hm, by rw [ht]; exact hP, va_K.moved hW.alike hK, hD⟩, hS.F ht⟩) hS.2.2 dX2_needKey_26
    · have c_13 : ¬ (p1 ≤ 1000000) := fun h => c_13 ((lg_cmp_le _ _).mpr h)
      have hm := it_f hm c_13
      exact vx_throwS hx hb hl9 (own := RX2) (cls := "java/lang/IllegalArgumentException") (names := ["java/lang/RuntimeException", "java/lang/Exception"]) (ik := 80) (is := 190) (ic := 84) hown (by decide +kernel) (by decide +kernel) zw2 zw3 (hV.1 (190, "key out of range") (by decide +kernel)) (vx_hat (fun w h => hts w (List.mem_cons_of_mem _ (List.mem_append_right _ h))) (by decide +kernel) (zV_ng hV)) (by decide +kernel) hV.2.2.1 hV.2.2.2 hS (hl.1.trans hml.symm) dX2_needKey_16 dX2_needKey_19 dX2_needKey_20 dX2_needKey_22 dX2_needKey_25 (fun x hx => (hnx x hx).elim) (Nat.le_of_ble_eq_true rfl) (Nat.le_of_ble_eq_true rfl) (Nat.le_of_ble_eq_true rfl) (Nat.le_of_ble_eq_true rfl) hlocks (z_xt (k := 1) rfl (o2 hm) hP hK hD hS) hS.2.2 (Nat.le_of_ble_eq_true rfl) (Nat.le_of_ble_eq_true rfl)
set_option maxHeartbeats 4000000 in
set_option maxRecDepth 100000 in
theorem c_X2_allKeys (l : Launch) (dC : Nat → ClassId) (dI : Nat → Nat → Nat) (cI : ClassId) (ad : Nat → Nat) (zk : zN) (zm : zN) (zb : zN) (zs : zN) (zr : zN) (zu : zN) (zt : zT) (zf : zN) (zg : zN) (zbd : Int32) (zro : Int32) (zmc : Int32) (zmg : Int32) (zsp : Int32) (zjn : Int32) (F : Nat) (r : Int32) (hm : X2_allKeys F zk zb = some r) : Met l yX2_allKeys wsX2_allKeys ({ frames := 1, cells := 0, slots := 0, locals := 20 }) (va_Pc [.ref (ad 0)] (zR (dC, dI) (wL cI ad zk zm zb zs zr zu zt zf zg zbd zro zmc zmg zsp zjn) [(cI, .int)])) (vp_Si (fun v => v = r)) 0 0 (fun _ => False) := by
  refine Met.ofW (cc := cX2_allKeys) (maxL := 1) (ret := (some .int)) (by decide) rfl ?_
  intro p e s m args below meth c s₁ B hml hv
  obtain ⟨rfl, hP, hK⟩ := hv
  have hx := B.exec
  have hb := B.bytes
  have hr := B.returns
  have hts := atoms_spec (ws := wsX2_allKeys) B.pre
  have hown : s.vm.findClass RX2 = some m.cls := findClass_of_methodNamed B.named
  have hlocks := B.notSynchronized
  have hl := lv_entry ([.ref (ad 0)]) (n := 1) (Nat.le_of_ble_eq_true rfl)
  rw [lg_entry_eq]
  generalize (lg_sl ([.ref (ad 0)]) ++ List.replicate (1 - (lg_sl ([.ref (ad 0)])).length) Slot.unset).toArray = ls at hl ⊢
  have hl : lv_has ls 1 [(0, .ref (ad 0))] := hl
  have zw0 := hts (.fieldLink RX2 14 "LearnedLedge" "keys" "LLearnedLedge$Numbers;") (by decide +kernel)
  have zw1 := hts (.fieldLink RX2 21 "LearnedLedge" "buffer" "LLearnedLedge$Numbers;") (by decide +kernel)
  have ziX2 : ∀ w ∈ u_ws RX2 TX2 15, w ∈ wsX2_allKeys := by decide +kernel
  refine lv_aload_n hx hb dX2_allKeys_0 rfl (lv_at hl 0 rfl) ?_
  refine va_get (D := (dC, dI)) (ci := 2) (v := .ref (ad 1)) (C := RX2) (T := TX2) (N := 15) hx hb hts ziX2 hown hK hP 0 rfl rfl 0 (by decide) zw0 (fun _ h9 => h9) rfl dX2_allKeys_1 ?_
  obtain ⟨r4, h_4, hm⟩ := ob hm
  refine z_callRi (As := []) (rest := []) (ci := 0) (q := (RX0, TX0, 2)) ⟨hx, hb, hml, hown, hts⟩ (c_X0_length l dC dI cI (ad 1) (ad 2) 256 zk F r4 h_4) (cwV 0 hts gX2_allKeys_X0_length rfl rfl rfl kv_X0_length ⟨Nat.le_of_ble_eq_true rfl, Nat.le_of_ble_eq_true rfl⟩) hK (hP.sub (ws' := (wN cI (ad 1) (ad 2) 256 zk)) [1, 2] rfl) rfl rfl rfl rfl hl.1 rfl (Nat.le_of_ble_eq_true rfl) dX2_allKeys_4 ⟨Nat.zero_le _, Nat.zero_le _⟩ ?_
  refine lv_aload_n hx hb dX2_allKeys_7 rfl (lv_at hl 0 rfl) ?_
  refine va_get (D := (dC, dI)) (ci := 2) (v := .ref (ad 5)) (C := RX2) (T := TX2) (N := 15) hx hb hts ziX2 hown hK hP 0 rfl rfl 2 (by decide) zw1 (fun _ h9 => h9) rfl dX2_allKeys_8 ?_
  obtain ⟨r11, h_11, hm⟩ := ob hm
  refine z_callRi (As := []) (rest := [.int r4]) (ci := 0) (q := (RX0, TX0, 2)) ⟨hx, hb, hml, hown, hts⟩ (c_X0_length l dC dI cI (ad 5) (ad 6) 16 zb F r11 h_11) (cwV 0 hts gX2_allKeys_X0_length rfl rfl rfl kv_X0_length ⟨Nat.le_of_ble_eq_true rfl, Nat.le_of_ble_eq_true rfl⟩) hK (hP.sub (ws' := (wN cI (ad 5) (ad 6) 16 zb)) [5, 6] rfl) rfl rfl rfl rfl hl.1 rfl (Nat.le_of_ble_eq_true rfl) dX2_allKeys_11 ⟨Nat.zero_le _, Nat.zero_le _⟩ ?_
  refine lv_iadd hx hb dX2_allKeys_14 ?_
  exact W.iret hx hb hr (fun t ht hW => ⟨_, rfl, (o2 hm).symm, ht⟩) (fun q h => absurd h List.not_mem_nil) dX2_allKeys_15
set_option maxHeartbeats 4000000 in
set_option maxRecDepth 100000 in
theorem c_X2_needToFollow (l : Launch) (dC : Nat → ClassId) (dI : Nat → Nat → Nat) (cI : ClassId) (ad : Nat → Nat) (zk : zN) (zm : zN) (zb : zN) (zs : zN) (zr : zN) (zu : zN) (zt : zT) (zf : zN) (zg : zN) (zbd : Int32) (zro : Int32) (zmc : Int32) (zmg : Int32) (zsp : Int32) (zjn : Int32) (F : Nat) (p1 : Int32) (p2 : Int32) (sz : Nat) (sa : Nat → Nat) (hl9 : l.stackTraces = false) (z : Nat ⊕ Unit) (hm : X2_needToFollow F zk zb p1 p2 = some z) : vx_Met l yX2_needToFollow wsX2_needToFollow ({ frames := 6, cells := 1, slots := 6, locals := 90 }) (va_Pc [.ref (ad 0), .int p1, .int p2] (zX (dC, dI) (wL cI ad zk zm zb zs zr zu zt zf zg zbd zro zmc zmg zsp zjn) [(cI, .int)] sz sa)) (zXv (dC, dI) (fun (u_ : Unit) => (wL cI ad zk zm zb zs zr zu zt zf zg zbd zro zmc zmg zsp zjn)) [(cI, .int)] (va_A (wL cI ad zk zm zb zs zr zu zt zf zg zbd zro zmc zmg zsp zjn) sz) (fun _ => z = Sum.inr ())) (zXC (dC, dI) (wL cI ad zk zm zb zs zr zu zt zf zg zbd zro zmc zmg zsp zjn) [(cI, .int)] (va_A (wL cI ad zk zm zb zs zr zu zt zf zg zbd zro zmc zmg zsp zjn) sz) z) 1 6 (va_A (wL cI ad zk zm zb zs zr zu zt zf zg zbd zro zmc zmg zsp zjn) sz) := by
  refine vx_ofW (cc := cX2_needToFollow) (maxL := 4) (ret := none) (by decide) rfl ?_
  intro p e s m args below meth c s₁ B hml hnx hv
  obtain ⟨rfl, ⟨hsz, hP, hK, hD0⟩, hV⟩ := hv
  have hx := B.exec
  have hb := B.bytes
  have hr := B.returns
  have hts := atoms_spec (ws := wsX2_needToFollow) B.pre
  have hown : s.vm.findClass RX2 = some m.cls := findClass_of_methodNamed B.named
  have hlocks := B.notSynchronized
  subst hsz
  have hD := hD0.self (sz := s.heap.size)
  generalize hAe : va_A (wL cI ad zk zm zb zs zr zu zt zf zg zbd zro zmc zmg zsp zjn) s.heap.size = A at hD hV ⊢
  have hA : ∀ q : Nat, s.heap.size ≤ q → A q := fun q h => by rw [← hAe]; exact Or.inr h
  have hS : va_S A s.heap s.heap [] := va_S.rf
  generalize eL : ([] : List Loc) = locs at hS ⊢
  obtain ⟨H, eH⟩ : ∃ z : Heap, z = s.heap := ⟨_, rfl⟩
  have hP : va_P (dC, dI) vwCl (wL cI ad zk zm zb zs zr zu zt zf zg zbd zro zmc zmg zsp zjn) H := by rw [eH]; exact hP
  have hS : va_S A s.heap H locs := by rw [eH]; exact hS
  refine z_heap eH ?_
  have hl := lv_entry ([.ref (ad 0), .int p1, .int p2]) (n := 4) (Nat.le_of_ble_eq_true rfl)
  rw [lg_entry_eq]
  generalize (lg_sl ([.ref (ad 0), .int p1, .int p2]) ++ List.replicate (4 - (lg_sl ([.ref (ad 0), .int p1, .int p2])).length) Slot.unset).toArray = ls at hl ⊢
  have hl : lv_has ls 4 [(0, .ref (ad 0)), (1, .int p1), (2, .int p2)] := hl
  have zw0 := hts (.fieldLink RX2 14 "LearnedLedge" "keys" "LLearnedLedge$Numbers;") (by decide +kernel)
  have zw1 := hts (.fieldLink RX2 21 "LearnedLedge" "buffer" "LLearnedLedge$Numbers;") (by decide +kernel)
  have zw2 := hts (.classLink RX2 98 "java/lang/IllegalStateException") (by decide +kernel)
  have zw3 := hts (.initialized "java/lang/IllegalStateException") (by decide +kernel)
  have ziX2 : ∀ w ∈ u_ws RX2 TX2 15, w ∈ wsX2_needToFollow := by decide +kernel
  refine lv_aload_n hx hb dX2_needToFollow_0 rfl (lv_at hl 0 rfl) ?_
  refine va_get (D := (dC, dI)) (ci := 2) (v := .ref (ad 1)) (C := RX2) (T := TX2) (N := 15) hx hb hts ziX2 hown hK hP 0 rfl rfl 0 (by decide) zw0 (fun _ h9 => h9) rfl dX2_needToFollow_1 ?_
  refine lv_iload_n hx hb dX2_needToFollow_4 rfl (lv_at hl 1 rfl) ?_
  obtain ⟨r5, h_5, hm⟩ := ob hm
  refine z_callRi (As := [.int p1]) (rest := []) (ci := 0) (q := (RX0, TX0, 2)) ⟨hx, hb, hml, hown, hts⟩ (c_X0_below l dC dI cI (ad 1) (ad 2) 256 zk F p1 r5 h_5) (cwV 1 hts gX2_needToFollow_X0_below rfl rfl rfl kv_X0_below ⟨Nat.le_of_ble_eq_true rfl, Nat.le_of_ble_eq_true rfl⟩) hK (hP.sub (ws' := (wN cI (ad 1) (ad 2) 256 zk)) [1, 2] rfl) rfl rfl rfl rfl hl.1 rfl (Nat.le_of_ble_eq_true rfl) dX2_needToFollow_5 ⟨Nat.zero_le _, Nat.zero_le _⟩ ?_
  refine lv_aload_n hx hb dX2_needToFollow_8 rfl (lv_at hl 0 rfl) ?_
  refine va_get (D := (dC, dI)) (ci := 2) (v := .ref (ad 1)) (C := RX2) (T := TX2) (N := 15) hx hb hts ziX2 hown hK hP 0 rfl rfl 0 (by decide) zw0 (fun _ h9 => h9) rfl dX2_needToFollow_9 ?_
  obtain ⟨r12, h_12, hm⟩ := ob hm
  refine z_callRi (As := []) (rest := [.int r5]) (ci := 0) (q := (RX0, TX0, 2)) ⟨hx, hb, hml, hown, hts⟩ (c_X0_length l dC dI cI (ad 1) (ad 2) 256 zk F r12 h_12) (cwV 0 hts gX2_needToFollow_X0_length rfl rfl rfl kv_X0_length ⟨Nat.le_of_ble_eq_true rfl, Nat.le_of_ble_eq_true rfl⟩) hK (hP.sub (ws' := (wN cI (ad 1) (ad 2) 256 zk)) [1, 2] rfl) rfl rfl rfl rfl hl.1 rfl (Nat.le_of_ble_eq_true rfl) dX2_needToFollow_12 ⟨Nat.zero_le _, Nat.zero_le _⟩ ?_
  obtain ⟨z_41, hq_41, hm⟩ := ob hm
  have J_41 : ∀ (y41 : Int32), z_41 = y41 → W p l e (headSpec wsX2_needToFollow ({ frames := 6, cells := 1, slots := 6, locals := 90 } : Room)).room s m ([.ref (ad 0), .int p1, .int p2] : List Value).toArray below meth c H locs 0 0 (vx_MQ below (zXv (dC, dI) (fun (u_ : Unit) => (wL cI ad zk zm zb zs zr zu zt zf zg zbd zro zmc zmg zsp zjn)) [(cI, .int)] A (fun _ => z = Sum.inr ())) (zXC (dC, dI) (wL cI ad zk zm zb zs zr zu zt zf zg zbd zro zmc zmg zsp zjn) [(cI, .int)] A z) ([.ref (ad 0), .int p1, .int p2] : List Value).toArray s 1 6 A) (F0 m 41 ls [.int y41]) := by
    intro y41 ez
    rw [ez] at hm
    refine lv_istore_n (lv' := [(3, .int y41), (0, .ref (ad 0)), (1, .int p1), (2, .int p2)]) hx hb dX2_needToFollow_41 rfl hl (by decide) rfl (fun ls hl => ?_)
    refine lv_aload_n hx hb dX2_needToFollow_42 rfl (lv_at hl 1 rfl) ?_
    obtain ⟨r43, h_43, hm⟩ := ob hm
    refine z_callRi (As := []) (rest := []) (ci := 2) (q := (RX2, TX2, 15)) ⟨hx, hb, hml, hown, hts⟩ (c_X2_allKeys l dC dI cI ad zk zm zb zs zr zu zt zf zg zbd zro zmc zmg zsp zjn F r43 h_43) (cwV 0 hts gX2_needToFollow_X2_allKeys rfl rfl rfl kv_X2_allKeys ⟨Nat.le_of_ble_eq_true rfl, Nat.le_of_ble_eq_true rfl⟩) hK hP rfl rfl rfl rfl hl.1 rfl (Nat.le_of_ble_eq_true rfl) dX2_needToFollow_43 ⟨Nat.zero_le _, Nat.zero_le _⟩ ?_
    refine lv_iload_n hx hb dX2_needToFollow_46 rfl (lv_at hl 3 rfl) ?_
    refine lv_iadd hx hb dX2_needToFollow_47 ?_
    refine lv_sipush (v := 256) hx hb dX2_needToFollow_48 (by decide) ?_
    refine lv_icmp_gt (tgt := 58) hx hb dX2_needToFollow_51 (by decide) (fun c_51 => ?_) (fun c_51 => ?_)
    · have hm := it_t hm c_51
      exact vx_throwS hx hb hl9 (own := RX2) (cls := "java/lang/IllegalStateException") (names := ["java/lang/RuntimeException", "java/lang/Exception"]) (ik := 98) (is := 197) (ic := 102) hown (by decide +kernel) (by decide +kernel) zw2 zw3 (hV.1 (197, "no room, or a key is not less") (by decide +kernel)) (vx_hat (fun w h => hts w (List.mem_cons_of_mem _ (List.mem_append_right _ h))) (by decide +kernel) (zV_ng hV)) (by decide +kernel) hV.2.2.1 hV.2.2.2 hS (hl.1.trans hml.symm) dX2_needToFollow_58 dX2_needToFollow_61 dX2_needToFollow_62 dX2_needToFollow_64 dX2_needToFollow_67 (fun x hx => (hnx x hx).elim) (Nat.le_of_ble_eq_true rfl) (Nat.le_of_ble_eq_true rfl) (Nat.le_of_ble_eq_true rfl) (Nat.le_of_ble_eq_true rfl) hlocks (z_xt (k := 2) rfl (o2 hm) hP hK hD hS) hS.2.2 (Nat.le_of_ble_eq_true rfl) (Nat.le_of_ble_eq_true rfl)
    · have hm := it_f hm c_51
      refine lv_iload_n hx hb dX2_needToFollow_54 rfl (lv_at hl 0 rfl) ?_
      refine lv_if_ne (tgt := 68) hx hb dX2_needToFollow_55 (by decide) (fun c_55 => ?_) (fun c_55 => ?_)
      · have hm := it_f hm c_55
        refine vx_ret (W.widen (k := 1) (n := 6) (Nat.le_of_ble_eq_true rfl) (Nat.le_of_ble_eq_true rfl) ?_)
        exact W.vret hx hb hr (fun t ht hW => ⟨⟨(), rfl, o2 hm, by rw [ht]; exact hP, va_K.moved hW.alike hK, hD⟩, hS.F ht⟩) hS.2.2 dX2_needToFollow_68
      · have hm := it_t hm c_55
        exact vx_throwS hx hb hl9 (own := RX2) (cls := "java/lang/IllegalStateException") (names := ["java/lang/RuntimeException", "java/lang/Exception"]) (ik := 98) (is := 197) (ic := 102) hown (by decide +kernel) (by decide +kernel) zw2 zw3 (hV.1 (197, "no room, or a key is not less") (by decide +kernel)) (vx_hat (fun w h => hts w (List.mem_cons_of_mem _ (List.mem_append_right _ h))) (by decide +kernel) (zV_ng hV)) (by decide +kernel) hV.2.2.1 hV.2.2.2 hS (hl.1.trans hml.symm) dX2_needToFollow_58 dX2_needToFollow_61 dX2_needToFollow_62 dX2_needToFollow_64 dX2_needToFollow_67 (fun x hx => (hnx x hx).elim) (Nat.le_of_ble_eq_true rfl) (Nat.le_of_ble_eq_true rfl) (Nat.le_of_ble_eq_true rfl) (Nat.le_of_ble_eq_true rfl) hlocks (z_xt (k := 2) rfl (o2 hm) hP hK hD hS) hS.2.2 (Nat.le_of_ble_eq_true rfl) (Nat.le_of_ble_eq_true rfl)
  have hm := hq_41
  refine lv_icmp_ne (tgt := 40) hx hb dX2_needToFollow_15 (by decide) (fun c_15 => ?_) (fun c_15 => ?_)
  · have hm := it_f hm c_15
    refine lv_iconst (v := 0) hx hb dX2_needToFollow_40 (by decide) ?_
    exact J_41 0 (o2 hm)
  · have hm := it_t hm c_15
    refine lv_aload_n hx hb dX2_needToFollow_18 rfl (lv_at hl 0 rfl) ?_
    refine va_get (D := (dC, dI)) (ci := 2) (v := .ref (ad 5)) (C := RX2) (T := TX2) (N := 15) hx hb hts ziX2 hown hK hP 0 rfl rfl 2 (by decide) zw1 (fun _ h9 => h9) rfl dX2_needToFollow_19 ?_
    refine lv_iload_n hx hb dX2_needToFollow_22 rfl (lv_at hl 1 rfl) ?_
    obtain ⟨r23, h_23, hm⟩ := ob hm
    refine z_callRi (As := [.int p1]) (rest := []) (ci := 0) (q := (RX0, TX0, 2)) ⟨hx, hb, hml, hown, hts⟩ (c_X0_below l dC dI cI (ad 5) (ad 6) 16 zb F p1 r23 h_23) (cwV 1 hts gX2_needToFollow_X0_below rfl rfl rfl kv_X0_below ⟨Nat.le_of_ble_eq_true rfl, Nat.le_of_ble_eq_true rfl⟩) hK (hP.sub (ws' := (wN cI (ad 5) (ad 6) 16 zb)) [5, 6] rfl) rfl rfl rfl rfl hl.1 rfl (Nat.le_of_ble_eq_true rfl) dX2_needToFollow_23 ⟨Nat.zero_le _, Nat.zero_le _⟩ ?_
    refine lv_aload_n hx hb dX2_needToFollow_26 rfl (lv_at hl 0 rfl) ?_
    refine va_get (D := (dC, dI)) (ci := 2) (v := .ref (ad 5)) (C := RX2) (T := TX2) (N := 15) hx hb hts ziX2 hown hK hP 0 rfl rfl 2 (by decide) zw1 (fun _ h9 => h9) rfl dX2_needToFollow_27 ?_
    obtain ⟨r30, h_30, hm⟩ := ob hm
    refine z_callRi (As := []) (rest := [.int r23]) (ci := 0) (q := (RX0, TX0, 2)) ⟨hx, hb, hml, hown, hts⟩ (c_X0_length l dC dI cI (ad 5) (ad 6) 16 zb F r30 h_30) (cwV 0 hts gX2_needToFollow_X0_length rfl rfl rfl kv_X0_length ⟨Nat.le_of_ble_eq_true rfl, Nat.le_of_ble_eq_true rfl⟩) hK (hP.sub (ws' := (wN cI (ad 5) (ad 6) 16 zb)) [5, 6] rfl) rfl rfl rfl rfl hl.1 rfl (Nat.le_of_ble_eq_true rfl) dX2_needToFollow_30 ⟨Nat.zero_le _, Nat.zero_le _⟩ ?_
    refine lv_icmp_ne (tgt := 40) hx hb dX2_needToFollow_33 (by decide) (fun c_33 => ?_) (fun c_33 => ?_)
    · have hm := it_f hm c_33
      refine lv_iconst (v := 0) hx hb dX2_needToFollow_40 (by decide) ?_
      exact J_41 0 (o2 hm)
    · have hm := it_t hm c_33
      refine lv_iconst (v := 1) hx hb dX2_needToFollow_36 (by decide) ?_
      refine lv_goto (tgt := 41) hx hb dX2_needToFollow_37 (by decide) ?_
      exact J_41 1 (o2 hm)
set_option maxHeartbeats 4000000 in
set_option maxRecDepth 100000 in
theorem c_X2_noteTailSlope (l : Launch) (dC : Nat → ClassId) (dI : Nat → Nat → Nat) (cI : ClassId) (ad : Nat → Nat) (zk : zN) (zm : zN) (zb : zN) (zs : zN) (zr : zN) (zu : zN) (zt : zT) (zf : zN) (zg : zN) (zbd : Int32) (zro : Int32) (zmc : Int32) (zmg : Int32) (zsp : Int32) (zjn : Int32) (F : Nat) (sz : Nat) (u_zr : zN) (u_zu : zN) (hm : X2_noteTailSlope F zs zr zu zt = some (u_zr, u_zu)) : Met l yX2_noteTailSlope wsX2_noteTailSlope ({ frames := 2, cells := 0, slots := 0, locals := 47 }) (va_Pc [.ref (ad 0)] (zW (dC, dI) (wL cI ad zk zm zb zs zr zu zt zf zg zbd zro zmc zmg zsp zjn) [(cI, .int)] sz)) (zQv (dC, dI) (wL cI ad zk zm zb zs u_zr u_zu zt zf zg zbd zro zmc zmg zsp zjn) [(cI, .int)] (va_A (wL cI ad zk zm zb zs zr zu zt zf zg zbd zro zmc zmg zsp zjn) sz)) 0 0 (va_A (wL cI ad zk zm zb zs zr zu zt zf zg zbd zro zmc zmg zsp zjn) sz) := by
  refine Met.ofW (cc := cX2_noteTailSlope) (maxL := 2) (ret := none) (by decide) rfl ?_
  intro p e s m args below meth c s₁ B hml hv
  obtain ⟨rfl, hsz, hP, hK, hD0⟩ := hv
  have hx := B.exec
  have hb := B.bytes
  have hr := B.returns
  have hts := atoms_spec (ws := wsX2_noteTailSlope) B.pre
  have hown : s.vm.findClass RX2 = some m.cls := findClass_of_methodNamed B.named
  have hlocks := B.notSynchronized
  subst hsz
  have hD := hD0.self (sz := s.heap.size)
  generalize hAe : va_A (wL cI ad zk zm zb zs zr zu zt zf zg zbd zro zmc zmg zsp zjn) s.heap.size = A at hD ⊢
  have hA : ∀ q : Nat, s.heap.size ≤ q → A q := fun q h => by rw [← hAe]; exact Or.inr h
  have hS : va_S A s.heap s.heap [] := va_S.rf
  generalize eL : ([] : List Loc) = locs at hS ⊢
  obtain ⟨H, eH⟩ : ∃ z : Heap, z = s.heap := ⟨_, rfl⟩
  have hP : va_P (dC, dI) vwCl (wL cI ad zk zm zb zs zr zu zt zf zg zbd zro zmc zmg zsp zjn) H := by rw [eH]; exact hP
  have hS : va_S A s.heap H locs := by rw [eH]; exact hS
  refine z_heap eH ?_
  have hl := lv_entry ([.ref (ad 0)]) (n := 2) (Nat.le_of_ble_eq_true rfl)
  rw [lg_entry_eq]
  generalize (lg_sl ([.ref (ad 0)]) ++ List.replicate (2 - (lg_sl ([.ref (ad 0)])).length) Slot.unset).toArray = ls at hl ⊢
  have hl : lv_has ls 2 [(0, .ref (ad 0))] := hl
  have zw0 := hts (.fieldLink RX2 24 "LearnedLedge" "starts" "LLearnedLedge$Numbers;") (by decide +kernel)
  have zw1 := hts (.fieldLink RX2 27 "LearnedLedge" "rises" "LLearnedLedge$Numbers;") (by decide +kernel)
  have zw2 := hts (.fieldLink RX2 36 "LearnedLedge" "tail" "LLearnedLedge$SlopeRange;") (by decide +kernel)
  have zw3 := hts (.fieldLink RX2 30 "LearnedLedge" "runs" "LLearnedLedge$Numbers;") (by decide +kernel)
  have ziX2 : ∀ w ∈ u_ws RX2 TX2 15, w ∈ wsX2_noteTailSlope := by decide +kernel
  refine lv_aload_n hx hb dX2_noteTailSlope_0 rfl (lv_at hl 0 rfl) ?_
  refine va_get (D := (dC, dI)) (ci := 2) (v := .ref (ad 7)) (C := RX2) (T := TX2) (N := 15) hx hb hts ziX2 hown hK hP 0 rfl rfl 3 (by decide) zw0 (fun _ h9 => h9) rfl dX2_noteTailSlope_1 ?_
  obtain ⟨r4, h_4, hm⟩ := ob hm
  refine z_callRi (As := []) (rest := []) (ci := 0) (q := (RX0, TX0, 2)) ⟨hx, hb, hml, hown, hts⟩ (c_X0_length l dC dI cI (ad 7) (ad 8) 256 zs F r4 h_4) (cwV 0 hts gX2_noteTailSlope_X0_length rfl rfl rfl kv_X0_length ⟨Nat.le_of_ble_eq_true rfl, Nat.le_of_ble_eq_true rfl⟩) hK (hP.sub (ws' := (wN cI (ad 7) (ad 8) 256 zs)) [7, 8] rfl) rfl rfl rfl rfl hl.1 rfl (Nat.le_of_ble_eq_true rfl) dX2_noteTailSlope_4 ⟨Nat.zero_le _, Nat.zero_le _⟩ ?_
  refine lv_iconst (v := 1) hx hb dX2_noteTailSlope_7 (by decide) ?_
  refine lv_isub hx hb dX2_noteTailSlope_8 ?_
  refine lv_topi (fun x1 e_x1 => ?_)
  have hm := bnd_e hm e_x1
  refine lv_istore_n (lv' := [(1, .int x1), (0, .ref (ad 0))]) hx hb dX2_noteTailSlope_9 rfl hl (by decide) rfl (fun ls hl => ?_)
  refine lv_aload_n hx hb dX2_noteTailSlope_10 rfl (lv_at hl 1 rfl) ?_
  refine va_get (D := (dC, dI)) (ci := 2) (v := .ref (ad 9)) (C := RX2) (T := TX2) (N := 15) hx hb hts ziX2 hown hK hP 0 rfl rfl 4 (by decide) zw1 (fun _ h9 => h9) rfl dX2_noteTailSlope_11 ?_
  refine lv_iload_n hx hb dX2_noteTailSlope_14 rfl (lv_at hl 0 rfl) ?_
  refine lv_aload_n hx hb dX2_noteTailSlope_15 rfl (lv_at hl 1 rfl) ?_
  refine va_get (D := (dC, dI)) (ci := 2) (v := .ref (ad 13)) (C := RX2) (T := TX2) (N := 15) hx hb hts ziX2 hown hK hP 0 rfl rfl 6 (by decide) zw2 (fun _ h9 => h9) rfl dX2_noteTailSlope_16 ?_
  obtain ⟨r19, h_19, hm⟩ := ob hm
  refine z_callRi (As := []) (rest := [.int x1, .ref (ad 9)]) (ci := 1) (q := (RX1, TX1, 7)) ⟨hx, hb, hml, hown, hts⟩ (c_X1_leastRise l dC dI (ad 13) zt F r19 h_19) (cwV 0 hts gX2_noteTailSlope_X1_leastRise rfl rfl rfl kv_X1_leastRise ⟨Nat.le_of_ble_eq_true rfl, Nat.le_of_ble_eq_true rfl⟩) (hK.sub (tys' := []) [] rfl) (hP.sub (ws' := (wT (ad 13) zt)) [13] rfl) rfl rfl rfl rfl hl.1 rfl (Nat.le_of_ble_eq_true rfl) dX2_noteTailSlope_19 ⟨Nat.zero_le _, Nat.zero_le _⟩ ?_
  obtain ⟨zr22, h_22, hm⟩ := ob hm
  refine z_callWv (wc := (wN cI (ad 9) (ad 10) 256 zr)) (w1 := (wN cI (ad 9) (ad 10) 256 zr22)) (ws := (wL cI ad zk zm zb zs zr zu zt zf zg zbd zro zmc zmg zsp zjn)) (ws' := (wL cI ad zk zm zb zs zr22 zu zt zf zg zbd zro zmc zmg zsp zjn)) [9, 10] [0, 1, 2, 3, 4, 5, 6, 7, 8, 11, 12, 13, 14, 15, 16, 17] 18 (As := [.int x1, .int r19]) (rest := []) (ci := 0) (q := (RX0, TX0, 2)) ⟨hx, hb, hml, hown, hts⟩ (c_X0_put l dC dI cI (ad 9) (ad 10) 256 zr F x1 r19 H.size zr22 h_22) (cwV 2 hts gX2_noteTailSlope_X0_put rfl rfl rfl kv_X0_put ⟨Nat.le_of_ble_eq_true rfl, Nat.le_of_ble_eq_true rfl⟩) hK hP hD hS hA (hP.sub (ws' := (wN cI (ad 9) (ad 10) 256 zr)) [9, 10] rfl) (hD.sub (ws' := (wN cI (ad 9) (ad 10) 256 zr)) [9, 10] (by decide) rfl) rfl rfl (by decide) rfl rfl (by decide) rfl rfl rfl rfl rfl hl.1 rfl (Nat.le_of_ble_eq_true rfl) dX2_noteTailSlope_22 ⟨Nat.zero_le _, Nat.zero_le _⟩ (fun H locs hP hD hS => ?_)
  refine lv_aload_n hx hb dX2_noteTailSlope_25 rfl (lv_at hl 1 rfl) ?_
  refine va_get (D := (dC, dI)) (ci := 2) (v := .ref (ad 11)) (C := RX2) (T := TX2) (N := 15) hx hb hts ziX2 hown hK hP 0 rfl rfl 5 (by decide) zw3 (fun _ h9 => h9) rfl dX2_noteTailSlope_26 ?_
  refine lv_iload_n hx hb dX2_noteTailSlope_29 rfl (lv_at hl 0 rfl) ?_
  refine lv_aload_n hx hb dX2_noteTailSlope_30 rfl (lv_at hl 1 rfl) ?_
  refine va_get (D := (dC, dI)) (ci := 2) (v := .ref (ad 13)) (C := RX2) (T := TX2) (N := 15) hx hb hts ziX2 hown hK hP 0 rfl rfl 6 (by decide) zw2 (fun _ h9 => h9) rfl dX2_noteTailSlope_31 ?_
  obtain ⟨r34, h_34, hm⟩ := ob hm
  refine z_callRi (As := []) (rest := [.int x1, .ref (ad 11)]) (ci := 1) (q := (RX1, TX1, 7)) ⟨hx, hb, hml, hown, hts⟩ (c_X1_leastRun l dC dI (ad 13) zt F r34 h_34) (cwV 0 hts gX2_noteTailSlope_X1_leastRun rfl rfl rfl kv_X1_leastRun ⟨Nat.le_of_ble_eq_true rfl, Nat.le_of_ble_eq_true rfl⟩) (hK.sub (tys' := []) [] rfl) (hP.sub (ws' := (wT (ad 13) zt)) [13] rfl) rfl rfl rfl rfl hl.1 rfl (Nat.le_of_ble_eq_true rfl) dX2_noteTailSlope_34 ⟨Nat.zero_le _, Nat.zero_le _⟩ ?_
  obtain ⟨zu37, h_37, hm⟩ := ob hm
  refine z_callWv (wc := (wN cI (ad 11) (ad 12) 256 zu)) (w1 := (wN cI (ad 11) (ad 12) 256 zu37)) (ws := (wL cI ad zk zm zb zs zr22 zu zt zf zg zbd zro zmc zmg zsp zjn)) (ws' := (wL cI ad zk zm zb zs zr22 zu37 zt zf zg zbd zro zmc zmg zsp zjn)) [11, 12] [0, 1, 2, 3, 4, 5, 6, 7, 8, 9, 10, 13, 14, 15, 16, 17] 18 (As := [.int x1, .int r34]) (rest := []) (ci := 0) (q := (RX0, TX0, 2)) ⟨hx, hb, hml, hown, hts⟩ (c_X0_put l dC dI cI (ad 11) (ad 12) 256 zu F x1 r34 H.size zu37 h_37) (cwV 2 hts gX2_noteTailSlope_X0_put rfl rfl rfl kv_X0_put ⟨Nat.le_of_ble_eq_true rfl, Nat.le_of_ble_eq_true rfl⟩) hK hP hD hS hA (hP.sub (ws' := (wN cI (ad 11) (ad 12) 256 zu)) [11, 12] rfl) (hD.sub (ws' := (wN cI (ad 11) (ad 12) 256 zu)) [11, 12] (by decide) rfl) rfl rfl (by decide) rfl rfl (by decide) rfl rfl rfl rfl rfl hl.1 rfl (Nat.le_of_ble_eq_true rfl) dX2_noteTailSlope_37 ⟨Nat.zero_le _, Nat.zero_le _⟩ (fun H locs hP hD hS => ?_)
  cases o2 hm
  exact W.vret hx hb hr (fun t ht hW => ⟨⟨(), rfl, trivial, by rw [ht]; exact hP, va_K.moved hW.alike hK, hD⟩, hS.F ht⟩) hS.2.2 dX2_noteTailSlope_40
set_option maxHeartbeats 4000000 in
set_option maxRecDepth 100000 in
theorem c_X2_beginPiece (l : Launch) (dC : Nat → ClassId) (dI : Nat → Nat → Nat) (cI : ClassId) (ad : Nat → Nat) (zk : zN) (zm : zN) (zb : zN) (zs : zN) (zr : zN) (zu : zN) (zt : zT) (zf : zN) (zg : zN) (zbd : Int32) (zro : Int32) (zmc : Int32) (zmg : Int32) (zsp : Int32) (zjn : Int32) (F : Nat) (p1 : Int32) (p2 : Int32) (sz : Nat) (u_zs : zN) (u_zr : zN) (u_zu : zN) (u_zt : zT) (hm : X2_beginPiece F zs zr zu zt zbd p1 p2 = some (u_zs, u_zr, u_zu, u_zt)) : Met l yX2_beginPiece wsX2_beginPiece ({ frames := 2, cells := 0, slots := 0, locals := 47 }) (va_Pc [.ref (ad 0), .int p1, .int p2] (zW (dC, dI) (wL cI ad zk zm zb zs zr zu zt zf zg zbd zro zmc zmg zsp zjn) [(cI, .int)] sz)) (zQv (dC, dI) (wL cI ad zk zm zb u_zs u_zr u_zu u_zt zf zg zbd zro zmc zmg zsp zjn) [(cI, .int)] (va_A (wL cI ad zk zm zb zs zr zu zt zf zg zbd zro zmc zmg zsp zjn) sz)) 0 0 (va_A (wL cI ad zk zm zb zs zr zu zt zf zg zbd zro zmc zmg zsp zjn) sz) := by
  refine Met.ofW (cc := cX2_beginPiece) (maxL := 3) (ret := none) (by decide) rfl ?_
  intro p e s m args below meth c s₁ B hml hv
  obtain ⟨rfl, hsz, hP, hK, hD0⟩ := hv
  have hx := B.exec
  have hb := B.bytes
  have hr := B.returns
  have hts := atoms_spec (ws := wsX2_beginPiece) B.pre
  have hown : s.vm.findClass RX2 = some m.cls := findClass_of_methodNamed B.named
  have hlocks := B.notSynchronized
  subst hsz
  have hD := hD0.self (sz := s.heap.size)
  generalize hAe : va_A (wL cI ad zk zm zb zs zr zu zt zf zg zbd zro zmc zmg zsp zjn) s.heap.size = A at hD ⊢
  have hA : ∀ q : Nat, s.heap.size ≤ q → A q := fun q h => by rw [← hAe]; exact Or.inr h
  have hS : va_S A s.heap s.heap [] := va_S.rf
  generalize eL : ([] : List Loc) = locs at hS ⊢
  obtain ⟨H, eH⟩ : ∃ z : Heap, z = s.heap := ⟨_, rfl⟩
  have hP : va_P (dC, dI) vwCl (wL cI ad zk zm zb zs zr zu zt zf zg zbd zro zmc zmg zsp zjn) H := by rw [eH]; exact hP
  have hS : va_S A s.heap H locs := by rw [eH]; exact hS
  refine z_heap eH ?_
  have hl := lv_entry ([.ref (ad 0), .int p1, .int p2]) (n := 3) (Nat.le_of_ble_eq_true rfl)
  rw [lg_entry_eq]
  generalize (lg_sl ([.ref (ad 0), .int p1, .int p2]) ++ List.replicate (3 - (lg_sl ([.ref (ad 0), .int p1, .int p2])).length) Slot.unset).toArray = ls at hl ⊢
  have hl : lv_has ls 3 [(0, .ref (ad 0)), (1, .int p1), (2, .int p2)] := hl
  have zw0 := hts (.fieldLink RX2 36 "LearnedLedge" "tail" "LLearnedLedge$SlopeRange;") (by decide +kernel)
  have zw1 := hts (.fieldLink RX2 46 "LearnedLedge" "bound" "I") (by decide +kernel)
  have zw2 := hts (.fieldLink RX2 24 "LearnedLedge" "starts" "LLearnedLedge$Numbers;") (by decide +kernel)
  have zw3 := hts (.fieldLink RX2 27 "LearnedLedge" "rises" "LLearnedLedge$Numbers;") (by decide +kernel)
  have zw4 := hts (.fieldLink RX2 30 "LearnedLedge" "runs" "LLearnedLedge$Numbers;") (by decide +kernel)
  have ziX2 : ∀ w ∈ u_ws RX2 TX2 15, w ∈ wsX2_beginPiece := by decide +kernel
  refine lv_aload_n hx hb dX2_beginPiece_0 rfl (lv_at hl 0 rfl) ?_
  refine va_get (D := (dC, dI)) (ci := 2) (v := .ref (ad 13)) (C := RX2) (T := TX2) (N := 15) hx hb hts ziX2 hown hK hP 0 rfl rfl 6 (by decide) zw0 (fun _ h9 => h9) rfl dX2_beginPiece_1 ?_
  refine lv_iload_n hx hb dX2_beginPiece_4 rfl (lv_at hl 1 rfl) ?_
  refine lv_iload_n hx hb dX2_beginPiece_5 rfl (lv_at hl 2 rfl) ?_
  refine lv_aload_n hx hb dX2_beginPiece_6 rfl (lv_at hl 0 rfl) ?_
  refine va_get (D := (dC, dI)) (ci := 2) (v := .int zbd) (C := RX2) (T := TX2) (N := 15) hx hb hts ziX2 hown hK hP 0 rfl rfl 9 (by decide) zw1 (fun _ h9 => h9) rfl dX2_beginPiece_7 ?_
  obtain ⟨zt10, h_10, hm⟩ := ob hm
  refine z_callWv (wc := (wT (ad 13) zt)) (w1 := (wT (ad 13) zt10)) (ws := (wL cI ad zk zm zb zs zr zu zt zf zg zbd zro zmc zmg zsp zjn)) (ws' := (wL cI ad zk zm zb zs zr zu zt10 zf zg zbd zro zmc zmg zsp zjn)) [13] [0, 1, 2, 3, 4, 5, 6, 7, 8, 9, 10, 11, 12, 14, 15, 16, 17] 18 (As := [.int p1, .int p2, .int zbd]) (rest := []) (ci := 1) (q := (RX1, TX1, 7)) ⟨hx, hb, hml, hown, hts⟩ (c_X1_begin l dC dI (ad 13) zt F p1 p2 zbd H.size zt10 h_10) (cwV 3 hts gX2_beginPiece_X1_begin rfl rfl rfl kv_X1_begin ⟨Nat.le_of_ble_eq_true rfl, Nat.le_of_ble_eq_true rfl⟩) (hK.sub (tys' := []) [] rfl) hP hD hS hA (hP.sub (ws' := (wT (ad 13) zt)) [13] rfl) (hD.sub (ws' := (wT (ad 13) zt)) [13] (by decide) rfl) rfl rfl (by decide) rfl rfl (by decide) rfl rfl rfl rfl rfl hl.1 rfl (Nat.le_of_ble_eq_true rfl) dX2_beginPiece_10 ⟨Nat.zero_le _, Nat.zero_le _⟩ (fun H locs hP hD hS => ?_)
  refine lv_aload_n hx hb dX2_beginPiece_13 rfl (lv_at hl 0 rfl) ?_
  refine va_get (D := (dC, dI)) (ci := 2) (v := .ref (ad 7)) (C := RX2) (T := TX2) (N := 15) hx hb hts ziX2 hown hK hP 0 rfl rfl 3 (by decide) zw2 (fun _ h9 => h9) rfl dX2_beginPiece_14 ?_
  refine lv_iload_n hx hb dX2_beginPiece_17 rfl (lv_at hl 2 rfl) ?_
  obtain ⟨zs18, h_18, hm⟩ := ob hm
  refine z_callWv (wc := (wN cI (ad 7) (ad 8) 256 zs)) (w1 := (wN cI (ad 7) (ad 8) 256 zs18)) (ws := (wL cI ad zk zm zb zs zr zu zt10 zf zg zbd zro zmc zmg zsp zjn)) (ws' := (wL cI ad zk zm zb zs18 zr zu zt10 zf zg zbd zro zmc zmg zsp zjn)) [7, 8] [0, 1, 2, 3, 4, 5, 6, 9, 10, 11, 12, 13, 14, 15, 16, 17] 18 (As := [.int p2]) (rest := []) (ci := 0) (q := (RX0, TX0, 2)) ⟨hx, hb, hml, hown, hts⟩ (c_X0_push l dC dI cI (ad 7) (ad 8) 256 zs F p2 H.size zs18 h_18) (cwV 1 hts gX2_beginPiece_X0_push rfl rfl rfl kv_X0_push ⟨Nat.le_of_ble_eq_true rfl, Nat.le_of_ble_eq_true rfl⟩) hK hP hD hS hA (hP.sub (ws' := (wN cI (ad 7) (ad 8) 256 zs)) [7, 8] rfl) (hD.sub (ws' := (wN cI (ad 7) (ad 8) 256 zs)) [7, 8] (by decide) rfl) rfl rfl (by decide) rfl rfl (by decide) rfl rfl rfl rfl rfl hl.1 rfl (Nat.le_of_ble_eq_true rfl) dX2_beginPiece_18 ⟨Nat.zero_le _, Nat.zero_le _⟩ (fun H locs hP hD hS => ?_)
  refine lv_aload_n hx hb dX2_beginPiece_21 rfl (lv_at hl 0 rfl) ?_
  refine va_get (D := (dC, dI)) (ci := 2) (v := .ref (ad 9)) (C := RX2) (T := TX2) (N := 15) hx hb hts ziX2 hown hK hP 0 rfl rfl 4 (by decide) zw3 (fun _ h9 => h9) rfl dX2_beginPiece_22 ?_
  refine lv_aload_n hx hb dX2_beginPiece_25 rfl (lv_at hl 0 rfl) ?_
  refine va_get (D := (dC, dI)) (ci := 2) (v := .ref (ad 13)) (C := RX2) (T := TX2) (N := 15) hx hb hts ziX2 hown hK hP 0 rfl rfl 6 (by decide) zw0 (fun _ h9 => h9) rfl dX2_beginPiece_26 ?_
  obtain ⟨r29, h_29, hm⟩ := ob hm
  refine z_callRi (As := []) (rest := [.ref (ad 9)]) (ci := 1) (q := (RX1, TX1, 7)) ⟨hx, hb, hml, hown, hts⟩ (c_X1_leastRise l dC dI (ad 13) zt10 F r29 h_29) (cwV 0 hts gX2_beginPiece_X1_leastRise rfl rfl rfl kv_X1_leastRise ⟨Nat.le_of_ble_eq_true rfl, Nat.le_of_ble_eq_true rfl⟩) (hK.sub (tys' := []) [] rfl) (hP.sub (ws' := (wT (ad 13) zt10)) [13] rfl) rfl rfl rfl rfl hl.1 rfl (Nat.le_of_ble_eq_true rfl) dX2_beginPiece_29 ⟨Nat.zero_le _, Nat.zero_le _⟩ ?_
  obtain ⟨zr32, h_32, hm⟩ := ob hm
  refine z_callWv (wc := (wN cI (ad 9) (ad 10) 256 zr)) (w1 := (wN cI (ad 9) (ad 10) 256 zr32)) (ws := (wL cI ad zk zm zb zs18 zr zu zt10 zf zg zbd zro zmc zmg zsp zjn)) (ws' := (wL cI ad zk zm zb zs18 zr32 zu zt10 zf zg zbd zro zmc zmg zsp zjn)) [9, 10] [0, 1, 2, 3, 4, 5, 6, 7, 8, 11, 12, 13, 14, 15, 16, 17] 18 (As := [.int r29]) (rest := []) (ci := 0) (q := (RX0, TX0, 2)) ⟨hx, hb, hml, hown, hts⟩ (c_X0_push l dC dI cI (ad 9) (ad 10) 256 zr F r29 H.size zr32 h_32) (cwV 1 hts gX2_beginPiece_X0_push rfl rfl rfl kv_X0_push ⟨Nat.le_of_ble_eq_true rfl, Nat.le_of_ble_eq_true rfl⟩) hK hP hD hS hA (hP.sub (ws' := (wN cI (ad 9) (ad 10) 256 zr)) [9, 10] rfl) (hD.sub (ws' := (wN cI (ad 9) (ad 10) 256 zr)) [9, 10] (by decide) rfl) rfl rfl (by decide) rfl rfl (by decide) rfl rfl rfl rfl rfl hl.1 rfl (Nat.le_of_ble_eq_true rfl) dX2_beginPiece_32 ⟨Nat.zero_le _, Nat.zero_le _⟩ (fun H locs hP hD hS => ?_)
  refine lv_aload_n hx hb dX2_beginPiece_35 rfl (lv_at hl 0 rfl) ?_
  refine va_get (D := (dC, dI)) (ci := 2) (v := .ref (ad 11)) (C := RX2) (T := TX2) (N := 15) hx hb hts ziX2 hown hK hP 0 rfl rfl 5 (by decide) zw4 (fun _ h9 => h9) rfl dX2_beginPiece_36 ?_
  refine lv_aload_n hx hb dX2_beginPiece_39 rfl (lv_at hl 0 rfl) ?_
  refine va_get (D := (dC, dI)) (ci := 2) (v := .ref (ad 13)) (C := RX2) (T := TX2) (N := 15) hx hb hts ziX2 hown hK hP 0 rfl rfl 6 (by decide) zw0 (fun _ h9 => h9) rfl dX2_beginPiece_40 ?_
  obtain ⟨r43, h_43, hm⟩ := ob hm
  refine z_callRi (As := []) (rest := [.ref (ad 11)]) (ci := 1) (q := (RX1, TX1, 7)) ⟨hx, hb, hml, hown, hts⟩ (c_X1_leastRun l dC dI (ad 13) zt10 F r43 h_43) (cwV 0 hts gX2_beginPiece_X1_leastRun rfl rfl rfl kv_X1_leastRun ⟨Nat.le_of_ble_eq_true rfl, Nat.le_of_ble_eq_true rfl⟩) (hK.sub (tys' := []) [] rfl) (hP.sub (ws' := (wT (ad 13) zt10)) [13] rfl) rfl rfl rfl rfl hl.1 rfl (Nat.le_of_ble_eq_true rfl) dX2_beginPiece_43 ⟨Nat.zero_le _, Nat.zero_le _⟩ ?_
  obtain ⟨zu46, h_46, hm⟩ := ob hm
  refine z_callWv (wc := (wN cI (ad 11) (ad 12) 256 zu)) (w1 := (wN cI (ad 11) (ad 12) 256 zu46)) (ws := (wL cI ad zk zm zb zs18 zr32 zu zt10 zf zg zbd zro zmc zmg zsp zjn)) (ws' := (wL cI ad zk zm zb zs18 zr32 zu46 zt10 zf zg zbd zro zmc zmg zsp zjn)) [11, 12] [0, 1, 2, 3, 4, 5, 6, 7, 8, 9, 10, 13, 14, 15, 16, 17] 18 (As := [.int r43]) (rest := []) (ci := 0) (q := (RX0, TX0, 2)) ⟨hx, hb, hml, hown, hts⟩ (c_X0_push l dC dI cI (ad 11) (ad 12) 256 zu F r43 H.size zu46 h_46) (cwV 1 hts gX2_beginPiece_X0_push rfl rfl rfl kv_X0_push ⟨Nat.le_of_ble_eq_true rfl, Nat.le_of_ble_eq_true rfl⟩) hK hP hD hS hA (hP.sub (ws' := (wN cI (ad 11) (ad 12) 256 zu)) [11, 12] rfl) (hD.sub (ws' := (wN cI (ad 11) (ad 12) 256 zu)) [11, 12] (by decide) rfl) rfl rfl (by decide) rfl rfl (by decide) rfl rfl rfl rfl rfl hl.1 rfl (Nat.le_of_ble_eq_true rfl) dX2_beginPiece_46 ⟨Nat.zero_le _, Nat.zero_le _⟩ (fun H locs hP hD hS => ?_)
  cases o2 hm
  exact W.vret hx hb hr (fun t ht hW => ⟨⟨(), rfl, trivial, by rw [ht]; exact hP, va_K.moved hW.alike hK, hD⟩, hS.F ht⟩) hS.2.2 dX2_beginPiece_49
set_option maxHeartbeats 4000000 in
set_option maxRecDepth 100000 in
theorem c_X2_addLast (l : Launch) (dC : Nat → ClassId) (dI : Nat → Nat → Nat) (cI : ClassId) (ad : Nat → Nat) (zk : zN) (zm : zN) (zb : zN) (zs : zN) (zr : zN) (zu : zN) (zt : zT) (zf : zN) (zg : zN) (zbd : Int32) (zro : Int32) (zmc : Int32) (zmg : Int32) (zsp : Int32) (zjn : Int32) (F : Nat) (p1 : Int32) (sz : Nat) (u_zk : zN) (u_zm : zN) (u_zs : zN) (u_zr : zN) (u_zu : zN) (u_zt : zT) (hm : X2_addLast F zk zm zs zr zu zt zbd p1 = some (u_zk, u_zm, u_zs, u_zr, u_zu, u_zt)) : Met l yX2_addLast wsX2_addLast ({ frames := 3, cells := 0, slots := 0, locals := 69 }) (va_Pc [.ref (ad 0), .int p1] (zW (dC, dI) (wL cI ad zk zm zb zs zr zu zt zf zg zbd zro zmc zmg zsp zjn) [(cI, .int)] sz)) (zQv (dC, dI) (wL cI ad u_zk u_zm zb u_zs u_zr u_zu u_zt zf zg zbd zro zmc zmg zsp zjn) [(cI, .int)] (va_A (wL cI ad zk zm zb zs zr zu zt zf zg zbd zro zmc zmg zsp zjn) sz)) 0 0 (va_A (wL cI ad zk zm zb zs zr zu zt zf zg zbd zro zmc zmg zsp zjn) sz) := by
  refine Met.ofW (cc := cX2_addLast) (maxL := 3) (ret := none) (by decide) rfl ?_
  intro p e s m args below meth c s₁ B hml hv
  obtain ⟨rfl, hsz, hP, hK, hD0⟩ := hv
  have hx := B.exec
  have hb := B.bytes
  have hr := B.returns
  have hts := atoms_spec (ws := wsX2_addLast) B.pre
  have hown : s.vm.findClass RX2 = some m.cls := findClass_of_methodNamed B.named
  have hlocks := B.notSynchronized
  subst hsz
  have hD := hD0.self (sz := s.heap.size)
  generalize hAe : va_A (wL cI ad zk zm zb zs zr zu zt zf zg zbd zro zmc zmg zsp zjn) s.heap.size = A at hD ⊢
  have hA : ∀ q : Nat, s.heap.size ≤ q → A q := fun q h => by rw [← hAe]; exact Or.inr h
  have hS : va_S A s.heap s.heap [] := va_S.rf
  generalize eL : ([] : List Loc) = locs at hS ⊢
  obtain ⟨H, eH⟩ : ∃ z : Heap, z = s.heap := ⟨_, rfl⟩
  have hP : va_P (dC, dI) vwCl (wL cI ad zk zm zb zs zr zu zt zf zg zbd zro zmc zmg zsp zjn) H := by rw [eH]; exact hP
  have hS : va_S A s.heap H locs := by rw [eH]; exact hS
  refine z_heap eH ?_
  have hl := lv_entry ([.ref (ad 0), .int p1]) (n := 3) (Nat.le_of_ble_eq_true rfl)
  rw [lg_entry_eq]
  generalize (lg_sl ([.ref (ad 0), .int p1]) ++ List.replicate (3 - (lg_sl ([.ref (ad 0), .int p1])).length) Slot.unset).toArray = ls at hl ⊢
  have hl : lv_has ls 3 [(0, .ref (ad 0)), (1, .int p1)] := hl
  have zw0 := hts (.fieldLink RX2 14 "LearnedLedge" "keys" "LLearnedLedge$Numbers;") (by decide +kernel)
  have zw1 := hts (.fieldLink RX2 18 "LearnedLedge" "marks" "LLearnedLedge$Numbers;") (by decide +kernel)
  have zw2 := hts (.fieldLink RX2 24 "LearnedLedge" "starts" "LLearnedLedge$Numbers;") (by decide +kernel)
  have zw3 := hts (.fieldLink RX2 36 "LearnedLedge" "tail" "LLearnedLedge$SlopeRange;") (by decide +kernel)
  have ziX2 : ∀ w ∈ u_ws RX2 TX2 15, w ∈ wsX2_addLast := by decide +kernel
  refine lv_aload_n hx hb dX2_addLast_0 rfl (lv_at hl 0 rfl) ?_
  refine va_get (D := (dC, dI)) (ci := 2) (v := .ref (ad 1)) (C := RX2) (T := TX2) (N := 15) hx hb hts ziX2 hown hK hP 0 rfl rfl 0 (by decide) zw0 (fun _ h9 => h9) rfl dX2_addLast_1 ?_
  obtain ⟨r4, h_4, hm⟩ := ob hm
  refine z_callRi (As := []) (rest := []) (ci := 0) (q := (RX0, TX0, 2)) ⟨hx, hb, hml, hown, hts⟩ (c_X0_length l dC dI cI (ad 1) (ad 2) 256 zk F r4 h_4) (cwV 0 hts gX2_addLast_X0_length rfl rfl rfl kv_X0_length ⟨Nat.le_of_ble_eq_true rfl, Nat.le_of_ble_eq_true rfl⟩) hK (hP.sub (ws' := (wN cI (ad 1) (ad 2) 256 zk)) [1, 2] rfl) rfl rfl rfl rfl hl.1 rfl (Nat.le_of_ble_eq_true rfl) dX2_addLast_4 ⟨Nat.zero_le _, Nat.zero_le _⟩ ?_
  refine lv_istore_n (lv' := [(2, .int r4), (0, .ref (ad 0)), (1, .int p1)]) hx hb dX2_addLast_7 rfl hl (by decide) rfl (fun ls hl => ?_)
  refine lv_aload_n hx hb dX2_addLast_8 rfl (lv_at hl 1 rfl) ?_
  refine va_get (D := (dC, dI)) (ci := 2) (v := .ref (ad 1)) (C := RX2) (T := TX2) (N := 15) hx hb hts ziX2 hown hK hP 0 rfl rfl 0 (by decide) zw0 (fun _ h9 => h9) rfl dX2_addLast_9 ?_
  refine lv_iload_n hx hb dX2_addLast_12 rfl (lv_at hl 2 rfl) ?_
  obtain ⟨zk13, h_13, hm⟩ := ob hm
  refine z_callWv (wc := (wN cI (ad 1) (ad 2) 256 zk)) (w1 := (wN cI (ad 1) (ad 2) 256 zk13)) (ws := (wL cI ad zk zm zb zs zr zu zt zf zg zbd zro zmc zmg zsp zjn)) (ws' := (wL cI ad zk13 zm zb zs zr zu zt zf zg zbd zro zmc zmg zsp zjn)) [1, 2] [0, 3, 4, 5, 6, 7, 8, 9, 10, 11, 12, 13, 14, 15, 16, 17] 18 (As := [.int p1]) (rest := []) (ci := 0) (q := (RX0, TX0, 2)) ⟨hx, hb, hml, hown, hts⟩ (c_X0_push l dC dI cI (ad 1) (ad 2) 256 zk F p1 H.size zk13 h_13) (cwV 1 hts gX2_addLast_X0_push rfl rfl rfl kv_X0_push ⟨Nat.le_of_ble_eq_true rfl, Nat.le_of_ble_eq_true rfl⟩) hK hP hD hS hA (hP.sub (ws' := (wN cI (ad 1) (ad 2) 256 zk)) [1, 2] rfl) (hD.sub (ws' := (wN cI (ad 1) (ad 2) 256 zk)) [1, 2] (by decide) rfl) rfl rfl (by decide) rfl rfl (by decide) rfl rfl rfl rfl rfl hl.1 rfl (Nat.le_of_ble_eq_true rfl) dX2_addLast_13 ⟨Nat.zero_le _, Nat.zero_le _⟩ (fun H locs hP hD hS => ?_)
  refine lv_aload_n hx hb dX2_addLast_16 rfl (lv_at hl 1 rfl) ?_
  refine va_get (D := (dC, dI)) (ci := 2) (v := .ref (ad 3)) (C := RX2) (T := TX2) (N := 15) hx hb hts ziX2 hown hK hP 0 rfl rfl 1 (by decide) zw1 (fun _ h9 => h9) rfl dX2_addLast_17 ?_
  refine lv_iconst (v := 0) hx hb dX2_addLast_20 (by decide) ?_
  obtain ⟨zm21, h_21, hm⟩ := ob hm
  refine z_callWv (wc := (wN cI (ad 3) (ad 4) 256 zm)) (w1 := (wN cI (ad 3) (ad 4) 256 zm21)) (ws := (wL cI ad zk13 zm zb zs zr zu zt zf zg zbd zro zmc zmg zsp zjn)) (ws' := (wL cI ad zk13 zm21 zb zs zr zu zt zf zg zbd zro zmc zmg zsp zjn)) [3, 4] [0, 1, 2, 5, 6, 7, 8, 9, 10, 11, 12, 13, 14, 15, 16, 17] 18 (As := [.int 0]) (rest := []) (ci := 0) (q := (RX0, TX0, 2)) ⟨hx, hb, hml, hown, hts⟩ (c_X0_push l dC dI cI (ad 3) (ad 4) 256 zm F 0 H.size zm21 h_21) (cwV 1 hts gX2_addLast_X0_push rfl rfl rfl kv_X0_push ⟨Nat.le_of_ble_eq_true rfl, Nat.le_of_ble_eq_true rfl⟩) hK hP hD hS hA (hP.sub (ws' := (wN cI (ad 3) (ad 4) 256 zm)) [3, 4] rfl) (hD.sub (ws' := (wN cI (ad 3) (ad 4) 256 zm)) [3, 4] (by decide) rfl) rfl rfl (by decide) rfl rfl (by decide) rfl rfl rfl rfl rfl hl.1 rfl (Nat.le_of_ble_eq_true rfl) dX2_addLast_21 ⟨Nat.zero_le _, Nat.zero_le _⟩ (fun H locs hP hD hS => ?_)
  refine lv_aload_n hx hb dX2_addLast_24 rfl (lv_at hl 1 rfl) ?_
  refine va_get (D := (dC, dI)) (ci := 2) (v := .ref (ad 7)) (C := RX2) (T := TX2) (N := 15) hx hb hts ziX2 hown hK hP 0 rfl rfl 3 (by decide) zw2 (fun _ h9 => h9) rfl dX2_addLast_25 ?_
  obtain ⟨r28, h_28, hm⟩ := ob hm
  refine z_callRi (As := []) (rest := []) (ci := 0) (q := (RX0, TX0, 2)) ⟨hx, hb, hml, hown, hts⟩ (c_X0_length l dC dI cI (ad 7) (ad 8) 256 zs F r28 h_28) (cwV 0 hts gX2_addLast_X0_length rfl rfl rfl kv_X0_length ⟨Nat.le_of_ble_eq_true rfl, Nat.le_of_ble_eq_true rfl⟩) hK (hP.sub (ws' := (wN cI (ad 7) (ad 8) 256 zs)) [7, 8] rfl) rfl rfl rfl rfl hl.1 rfl (Nat.le_of_ble_eq_true rfl) dX2_addLast_28 ⟨Nat.zero_le _, Nat.zero_le _⟩ ?_
  refine lv_if_le (tgt := 53) hx hb dX2_addLast_31 (by decide) (fun c_31 => ?_) (fun c_31 => ?_)
  · have hm := it_t hm c_31
    refine lv_aload_n hx hb dX2_addLast_53 rfl (lv_at hl 1 rfl) ?_
    refine lv_iload_n hx hb dX2_addLast_54 rfl (lv_at hl 2 rfl) ?_
    refine lv_iload_n hx hb dX2_addLast_55 rfl (lv_at hl 0 rfl) ?_
    obtain ⟨⟨zs56, zr56, zu56, zt56⟩, h_56, hm⟩ := ob hm
    refine z_callWv (wc := (wL cI ad zk13 zm21 zb zs zr zu zt zf zg zbd zro zmc zmg zsp zjn)) (w1 := (wL cI ad zk13 zm21 zb zs56 zr56 zu56 zt56 zf zg zbd zro zmc zmg zsp zjn)) (ws := (wL cI ad zk13 zm21 zb zs zr zu zt zf zg zbd zro zmc zmg zsp zjn)) (ws' := (wL cI ad zk13 zm21 zb zs56 zr56 zu56 zt56 zf zg zbd zro zmc zmg zsp zjn)) [0, 1, 2, 3, 4, 5, 6, 7, 8, 9, 10, 11, 12, 13, 14, 15, 16, 17] [] 18 (As := [.int p1, .int r4]) (rest := []) (ci := 2) (q := (RX2, TX2, 15)) ⟨hx, hb, hml, hown, hts⟩ (c_X2_beginPiece l dC dI cI ad zk13 zm21 zb zs zr zu zt zf zg zbd zro zmc zmg zsp zjn F p1 r4 H.size zs56 zr56 zu56 zt56 h_56) (cwV 2 hts gX2_addLast_X2_beginPiece rfl rfl rfl kv_X2_beginPiece ⟨Nat.le_of_ble_eq_true rfl, Nat.le_of_ble_eq_true rfl⟩) hK hP hD hS hA hP hD rfl rfl (by decide) rfl rfl (by decide) rfl rfl rfl rfl rfl hl.1 rfl (Nat.le_of_ble_eq_true rfl) dX2_addLast_56 ⟨Nat.zero_le _, Nat.zero_le _⟩ (fun H locs hP hD hS => ?_)
    cases o2 hm
    exact W.vret hx hb hr (fun t ht hW => ⟨⟨(), rfl, trivial, by rw [ht]; exact hP, va_K.moved hW.alike hK, hD⟩, hS.F ht⟩) hS.2.2 dX2_addLast_59
  · have hm := it_f hm c_31
    refine lv_aload_n hx hb dX2_addLast_34 rfl (lv_at hl 1 rfl) ?_
    refine va_get (D := (dC, dI)) (ci := 2) (v := .ref (ad 13)) (C := RX2) (T := TX2) (N := 15) hx hb hts ziX2 hown hK hP 0 rfl rfl 6 (by decide) zw3 (fun _ h9 => h9) rfl dX2_addLast_35 ?_
    refine lv_iload_n hx hb dX2_addLast_38 rfl (lv_at hl 2 rfl) ?_
    refine lv_iload_n hx hb dX2_addLast_39 rfl (lv_at hl 0 rfl) ?_
    obtain ⟨⟨r40, zt40⟩, h_40, hm⟩ := ob hm
    refine z_callWi (wc := (wT (ad 13) zt)) (w1 := (wT (ad 13) zt40)) (ws := (wL cI ad zk13 zm21 zb zs zr zu zt zf zg zbd zro zmc zmg zsp zjn)) (ws' := (wL cI ad zk13 zm21 zb zs zr zu zt40 zf zg zbd zro zmc zmg zsp zjn)) [13] [0, 1, 2, 3, 4, 5, 6, 7, 8, 9, 10, 11, 12, 14, 15, 16, 17] 18 (As := [.int p1, .int r4]) (rest := []) (ci := 1) (q := (RX1, TX1, 7)) ⟨hx, hb, hml, hown, hts⟩ (c_X1_take l dC dI (ad 13) zt F p1 r4 H.size r40 zt40 h_40) (cwV 2 hts gX2_addLast_X1_take rfl rfl rfl kv_X1_take ⟨Nat.le_of_ble_eq_true rfl, Nat.le_of_ble_eq_true rfl⟩) (hK.sub (tys' := []) [] rfl) hP hD hS hA (hP.sub (ws' := (wT (ad 13) zt)) [13] rfl) (hD.sub (ws' := (wT (ad 13) zt)) [13] (by decide) rfl) rfl rfl (by decide) rfl rfl (by decide) rfl rfl rfl rfl rfl hl.1 rfl (Nat.le_of_ble_eq_true rfl) dX2_addLast_40 ⟨Nat.zero_le _, Nat.zero_le _⟩ (fun H locs hP hD hS => ?_)
    refine lv_if_eq (tgt := 53) hx hb dX2_addLast_43 (by decide) (fun c_43 => ?_) (fun c_43 => ?_)
    · have hm := it_t hm c_43
      refine lv_aload_n hx hb dX2_addLast_53 rfl (lv_at hl 1 rfl) ?_
      refine lv_iload_n hx hb dX2_addLast_54 rfl (lv_at hl 2 rfl) ?_
      refine lv_iload_n hx hb dX2_addLast_55 rfl (lv_at hl 0 rfl) ?_
      obtain ⟨⟨zs56_1, zr56_1, zu56_1, zt56_1⟩, h_56, hm⟩ := ob hm
      refine z_callWv (wc := (wL cI ad zk13 zm21 zb zs zr zu zt40 zf zg zbd zro zmc zmg zsp zjn)) (w1 := (wL cI ad zk13 zm21 zb zs56_1 zr56_1 zu56_1 zt56_1 zf zg zbd zro zmc zmg zsp zjn)) (ws := (wL cI ad zk13 zm21 zb zs zr zu zt40 zf zg zbd zro zmc zmg zsp zjn)) (ws' := (wL cI ad zk13 zm21 zb zs56_1 zr56_1 zu56_1 zt56_1 zf zg zbd zro zmc zmg zsp zjn)) [0, 1, 2, 3, 4, 5, 6, 7, 8, 9, 10, 11, 12, 13, 14, 15, 16, 17] [] 18 (As := [.int p1, .int r4]) (rest := []) (ci := 2) (q := (RX2, TX2, 15)) ⟨hx, hb, hml, hown, hts⟩ (c_X2_beginPiece l dC dI cI ad zk13 zm21 zb zs zr zu zt40 zf zg zbd zro zmc zmg zsp zjn F p1 r4 H.size zs56_1 zr56_1 zu56_1 zt56_1 h_56) (cwV 2 hts gX2_addLast_X2_beginPiece rfl rfl rfl kv_X2_beginPiece ⟨Nat.le_of_ble_eq_true rfl, Nat.le_of_ble_eq_true rfl⟩) hK hP hD hS hA hP hD rfl rfl (by decide) rfl rfl (by decide) rfl rfl rfl rfl rfl hl.1 rfl (Nat.le_of_ble_eq_true rfl) dX2_addLast_56 ⟨Nat.zero_le _, Nat.zero_le _⟩ (fun H locs hP hD hS => ?_)
      cases o2 hm
      exact W.vret hx hb hr (fun t ht hW => ⟨⟨(), rfl, trivial, by rw [ht]; exact hP, va_K.moved hW.alike hK, hD⟩, hS.F ht⟩) hS.2.2 dX2_addLast_59
    · have hm := it_f hm c_43
      refine lv_aload_n hx hb dX2_addLast_46 rfl (lv_at hl 1 rfl) ?_
      obtain ⟨⟨zr47, zu47⟩, h_47, hm⟩ := ob hm
      refine z_callWv (wc := (wL cI ad zk13 zm21 zb zs zr zu zt40 zf zg zbd zro zmc zmg zsp zjn)) (w1 := (wL cI ad zk13 zm21 zb zs zr47 zu47 zt40 zf zg zbd zro zmc zmg zsp zjn)) (ws := (wL cI ad zk13 zm21 zb zs zr zu zt40 zf zg zbd zro zmc zmg zsp zjn)) (ws' := (wL cI ad zk13 zm21 zb zs zr47 zu47 zt40 zf zg zbd zro zmc zmg zsp zjn)) [0, 1, 2, 3, 4, 5, 6, 7, 8, 9, 10, 11, 12, 13, 14, 15, 16, 17] [] 18 (As := []) (rest := []) (ci := 2) (q := (RX2, TX2, 15)) ⟨hx, hb, hml, hown, hts⟩ (c_X2_noteTailSlope l dC dI cI ad zk13 zm21 zb zs zr zu zt40 zf zg zbd zro zmc zmg zsp zjn F H.size zr47 zu47 h_47) (cwV 0 hts gX2_addLast_X2_noteTailSlope rfl rfl rfl kv_X2_noteTailSlope ⟨Nat.le_of_ble_eq_true rfl, Nat.le_of_ble_eq_true rfl⟩) hK hP hD hS hA hP hD rfl rfl (by decide) rfl rfl (by decide) rfl rfl rfl rfl rfl hl.1 rfl (Nat.le_of_ble_eq_true rfl) dX2_addLast_47 ⟨Nat.zero_le _, Nat.zero_le _⟩ (fun H locs hP hD hS => ?_)
      refine lv_goto (tgt := 59) hx hb dX2_addLast_50 (by decide) ?_
      cases o2 hm
      exact W.vret hx hb hr (fun t ht hW => ⟨⟨(), rfl, trivial, by rw [ht]; exact hP, va_K.moved hW.alike hK, hD⟩, hS.F ht⟩) hS.2.2 dX2_addLast_59
set_option maxHeartbeats 4000000 in
set_option maxRecDepth 100000 in
theorem c_X2_append (l : Launch) (dC : Nat → ClassId) (dI : Nat → Nat → Nat) (cI : ClassId) (ad : Nat → Nat) (zk : zN) (zm : zN) (zb : zN) (zs : zN) (zr : zN) (zu : zN) (zt : zT) (zf : zN) (zg : zN) (zbd : Int32) (zro : Int32) (zmc : Int32) (zmg : Int32) (zsp : Int32) (zjn : Int32) (F : Nat) (p1 : Int32) (sz : Nat) (sa : Nat → Nat) (hl9 : l.stackTraces = false) (z : Nat ⊕ (Int32 × zN × zN × zN × zN × zN × zT)) (hm : X2_append F zk zm zb zs zr zu zt zbd p1 = some z) : vx_Met l yX2_append wsX2_append ({ frames := 7, cells := 2, slots := 12, locals := 113 }) (va_Pc [.ref (ad 0), .int p1] (zX (dC, dI) (wL cI ad zk zm zb zs zr zu zt zf zg zbd zro zmc zmg zsp zjn) [(cI, .int)] sz sa)) (zXi (dC, dI) (fun (u_ : zN × zN × zN × zN × zN × zT) => (wL cI ad u_.1 u_.2.1 zb u_.2.2.1 u_.2.2.2.1 u_.2.2.2.2.1 u_.2.2.2.2.2 zf zg zbd zro zmc zmg zsp zjn)) [(cI, .int)] (va_A (wL cI ad zk zm zb zs zr zu zt zf zg zbd zro zmc zmg zsp zjn) sz) (fun r_ u_ => z = Sum.inr (r_, u_))) (zXC (dC, dI) (wL cI ad zk zm zb zs zr zu zt zf zg zbd zro zmc zmg zsp zjn) [(cI, .int)] (va_A (wL cI ad zk zm zb zs zr zu zt zf zg zbd zro zmc zmg zsp zjn) sz) z) 2 12 (va_A (wL cI ad zk zm zb zs zr zu zt zf zg zbd zro zmc zmg zsp zjn) sz) := by
  refine vx_ofW (cc := cX2_append) (maxL := 2) (ret := (some .int)) (by decide) rfl ?_
  intro p e s m args below meth c s₁ B hml hnx hv
  obtain ⟨rfl, ⟨hsz, hP, hK, hD0⟩, hV⟩ := hv
  have hx := B.exec
  have hb := B.bytes
  have hr := B.returns
  have hts := atoms_spec (ws := wsX2_append) B.pre
  have hown : s.vm.findClass RX2 = some m.cls := findClass_of_methodNamed B.named
  have hlocks := B.notSynchronized
  subst hsz
  have hD := hD0.self (sz := s.heap.size)
  generalize hAe : va_A (wL cI ad zk zm zb zs zr zu zt zf zg zbd zro zmc zmg zsp zjn) s.heap.size = A at hD hV ⊢
  have hA : ∀ q : Nat, s.heap.size ≤ q → A q := fun q h => by rw [← hAe]; exact Or.inr h
  have hS : va_S A s.heap s.heap [] := va_S.rf
  generalize eL : ([] : List Loc) = locs at hS ⊢
  obtain ⟨H, eH⟩ : ∃ z : Heap, z = s.heap := ⟨_, rfl⟩
  have hP : va_P (dC, dI) vwCl (wL cI ad zk zm zb zs zr zu zt zf zg zbd zro zmc zmg zsp zjn) H := by rw [eH]; exact hP
  have hS : va_S A s.heap H locs := by rw [eH]; exact hS
  refine z_heap eH ?_
  have hl := lv_entry ([.ref (ad 0), .int p1]) (n := 2) (Nat.le_of_ble_eq_true rfl)
  rw [lg_entry_eq]
  generalize (lg_sl ([.ref (ad 0), .int p1]) ++ List.replicate (2 - (lg_sl ([.ref (ad 0), .int p1])).length) Slot.unset).toArray = ls at hl ⊢
  have hl : lv_has ls 2 [(0, .ref (ad 0)), (1, .int p1)] := hl
  have zw0 := hts (.fieldLink RX2 24 "LearnedLedge" "starts" "LLearnedLedge$Numbers;") (by decide +kernel)
  have ziX2 : ∀ w ∈ u_ws RX2 TX2 15, w ∈ wsX2_append := by decide +kernel
  refine lv_iload_n hx hb dX2_append_0 rfl (lv_at hl 1 rfl) ?_
  refine lv_i2l hx hb dX2_append_1 rfl ?_
  obtain ⟨z_2, h_2, hm⟩ := ob hm
  refine z_xSv (U := Unit) (w1 := fun u_ => []) (ws' := fun u_ => (wL cI ad zk zm zb zs zr zu zt zf zg zbd zro zmc zmg zsp zjn)) [] [0, 1, 2, 3, 4, 5, 6, 7, 8, 9, 10, 11, 12, 13, 14, 15, 16, 17] 18 (As := [.long (Int32.toInt64 p1)]) (rest := []) (wc := []) (ws := (wL cI ad zk zm zb zs zr zu zt zf zg zbd zro zmc zmg zsp zjn)) ⟨hx, hb, hml, hown, hts⟩ (c_X2_needKey l dC dI F (Int32.toInt64 p1) H.size sa hl9 z_2 h_2) (va_cwS 1 hts gX2_append_X2_needKey rfl rfl rfl ks_X2_needKey ⟨(Nat.le_of_ble_eq_true rfl), (Nat.le_of_ble_eq_true rfl)⟩) hV (hK.sub (tys' := []) [] rfl) hP hD hS hA z_P0 z_D0 rfl (fun _ => rfl) (by decide) (fun _ => rfl) rfl (fun _ => rfl) (by decide) (fun _ => rfl) rfl hl.1 rfl (Nat.le_of_ble_eq_true rfl) dX2_append_2 ⟨(Nat.le_of_ble_eq_true rfl), (Nat.le_of_ble_eq_true rfl)⟩ (fun k ce q9 H locs ez hP hS hce hcv hcl => ?_) (fun u_2 H locs hw hP hD hS => ?_)
  · rw [ez] at hm
    exact vx_out (fun x hx => (hnx x hx).elim) hlocks hce hcv hcl (z_xc (o2 hm) hP hK hD hS) hS.2.2 (Nat.le_of_ble_eq_true rfl) (Nat.le_of_ble_eq_true rfl)
  · rw [hw] at hm
    have hP : va_P (dC, dI) vwCl (wL cI ad zk zm zb zs zr zu zt zf zg zbd zro zmc zmg zsp zjn) H := hP
    have hD : va_D A (wL cI ad zk zm zb zs zr zu zt zf zg zbd zro zmc zmg zsp zjn) := hD
    refine lv_aload_n hx hb dX2_append_5 rfl (lv_at hl 0 rfl) ?_
    refine lv_iload_n hx hb dX2_append_6 rfl (lv_at hl 1 rfl) ?_
    refine lv_iconst (v := 1) hx hb dX2_append_7 (by decide) ?_
    obtain ⟨z_8, h_8, hm⟩ := ob hm
    refine z_xVv (U := Unit) (w1 := fun u_ => (wL cI ad zk zm zb zs zr zu zt zf zg zbd zro zmc zmg zsp zjn)) (ws' := fun u_ => (wL cI ad zk zm zb zs zr zu zt zf zg zbd zro zmc zmg zsp zjn)) [0, 1, 2, 3, 4, 5, 6, 7, 8, 9, 10, 11, 12, 13, 14, 15, 16, 17] [] 18 (As := [.int p1, .int 1]) (rest := []) (wc := (wL cI ad zk zm zb zs zr zu zt zf zg zbd zro zmc zmg zsp zjn)) (ws := (wL cI ad zk zm zb zs zr zu zt zf zg zbd zro zmc zmg zsp zjn)) (ci := 2) (q := (RX2, TX2, 15)) ⟨hx, hb, hml, hown, hts⟩ (c_X2_needToFollow l dC dI cI ad zk zm zb zs zr zu zt zf zg zbd zro zmc zmg zsp zjn F p1 1 H.size sa hl9 z_8 h_8) (cwV 2 hts gX2_append_X2_needToFollow rfl rfl rfl kv_X2_needToFollow ⟨(Nat.le_of_ble_eq_true rfl), (Nat.le_of_ble_eq_true rfl)⟩) hV hK hP hD hS hA hP hD rfl (fun _ => rfl) (by decide) (fun _ => rfl) rfl (fun _ => rfl) (by decide) (fun _ => rfl) rfl rfl rfl rfl hl.1 rfl (Nat.le_of_ble_eq_true rfl) dX2_append_8 ⟨(Nat.le_of_ble_eq_true rfl), (Nat.le_of_ble_eq_true rfl)⟩ (fun k ce q9 H locs ez hP hS hce hcv hcl => ?_) (fun u_8 H locs hw hP hD hS => ?_)
    · rw [ez] at hm
      exact vx_out (fun x hx => (hnx x hx).elim) hlocks hce hcv hcl (z_xc (o2 hm) hP hK hD hS) hS.2.2 (Nat.le_of_ble_eq_true rfl) (Nat.le_of_ble_eq_true rfl)
    · rw [hw] at hm
      have hP : va_P (dC, dI) vwCl (wL cI ad zk zm zb zs zr zu zt zf zg zbd zro zmc zmg zsp zjn) H := hP
      have hD : va_D A (wL cI ad zk zm zb zs zr zu zt zf zg zbd zro zmc zmg zsp zjn) := hD
      refine lv_aload_n hx hb dX2_append_11 rfl (lv_at hl 0 rfl) ?_
      refine lv_iload_n hx hb dX2_append_12 rfl (lv_at hl 1 rfl) ?_
      obtain ⟨⟨zk13, zm13, zs13, zr13, zu13, zt13⟩, h_13, hm⟩ := ob hm
      refine z_callWv (wc := (wL cI ad zk zm zb zs zr zu zt zf zg zbd zro zmc zmg zsp zjn)) (w1 := (wL cI ad zk13 zm13 zb zs13 zr13 zu13 zt13 zf zg zbd zro zmc zmg zsp zjn)) (ws := (wL cI ad zk zm zb zs zr zu zt zf zg zbd zro zmc zmg zsp zjn)) (ws' := (wL cI ad zk13 zm13 zb zs13 zr13 zu13 zt13 zf zg zbd zro zmc zmg zsp zjn)) [0, 1, 2, 3, 4, 5, 6, 7, 8, 9, 10, 11, 12, 13, 14, 15, 16, 17] [] 18 (As := [.int p1]) (rest := []) (ci := 2) (q := (RX2, TX2, 15)) ⟨hx, hb, hml, hown, hts⟩ (c_X2_addLast l dC dI cI ad zk zm zb zs zr zu zt zf zg zbd zro zmc zmg zsp zjn F p1 H.size zk13 zm13 zs13 zr13 zu13 zt13 h_13) (cwV 1 hts gX2_append_X2_addLast rfl rfl rfl kv_X2_addLast ⟨Nat.le_of_ble_eq_true rfl, Nat.le_of_ble_eq_true rfl⟩) hK hP hD hS hA hP hD rfl rfl (by decide) rfl rfl (by decide) rfl rfl rfl rfl rfl hl.1 rfl (Nat.le_of_ble_eq_true rfl) dX2_append_13 ⟨Nat.le_of_ble_eq_true rfl, Nat.le_of_ble_eq_true rfl⟩ (fun H locs hP hD hS => ?_)
      refine lv_aload_n hx hb dX2_append_16 rfl (lv_at hl 0 rfl) ?_
      refine va_get (D := (dC, dI)) (ci := 2) (v := .ref (ad 7)) (C := RX2) (T := TX2) (N := 15) hx hb hts ziX2 hown hK hP 0 rfl rfl 3 (by decide) zw0 (fun _ h9 => h9) rfl dX2_append_17 ?_
      obtain ⟨r20, h_20, hm⟩ := ob hm
      refine z_callRi (As := []) (rest := []) (ci := 0) (q := (RX0, TX0, 2)) ⟨hx, hb, hml, hown, hts⟩ (c_X0_length l dC dI cI (ad 7) (ad 8) 256 zs13 F r20 h_20) (cwV 0 hts gX2_append_X0_length rfl rfl rfl kv_X0_length ⟨Nat.le_of_ble_eq_true rfl, Nat.le_of_ble_eq_true rfl⟩) hK (hP.sub (ws' := (wN cI (ad 7) (ad 8) 256 zs13)) [7, 8] rfl) rfl rfl rfl rfl hl.1 rfl (Nat.le_of_ble_eq_true rfl) dX2_append_20 ⟨Nat.le_of_ble_eq_true rfl, Nat.le_of_ble_eq_true rfl⟩ ?_
      refine vx_ret (W.widen (k := 2) (n := 12) (Nat.le_of_ble_eq_true rfl) (Nat.le_of_ble_eq_true rfl) ?_)
      exact W.iret hx hb hr (fun t ht hW => ⟨⟨_, (zk13, zm13, zs13, zr13, zu13, zt13), rfl, o2 hm, by rw [ht]; exact hP, va_K.moved hW.alike hK, hD⟩, hS.F ht⟩) hS.2.2 dX2_append_23
set_option maxHeartbeats 4000000 in
set_option maxRecDepth 100000 in
theorem c_X2_appendMany (l : Launch) (dC : Nat → ClassId) (dI : Nat → Nat → Nat) (cI : ClassId) (ad : Nat → Nat) (zk : zN) (zm : zN) (zb : zN) (zs : zN) (zr : zN) (zu : zN) (zt : zT) (zf : zN) (zg : zN) (zbd : Int32) (zro : Int32) (zmc : Int32) (zmg : Int32) (zsp : Int32) (zjn : Int32) (F : Nat) (p1 : Int32) (p2 : Int32) (p3 : Int32) (sz : Nat) (sa : Nat → Nat) (hl9 : l.stackTraces = false) (z : Nat ⊕ (Int32 × zN × zN × zN × zN × zN × zT)) (hm : X2_appendMany F zk zm zb zs zr zu zt zbd p1 p2 p3 = some z) : vx_Met l yX2_appendMany wsX2_appendMany ({ frames := 7, cells := 3, slots := 18, locals := 113 }) (va_Pc [.ref (ad 0), .int p1, .int p2, .int p3] (zX (dC, dI) (wL cI ad zk zm zb zs zr zu zt zf zg zbd zro zmc zmg zsp zjn) [(cI, .int)] sz sa)) (zXi (dC, dI) (fun (u_ : zN × zN × zN × zN × zN × zT) => (wL cI ad u_.1 u_.2.1 zb u_.2.2.1 u_.2.2.2.1 u_.2.2.2.2.1 u_.2.2.2.2.2 zf zg zbd zro zmc zmg zsp zjn)) [(cI, .int)] (va_A (wL cI ad zk zm zb zs zr zu zt zf zg zbd zro zmc zmg zsp zjn) sz) (fun r_ u_ => z = Sum.inr (r_, u_))) (zXC (dC, dI) (wL cI ad zk zm zb zs zr zu zt zf zg zbd zro zmc zmg zsp zjn) [(cI, .int)] (va_A (wL cI ad zk zm zb zs zr zu zt zf zg zbd zro zmc zmg zsp zjn) sz) z) 3 18 (va_A (wL cI ad zk zm zb zs zr zu zt zf zg zbd zro zmc zmg zsp zjn) sz) := by
  refine vx_ofW (cc := cX2_appendMany) (maxL := 7) (ret := (some .int)) (by decide) rfl ?_
  intro p e s m args below meth c s₁ B hml hnx hv
  obtain ⟨rfl, ⟨hsz, hP, hK, hD0⟩, hV⟩ := hv
  have hx := B.exec
  have hb := B.bytes
  have hr := B.returns
  have hts := atoms_spec (ws := wsX2_appendMany) B.pre
  have hown : s.vm.findClass RX2 = some m.cls := findClass_of_methodNamed B.named
  have hlocks := B.notSynchronized
  subst hsz
  have hD := hD0.self (sz := s.heap.size)
  generalize hAe : va_A (wL cI ad zk zm zb zs zr zu zt zf zg zbd zro zmc zmg zsp zjn) s.heap.size = A at hD hV ⊢
  have hA : ∀ q : Nat, s.heap.size ≤ q → A q := fun q h => by rw [← hAe]; exact Or.inr h
  have hS : va_S A s.heap s.heap [] := va_S.rf
  generalize eL : ([] : List Loc) = locs at hS ⊢
  obtain ⟨H, eH⟩ : ∃ z : Heap, z = s.heap := ⟨_, rfl⟩
  have hP : va_P (dC, dI) vwCl (wL cI ad zk zm zb zs zr zu zt zf zg zbd zro zmc zmg zsp zjn) H := by rw [eH]; exact hP
  have hS : va_S A s.heap H locs := by rw [eH]; exact hS
  refine z_heap eH ?_
  have hl := lv_entry ([.ref (ad 0), .int p1, .int p2, .int p3]) (n := 7) (Nat.le_of_ble_eq_true rfl)
  rw [lg_entry_eq]
  generalize (lg_sl ([.ref (ad 0), .int p1, .int p2, .int p3]) ++ List.replicate (7 - (lg_sl ([.ref (ad 0), .int p1, .int p2, .int p3])).length) Slot.unset).toArray = ls at hl ⊢
  have hl : lv_has ls 7 [(0, .ref (ad 0)), (1, .int p1), (2, .int p2), (3, .int p3)] := hl
  have zw0 := hts (.fieldLink RX2 24 "LearnedLedge" "starts" "LLearnedLedge$Numbers;") (by decide +kernel)
  have zw1 := hts (.classLink RX2 80 "java/lang/IllegalArgumentException") (by decide +kernel)
  have zw2 := hts (.initialized "java/lang/IllegalArgumentException") (by decide +kernel)
  have ziX2 : ∀ w ∈ u_ws RX2 TX2 15, w ∈ wsX2_appendMany := by decide +kernel
  refine lv_iload_n hx hb dX2_appendMany_0 rfl (lv_at hl 2 rfl) ?_
  refine lv_iconst (v := 1) hx hb dX2_appendMany_1 (by decide) ?_
  refine lv_icmp_lt (tgt := 23) hx hb dX2_appendMany_2 (by decide) (fun c_2 => ?_) (fun c_2 => ?_)
  · have hm := it_t hm c_2
    exact vx_throwS hx hb hl9 (own := RX2) (cls := "java/lang/IllegalArgumentException") (names := ["java/lang/RuntimeException", "java/lang/Exception"]) (ik := 80) (is := 82) (ic := 84) hown (by decide +kernel) (by decide +kernel) zw1 zw2 (hV.1 (82, "step or many out of range") (by decide +kernel)) (vx_hat (fun w h => hts w (List.mem_cons_of_mem _ (List.mem_append_left _ (List.mem_append_right _ h)))) (by decide +kernel) (zV_ng hV)) (by decide +kernel) hV.2.2.1 hV.2.2.2 hS (hl.1.trans hml.symm) dX2_appendMany_23 dX2_appendMany_26 dX2_appendMany_27 dX2_appendMany_29 dX2_appendMany_32 (fun x hx => (hnx x hx).elim) (Nat.le_of_ble_eq_true rfl) (Nat.le_of_ble_eq_true rfl) (Nat.le_of_ble_eq_true rfl) (Nat.le_of_ble_eq_true rfl) hlocks (z_xt (k := 1) rfl (o2 hm) hP hK hD hS) hS.2.2 (Nat.le_of_ble_eq_true rfl) (Nat.le_of_ble_eq_true rfl)
  · have hm := it_f hm c_2
    refine lv_iload_n hx hb dX2_appendMany_5 rfl (lv_at hl 2 rfl) ?_
    refine lv_sipush (v := 10000) hx hb dX2_appendMany_6 (by decide) ?_
    refine lv_icmp_gt (tgt := 23) hx hb dX2_appendMany_9 (by decide) (fun c_9 => ?_) (fun c_9 => ?_)
    · have hm := it_t hm c_9
      exact vx_throwS hx hb hl9 (own := RX2) (cls := "java/lang/IllegalArgumentException") (names := ["java/lang/RuntimeException", "java/lang/Exception"]) (ik := 80) (is := 82) (ic := 84) hown (by decide +kernel) (by decide +kernel) zw1 zw2 (hV.1 (82, "step or many out of range") (by decide +kernel)) (vx_hat (fun w h => hts w (List.mem_cons_of_mem _ (List.mem_append_left _ (List.mem_append_right _ h)))) (by decide +kernel) (zV_ng hV)) (by decide +kernel) hV.2.2.1 hV.2.2.2 hS (hl.1.trans hml.symm) dX2_appendMany_23 dX2_appendMany_26 dX2_appendMany_27 dX2_appendMany_29 dX2_appendMany_32 (fun x hx => (hnx x hx).elim) (Nat.le_of_ble_eq_true rfl) (Nat.le_of_ble_eq_true rfl) (Nat.le_of_ble_eq_true rfl) (Nat.le_of_ble_eq_true rfl) hlocks (z_xt (k := 1) rfl (o2 hm) hP hK hD hS) hS.2.2 (Nat.le_of_ble_eq_true rfl) (Nat.le_of_ble_eq_true rfl)
    · have hm := it_f hm c_9
      refine lv_iload_n hx hb dX2_appendMany_12 rfl (lv_at hl 3 rfl) ?_
      refine lv_iconst (v := 1) hx hb dX2_appendMany_13 (by decide) ?_
      refine lv_icmp_lt (tgt := 23) hx hb dX2_appendMany_14 (by decide) (fun c_14 => ?_) (fun c_14 => ?_)
      · have hm := it_t hm c_14
        exact vx_throwS hx hb hl9 (own := RX2) (cls := "java/lang/IllegalArgumentException") (names := ["java/lang/RuntimeException", "java/lang/Exception"]) (ik := 80) (is := 82) (ic := 84) hown (by decide +kernel) (by decide +kernel) zw1 zw2 (hV.1 (82, "step or many out of range") (by decide +kernel)) (vx_hat (fun w h => hts w (List.mem_cons_of_mem _ (List.mem_append_left _ (List.mem_append_right _ h)))) (by decide +kernel) (zV_ng hV)) (by decide +kernel) hV.2.2.1 hV.2.2.2 hS (hl.1.trans hml.symm) dX2_appendMany_23 dX2_appendMany_26 dX2_appendMany_27 dX2_appendMany_29 dX2_appendMany_32 (fun x hx => (hnx x hx).elim) (Nat.le_of_ble_eq_true rfl) (Nat.le_of_ble_eq_true rfl) (Nat.le_of_ble_eq_true rfl) (Nat.le_of_ble_eq_true rfl) hlocks (z_xt (k := 1) rfl (o2 hm) hP hK hD hS) hS.2.2 (Nat.le_of_ble_eq_true rfl) (Nat.le_of_ble_eq_true rfl)
      · have hm := it_f hm c_14
        refine lv_iload_n hx hb dX2_appendMany_17 rfl (lv_at hl 3 rfl) ?_
        refine lv_bipush (v := 100) hx hb dX2_appendMany_18 (by decide) ?_
        refine lv_icmp_le (tgt := 33) hx hb dX2_appendMany_20 (by decide) (fun c_20 => ?_) (fun c_20 => ?_)
        · have hm := it_t hm c_20
          refine lv_iload_n hx hb dX2_appendMany_33 rfl (lv_at hl 1 rfl) ?_
          refine lv_i2l hx hb dX2_appendMany_34 rfl ?_
          refine lv_iload_n hx hb dX2_appendMany_35 rfl (lv_at hl 2 rfl) ?_
          refine lv_i2l hx hb dX2_appendMany_36 rfl ?_
          refine lv_iload_n hx hb dX2_appendMany_37 rfl (lv_at hl 3 rfl) ?_
          refine lv_iconst (v := 1) hx hb dX2_appendMany_38 (by decide) ?_
          refine lv_isub hx hb dX2_appendMany_39 ?_
          refine lv_i2l hx hb dX2_appendMany_40 rfl ?_
          refine lv_lmul hx hb dX2_appendMany_41 ?_
          refine lv_ladd hx hb dX2_appendMany_42 ?_
          refine lv_topl (fun x4 e_x4 => ?_)
          have hm := bnd_e hm e_x4
          refine lv_lstore (lv' := [(4, .long x4), (0, .ref (ad 0)), (1, .int p1), (2, .int p2), (3, .int p3)]) hx hb dX2_appendMany_43 hl (by decide) rfl (fun ls hl => ?_)
          refine lv_iload_n hx hb dX2_appendMany_45 rfl (lv_at hl 2 rfl) ?_
          refine lv_i2l hx hb dX2_appendMany_46 rfl ?_
          obtain ⟨z_47, h_47, hm⟩ := ob hm
          refine z_xSv (U := Unit) (w1 := fun u_ => []) (ws' := fun u_ => (wL cI ad zk zm zb zs zr zu zt zf zg zbd zro zmc zmg zsp zjn)) [] [0, 1, 2, 3, 4, 5, 6, 7, 8, 9, 10, 11, 12, 13, 14, 15, 16, 17] 18 (As := [.long (Int32.toInt64 p1)]) (rest := []) (wc := []) (ws := (wL cI ad zk zm zb zs zr zu zt zf zg zbd zro zmc zmg zsp zjn)) ⟨hx, hb, hml, hown, hts⟩ (c_X2_needKey l dC dI F (Int32.toInt64 p1) H.size sa hl9 z_47 h_47) (va_cwS 1 hts gX2_appendMany_X2_needKey rfl rfl rfl ks_X2_needKey ⟨(Nat.le_of_ble_eq_true rfl), (Nat.le_of_ble_eq_true rfl)⟩) hV (hK.sub (tys' := []) [] rfl) hP hD hS hA z_P0 z_D0 rfl (fun _ => rfl) (by decide) (fun _ => rfl) rfl (fun _ => rfl) (by decide) (fun _ => rfl) rfl hl.1 rfl (Nat.le_of_ble_eq_true rfl) dX2_appendMany_47 ⟨(Nat.le_of_ble_eq_true rfl), (Nat.le_of_ble_eq_true rfl)⟩ (fun k ce q9 H locs ez hP hS hce hcv hcl => ?_) (fun u_47 H locs hw hP hD hS => ?_)
          · rw [ez] at hm
            exact vx_out (fun x hx => (hnx x hx).elim) hlocks hce hcv hcl (z_xc (o2 hm) hP hK hD hS) hS.2.2 (Nat.le_of_ble_eq_true rfl) (Nat.le_of_ble_eq_true rfl)
          · rw [hw] at hm
            have hP : va_P (dC, dI) vwCl (wL cI ad zk zm zb zs zr zu zt zf zg zbd zro zmc zmg zsp zjn) H := hP
            have hD : va_D A (wL cI ad zk zm zb zs zr zu zt zf zg zbd zro zmc zmg zsp zjn) := hD
            refine lv_lload hx hb dX2_appendMany_50 (lv_at hl 0 rfl) ?_
            obtain ⟨z_52, h_52, hm⟩ := ob hm
            refine z_xSv (U := Unit) (w1 := fun u_ => []) (ws' := fun u_ => (wL cI ad zk zm zb zs zr zu zt zf zg zbd zro zmc zmg zsp zjn)) [] [0, 1, 2, 3, 4, 5, 6, 7, 8, 9, 10, 11, 12, 13, 14, 15, 16, 17] 18 (As := [.long x4]) (rest := []) (wc := []) (ws := (wL cI ad zk zm zb zs zr zu zt zf zg zbd zro zmc zmg zsp zjn)) ⟨hx, hb, hml, hown, hts⟩ (c_X2_needKey l dC dI F x4 H.size sa hl9 z_52 h_52) (va_cwS 1 hts gX2_appendMany_X2_needKey rfl rfl rfl ks_X2_needKey ⟨(Nat.le_of_ble_eq_true rfl), (Nat.le_of_ble_eq_true rfl)⟩) hV (hK.sub (tys' := []) [] rfl) hP hD hS hA z_P0 z_D0 rfl (fun _ => rfl) (by decide) (fun _ => rfl) rfl (fun _ => rfl) (by decide) (fun _ => rfl) rfl hl.1 rfl (Nat.le_of_ble_eq_true rfl) dX2_appendMany_52 ⟨(Nat.le_of_ble_eq_true rfl), (Nat.le_of_ble_eq_true rfl)⟩ (fun k ce q9 H locs ez hP hS hce hcv hcl => ?_) (fun u_52 H locs hw hP hD hS => ?_)
            · rw [ez] at hm
              exact vx_out (fun x hx => (hnx x hx).elim) hlocks hce hcv hcl (z_xc (o2 hm) hP hK hD hS) hS.2.2 (Nat.le_of_ble_eq_true rfl) (Nat.le_of_ble_eq_true rfl)
            · rw [hw] at hm
              have hP : va_P (dC, dI) vwCl (wL cI ad zk zm zb zs zr zu zt zf zg zbd zro zmc zmg zsp zjn) H := hP
              have hD : va_D A (wL cI ad zk zm zb zs zr zu zt zf zg zbd zro zmc zmg zsp zjn) := hD
              refine lv_aload_n hx hb dX2_appendMany_55 rfl (lv_at hl 1 rfl) ?_
              refine lv_iload_n hx hb dX2_appendMany_56 rfl (lv_at hl 2 rfl) ?_
              refine lv_iload_n hx hb dX2_appendMany_57 rfl (lv_at hl 4 rfl) ?_
              obtain ⟨z_58, h_58, hm⟩ := ob hm
              refine z_xVv (U := Unit) (w1 := fun u_ => (wL cI ad zk zm zb zs zr zu zt zf zg zbd zro zmc zmg zsp zjn)) (ws' := fun u_ => (wL cI ad zk zm zb zs zr zu zt zf zg zbd zro zmc zmg zsp zjn)) [0, 1, 2, 3, 4, 5, 6, 7, 8, 9, 10, 11, 12, 13, 14, 15, 16, 17] [] 18 (As := [.int p1, .int p3]) (rest := []) (wc := (wL cI ad zk zm zb zs zr zu zt zf zg zbd zro zmc zmg zsp zjn)) (ws := (wL cI ad zk zm zb zs zr zu zt zf zg zbd zro zmc zmg zsp zjn)) (ci := 2) (q := (RX2, TX2, 15)) ⟨hx, hb, hml, hown, hts⟩ (c_X2_needToFollow l dC dI cI ad zk zm zb zs zr zu zt zf zg zbd zro zmc zmg zsp zjn F p1 p3 H.size sa hl9 z_58 h_58) (cwV 2 hts gX2_appendMany_X2_needToFollow rfl rfl rfl kv_X2_needToFollow ⟨(Nat.le_of_ble_eq_true rfl), (Nat.le_of_ble_eq_true rfl)⟩) hV hK hP hD hS hA hP hD rfl (fun _ => rfl) (by decide) (fun _ => rfl) rfl (fun _ => rfl) (by decide) (fun _ => rfl) rfl rfl rfl rfl hl.1 rfl (Nat.le_of_ble_eq_true rfl) dX2_appendMany_58 ⟨(Nat.le_of_ble_eq_true rfl), (Nat.le_of_ble_eq_true rfl)⟩ (fun k ce q9 H locs ez hP hS hce hcv hcl => ?_) (fun u_58 H locs hw hP hD hS => ?_)
              · rw [ez] at hm
                exact vx_out (fun x hx => (hnx x hx).elim) hlocks hce hcv hcl (z_xc (o2 hm) hP hK hD hS) hS.2.2 (Nat.le_of_ble_eq_true rfl) (Nat.le_of_ble_eq_true rfl)
              · rw [hw] at hm
                have hP : va_P (dC, dI) vwCl (wL cI ad zk zm zb zs zr zu zt zf zg zbd zro zmc zmg zsp zjn) H := hP
                have hD : va_D A (wL cI ad zk zm zb zs zr zu zt zf zg zbd zro zmc zmg zsp zjn) := hD
                refine lv_iconst (v := 0) hx hb dX2_appendMany_61 (by decide) ?_
                refine lv_istore (lv' := [(6, .int 0), (4, .long x4), (0, .ref (ad 0)), (1, .int p1), (2, .int p2), (3, .int p3)]) hx hb dX2_appendMany_62 hl (by decide) rfl (fun ls hl => ?_)
                obtain ⟨z_64, hq_64, hm⟩ := ob hm
                have K_64 : ∀ (zkx64 : zN), ∀ (zmx64 : zN), ∀ (zsx64 : zN), ∀ (zrx64 : zN), ∀ (zux64 : zN), ∀ (ztx64 : zT), z_64 = (zkx64, zmx64, zsx64, zrx64, zux64, ztx64) → ∀ (H : Heap) (locs : List Loc), va_P (dC, dI) vwCl (wL cI ad zkx64 zmx64 zb zsx64 zrx64 zux64 ztx64 zf zg zbd zro zmc zmg zsp zjn) H → va_D A (wL cI ad zkx64 zmx64 zb zsx64 zrx64 zux64 ztx64 zf zg zbd zro zmc zmg zsp zjn) → va_S A s.heap H locs → ∀ (ls : Array Slot), lv_has ls 7 [(0, .ref (ad 0))] → W p l e (headSpec wsX2_appendMany ({ frames := 7, cells := 3, slots := 18, locals := 113 } : Room)).room s m ([.ref (ad 0), .int p1, .int p2, .int p3] : List Value).toArray below meth c H locs 3 18 (vx_MQ below (zXi (dC, dI) (fun (u_ : zN × zN × zN × zN × zN × zT) => (wL cI ad u_.1 u_.2.1 zb u_.2.2.1 u_.2.2.2.1 u_.2.2.2.2.1 u_.2.2.2.2.2 zf zg zbd zro zmc zmg zsp zjn)) [(cI, .int)] A (fun r_ u_ => z = Sum.inr (r_, u_))) (zXC (dC, dI) (wL cI ad zk zm zb zs zr zu zt zf zg zbd zro zmc zmg zsp zjn) [(cI, .int)] A z) ([.ref (ad 0), .int p1, .int p2, .int p3] : List Value).toArray s 3 18 A) (F0 m 86 ls []) := by
                  intro zkx64 zmx64 zsx64 zrx64 zux64 ztx64 ez H locs hP hD hS ls hl
                  rw [ez] at hm
                  refine lv_aload_n hx hb dX2_appendMany_86 rfl (lv_at hl 0 rfl) ?_
                  refine va_get (D := (dC, dI)) (ci := 2) (v := .ref (ad 7)) (C := RX2) (T := TX2) (N := 15) hx hb hts ziX2 hown hK hP 0 rfl rfl 3 (by decide) zw0 (fun _ h9 => h9) rfl dX2_appendMany_87 ?_
                  obtain ⟨r90, h_90, hm⟩ := ob hm
                  refine z_callRi (As := []) (rest := []) (ci := 0) (q := (RX0, TX0, 2)) ⟨hx, hb, hml, hown, hts⟩ (c_X0_length l dC dI cI (ad 7) (ad 8) 256 zsx64 F r90 h_90) (cwV 0 hts gX2_appendMany_X0_length rfl rfl rfl kv_X0_length ⟨Nat.le_of_ble_eq_true rfl, Nat.le_of_ble_eq_true rfl⟩) hK (hP.sub (ws' := (wN cI (ad 7) (ad 8) 256 zsx64)) [7, 8] rfl) rfl rfl rfl rfl hl.1 rfl (Nat.le_of_ble_eq_true rfl) dX2_appendMany_90 ⟨Nat.le_of_ble_eq_true rfl, Nat.le_of_ble_eq_true rfl⟩ ?_
                  refine vx_ret (W.widen (k := 3) (n := 18) (Nat.le_of_ble_eq_true rfl) (Nat.le_of_ble_eq_true rfl) ?_)
                  exact W.iret hx hb hr (fun t ht hW => ⟨⟨_, (zkx64, zmx64, zsx64, zrx64, zux64, ztx64), rfl, o2 hm, by rw [ht]; exact hP, va_K.moved hW.alike hK, hD⟩, hS.F ht⟩) hS.2.2 dX2_appendMany_93
                have L_64 : ∀ (n : Nat) (x6 : Int32) (zkl64 : zN) (zml64 : zN) (zsl64 : zN) (zrl64 : zN) (zul64 : zN) (ztl64 : zT), X2_appendMany_L64 p1 p2 p3 zbd F n x6 zkl64 zml64 zsl64 zrl64 zul64 ztl64 = some z_64 → ∀ (H : Heap) (locs : List Loc), va_P (dC, dI) vwCl (wL cI ad zkl64 zml64 zb zsl64 zrl64 zul64 ztl64 zf zg zbd zro zmc zmg zsp zjn) H → va_D A (wL cI ad zkl64 zml64 zb zsl64 zrl64 zul64 ztl64 zf zg zbd zro zmc zmg zsp zjn) → va_S A s.heap H locs → ∀ (ls : Array Slot), lv_has ls 7 [(6, .int x6), (0, .ref (ad 0)), (1, .int p1), (2, .int p2), (3, .int p3)] → W p l e (headSpec wsX2_appendMany ({ frames := 7, cells := 3, slots := 18, locals := 113 } : Room)).room s m ([.ref (ad 0), .int p1, .int p2, .int p3] : List Value).toArray below meth c H locs 3 18 (vx_MQ below (zXi (dC, dI) (fun (u_ : zN × zN × zN × zN × zN × zT) => (wL cI ad u_.1 u_.2.1 zb u_.2.2.1 u_.2.2.2.1 u_.2.2.2.2.1 u_.2.2.2.2.2 zf zg zbd zro zmc zmg zsp zjn)) [(cI, .int)] A (fun r_ u_ => z = Sum.inr (r_, u_))) (zXC (dC, dI) (wL cI ad zk zm zb zs zr zu zt zf zg zbd zro zmc zmg zsp zjn) [(cI, .int)] A z) ([.ref (ad 0), .int p1, .int p2, .int p3] : List Value).toArray s 3 18 A) (F0 m 64 ls []) := by
                  intro n
                  induction n with
                  | zero => intro x6 zkl64 zml64 zsl64 zrl64 zul64 ztl64 hm; cases hm
                  | succ n ih_64 =>
                    intro x6 zkl64 zml64 zsl64 zrl64 zul64 ztl64 hm H locs hP hD hS ls hl
                    refine lv_iload hx hb dX2_appendMany_64 (lv_at hl 0 rfl) ?_
                    refine lv_iload_n hx hb dX2_appendMany_66 rfl (lv_at hl 4 rfl) ?_
                    refine lv_icmp_ge (tgt := 86) hx hb dX2_appendMany_67 (by decide) (fun c_67 => ?_) (fun c_67 => ?_)
                    · have hm := it_t hm c_67
                      exact K_64 zkl64 zml64 zsl64 zrl64 zul64 ztl64 (o2 hm) _ _ hP hD hS _ (lv_sub hl [1] rfl)
                    · have hm := it_f hm c_67
                      refine lv_aload_n hx hb dX2_appendMany_70 rfl (lv_at hl 1 rfl) ?_
                      refine lv_iload_n hx hb dX2_appendMany_71 rfl (lv_at hl 2 rfl) ?_
                      refine lv_iload_n hx hb dX2_appendMany_72 rfl (lv_at hl 3 rfl) ?_
                      refine lv_iload hx hb dX2_appendMany_73 (lv_at hl 0 rfl) ?_
                      refine lv_imul hx hb dX2_appendMany_75 ?_
                      refine lv_iadd hx hb dX2_appendMany_76 ?_
                      obtain ⟨⟨zk77, zm77, zs77, zr77, zu77, zt77⟩, h_77, hm⟩ := ob hm
                      refine z_callWv (wc := (wL cI ad zkl64 zml64 zb zsl64 zrl64 zul64 ztl64 zf zg zbd zro zmc zmg zsp zjn)) (w1 := (wL cI ad zk77 zm77 zb zs77 zr77 zu77 zt77 zf zg zbd zro zmc zmg zsp zjn)) (ws := (wL cI ad zkl64 zml64 zb zsl64 zrl64 zul64 ztl64 zf zg zbd zro zmc zmg zsp zjn)) (ws' := (wL cI ad zk77 zm77 zb zs77 zr77 zu77 zt77 zf zg zbd zro zmc zmg zsp zjn)) [0, 1, 2, 3, 4, 5, 6, 7, 8, 9, 10, 11, 12, 13, 14, 15, 16, 17] [] 18 (As := [.int (p1 + (p2 * x6))]) (rest := []) (ci := 2) (q := (RX2, TX2, 15)) ⟨hx, hb, hml, hown, hts⟩ (c_X2_addLast l dC dI cI ad zkl64 zml64 zb zsl64 zrl64 zul64 ztl64 zf zg zbd zro zmc zmg zsp zjn F (p1 + (p2 * x6)) H.size zk77 zm77 zs77 zr77 zu77 zt77 h_77) (cwV 1 hts gX2_appendMany_X2_addLast rfl rfl rfl kv_X2_addLast ⟨Nat.le_of_ble_eq_true rfl, Nat.le_of_ble_eq_true rfl⟩) hK hP hD hS hA hP hD rfl rfl (by decide) rfl rfl (by decide) rfl rfl rfl rfl rfl hl.1 rfl (Nat.le_of_ble_eq_true rfl) dX2_appendMany_77 ⟨Nat.le_of_ble_eq_true rfl, Nat.le_of_ble_eq_true rfl⟩ (fun H locs hP hD hS => ?_)
                      obtain ⟨x6_1, e_x6_1⟩ : ∃ y : Int32, y = x6 + 1 := ⟨_, rfl⟩
                      have hm := bnd_e hm e_x6_1
                      refine lv_iinc (v := x6_1) (lv' := [(6, .int x6_1), (0, .ref (ad 0)), (1, .int p1), (2, .int p2), (3, .int p3)]) hx hb dX2_appendMany_80 hl (k := 0) rfl (by rw [e_x6_1]; rfl) (by decide) rfl (fun ls hl => ?_)
                      refine lv_goto (tgt := 64) hx hb dX2_appendMany_83 (by decide) ?_
                      exact ih_64 x6_1 zk77 zm77 zs77 zr77 zu77 zt77 hm _ _ hP hD hS _ (lv_sub hl [0, 1, 2, 3, 4] rfl)
                exact L_64 F 0 zk zm zs zr zu zt hq_64 _ _ hP hD hS _ (lv_sub hl [0, 2, 3, 4, 5] rfl)
        · have hm := it_f hm c_20
          exact vx_throwS hx hb hl9 (own := RX2) (cls := "java/lang/IllegalArgumentException") (names := ["java/lang/RuntimeException", "java/lang/Exception"]) (ik := 80) (is := 82) (ic := 84) hown (by decide +kernel) (by decide +kernel) zw1 zw2 (hV.1 (82, "step or many out of range") (by decide +kernel)) (vx_hat (fun w h => hts w (List.mem_cons_of_mem _ (List.mem_append_left _ (List.mem_append_right _ h)))) (by decide +kernel) (zV_ng hV)) (by decide +kernel) hV.2.2.1 hV.2.2.2 hS (hl.1.trans hml.symm) dX2_appendMany_23 dX2_appendMany_26 dX2_appendMany_27 dX2_appendMany_29 dX2_appendMany_32 (fun x hx => (hnx x hx).elim) (Nat.le_of_ble_eq_true rfl) (Nat.le_of_ble_eq_true rfl) (Nat.le_of_ble_eq_true rfl) (Nat.le_of_ble_eq_true rfl) hlocks (z_xt (k := 1) rfl (o2 hm) hP hK hD hS) hS.2.2 (Nat.le_of_ble_eq_true rfl) (Nat.le_of_ble_eq_true rfl)
set_option maxHeartbeats 4000000 in
set_option maxRecDepth 100000 in
theorem c_X2_isThere (l : Launch) (dC : Nat → ClassId) (dI : Nat → Nat → Nat) (cI : ClassId) (ad : Nat → Nat) (zk : zN) (zm : zN) (zb : zN) (zs : zN) (zr : zN) (zu : zN) (zt : zT) (zf : zN) (zg : zN) (zbd : Int32) (zro : Int32) (zmc : Int32) (zmg : Int32) (zsp : Int32) (zjn : Int32) (F : Nat) (p1 : Int32) (r : Int32) (hm : X2_isThere F zk zm zb p1 = some r) : Met l yX2_isThere wsX2_isThere ({ frames := 4, cells := 0, slots := 0, locals := 89 }) (va_Pc [.ref (ad 0), .int p1] (zR (dC, dI) (wL cI ad zk zm zb zs zr zu zt zf zg zbd zro zmc zmg zsp zjn) [(cI, .int)])) (vp_Si (fun v => v = r)) 0 0 (fun _ => False) := by
  refine Met.ofW (cc := cX2_isThere) (maxL := 3) (ret := (some .boolean)) (by decide) rfl ?_
  intro p e s m args below meth c s₁ B hml hv
  obtain ⟨rfl, hP, hK⟩ := hv
  have hx := B.exec
  have hb := B.bytes
  have hr := B.returns
  have hts := atoms_spec (ws := wsX2_isThere) B.pre
  have hown : s.vm.findClass RX2 = some m.cls := findClass_of_methodNamed B.named
  have hlocks := B.notSynchronized
  have hl := lv_entry ([.ref (ad 0), .int p1]) (n := 3) (Nat.le_of_ble_eq_true rfl)
  rw [lg_entry_eq]
  generalize (lg_sl ([.ref (ad 0), .int p1]) ++ List.replicate (3 - (lg_sl ([.ref (ad 0), .int p1])).length) Slot.unset).toArray = ls at hl ⊢
  have hl : lv_has ls 3 [(0, .ref (ad 0)), (1, .int p1)] := hl
  have zw0 := hts (.fieldLink RX2 14 "LearnedLedge" "keys" "LLearnedLedge$Numbers;") (by decide +kernel)
  have zw1 := hts (.fieldLink RX2 18 "LearnedLedge" "marks" "LLearnedLedge$Numbers;") (by decide +kernel)
  have zw2 := hts (.fieldLink RX2 21 "LearnedLedge" "buffer" "LLearnedLedge$Numbers;") (by decide +kernel)
  have ziX2 : ∀ w ∈ u_ws RX2 TX2 15, w ∈ wsX2_isThere := by decide +kernel
  refine lv_aload_n hx hb dX2_isThere_0 rfl (lv_at hl 0 rfl) ?_
  refine va_get (D := (dC, dI)) (ci := 2) (v := .ref (ad 1)) (C := RX2) (T := TX2) (N := 15) hx hb hts ziX2 hown hK hP 0 rfl rfl 0 (by decide) zw0 (fun _ h9 => h9) rfl dX2_isThere_1 ?_
  refine lv_iload_n hx hb dX2_isThere_4 rfl (lv_at hl 1 rfl) ?_
  obtain ⟨r5, h_5, hm⟩ := ob hm
  refine z_callRi (As := [.int p1]) (rest := []) (ci := 0) (q := (RX0, TX0, 2)) ⟨hx, hb, hml, hown, hts⟩ (c_X0_indexOf l dC dI cI (ad 1) (ad 2) 256 zk F p1 r5 h_5) (cwV 1 hts gX2_isThere_X0_indexOf rfl rfl rfl kv_X0_indexOf ⟨Nat.le_of_ble_eq_true rfl, Nat.le_of_ble_eq_true rfl⟩) hK (hP.sub (ws' := (wN cI (ad 1) (ad 2) 256 zk)) [1, 2] rfl) rfl rfl rfl rfl hl.1 rfl (Nat.le_of_ble_eq_true rfl) dX2_isThere_5 ⟨Nat.zero_le _, Nat.zero_le _⟩ ?_
  refine lv_istore_n (lv' := [(2, .int r5), (0, .ref (ad 0)), (1, .int p1)]) hx hb dX2_isThere_8 rfl hl (by decide) rfl (fun ls hl => ?_)
  refine lv_iload_n hx hb dX2_isThere_9 rfl (lv_at hl 0 rfl) ?_
  refine lv_iconst (v := (-1)) hx hb dX2_isThere_10 (by decide) ?_
  refine lv_icmp_ne (tgt := 34) hx hb dX2_isThere_11 (by decide) (fun c_11 => ?_) (fun c_11 => ?_)
  · have hm := it_f hm c_11
    refine lv_aload_n hx hb dX2_isThere_34 rfl (lv_at hl 1 rfl) ?_
    refine va_get (D := (dC, dI)) (ci := 2) (v := .ref (ad 3)) (C := RX2) (T := TX2) (N := 15) hx hb hts ziX2 hown hK hP 0 rfl rfl 1 (by decide) zw1 (fun _ h9 => h9) rfl dX2_isThere_35 ?_
    refine lv_iload_n hx hb dX2_isThere_38 rfl (lv_at hl 0 rfl) ?_
    obtain ⟨r39, h_39, hm⟩ := ob hm
    refine z_callRi (As := [.int r5]) (rest := []) (ci := 0) (q := (RX0, TX0, 2)) ⟨hx, hb, hml, hown, hts⟩ (c_X0_at l dC dI cI (ad 3) (ad 4) 256 zm F r5 r39 h_39) (cwV 1 hts gX2_isThere_X0_at rfl rfl rfl kv_X0_at ⟨Nat.le_of_ble_eq_true rfl, Nat.le_of_ble_eq_true rfl⟩) hK (hP.sub (ws' := (wN cI (ad 3) (ad 4) 256 zm)) [3, 4] rfl) rfl rfl rfl rfl hl.1 rfl (Nat.le_of_ble_eq_true rfl) dX2_isThere_39 ⟨Nat.zero_le _, Nat.zero_le _⟩ ?_
    refine lv_if_ne (tgt := 49) hx hb dX2_isThere_42 (by decide) (fun c_42 => ?_) (fun c_42 => ?_)
    · have hm := it_f hm c_42
      refine lv_iconst (v := 0) hx hb dX2_isThere_49 (by decide) ?_
      exact W.zret hx hb hr rfl (fun t ht hW => ⟨_, rfl, (o2 hm).symm, ht⟩) (fun q h => absurd h List.not_mem_nil) dX2_isThere_50
    · have hm := it_t hm c_42
      refine lv_iconst (v := 1) hx hb dX2_isThere_45 (by decide) ?_
      refine lv_goto (tgt := 50) hx hb dX2_isThere_46 (by decide) ?_
      exact W.zret hx hb hr rfl (fun t ht hW => ⟨_, rfl, (o2 hm).symm, ht⟩) (fun q h => absurd h List.not_mem_nil) dX2_isThere_50
  · have hm := it_t hm c_11
    refine lv_aload_n hx hb dX2_isThere_14 rfl (lv_at hl 1 rfl) ?_
    refine va_get (D := (dC, dI)) (ci := 2) (v := .ref (ad 5)) (C := RX2) (T := TX2) (N := 15) hx hb hts ziX2 hown hK hP 0 rfl rfl 2 (by decide) zw2 (fun _ h9 => h9) rfl dX2_isThere_15 ?_
    refine lv_iload_n hx hb dX2_isThere_18 rfl (lv_at hl 2 rfl) ?_
    obtain ⟨r19, h_19, hm⟩ := ob hm
    refine z_callRi (As := [.int p1]) (rest := []) (ci := 0) (q := (RX0, TX0, 2)) ⟨hx, hb, hml, hown, hts⟩ (c_X0_indexOf l dC dI cI (ad 5) (ad 6) 16 zb F p1 r19 h_19) (cwV 1 hts gX2_isThere_X0_indexOf rfl rfl rfl kv_X0_indexOf ⟨Nat.le_of_ble_eq_true rfl, Nat.le_of_ble_eq_true rfl⟩) hK (hP.sub (ws' := (wN cI (ad 5) (ad 6) 16 zb)) [5, 6] rfl) rfl rfl rfl rfl hl.1 rfl (Nat.le_of_ble_eq_true rfl) dX2_isThere_19 ⟨Nat.zero_le _, Nat.zero_le _⟩ ?_
    refine lv_iconst (v := (-1)) hx hb dX2_isThere_22 (by decide) ?_
    refine lv_icmp_eq (tgt := 30) hx hb dX2_isThere_23 (by decide) (fun c_23 => ?_) (fun c_23 => ?_)
    · have hm := it_t hm c_23
      refine lv_iconst (v := 0) hx hb dX2_isThere_30 (by decide) ?_
      refine lv_goto (tgt := 50) hx hb dX2_isThere_31 (by decide) ?_
      exact W.zret hx hb hr rfl (fun t ht hW => ⟨_, rfl, (o2 hm).symm, ht⟩) (fun q h => absurd h List.not_mem_nil) dX2_isThere_50
    · have hm := it_f hm c_23
      refine lv_iconst (v := 1) hx hb dX2_isThere_26 (by decide) ?_
      refine lv_goto (tgt := 50) hx hb dX2_isThere_27 (by decide) ?_
      exact W.zret hx hb hr rfl (fun t ht hW => ⟨_, rfl, (o2 hm).symm, ht⟩) (fun q h => absurd h List.not_mem_nil) dX2_isThere_50
