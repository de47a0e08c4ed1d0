set_option maxHeartbeats 4000000 in
set_option maxRecDepth 100000 in
theorem n_X2_guess (l : Launch) (dC : Nat → ClassId) (dI : Nat → Nat → Nat) (cI : ClassId) (ad : Nat → Nat) (zk : zN) (zm : zN) (zb : zN) (zs : zN) (zr : zN) (zu : zN) (zt : zT) (zf : zN) (zg : zN) (zbd : Int32) (zro : Int32) (zmc : Int32) (zmg : Int32) (zsp : Int32) (zjn : Int32) (F : Nat) (p1 : Int32) (sz : Nat) (r : Int64) (hm : X2_guess F zk zs zr zu p1 = some (Sum.inr r)) : Met l yX2_guess wsX2_guess ({ frames := 7, cells := 0, slots := 0, locals := 111 }) (va_Pc [.ref (ad 0), .int p1] (zW (dC, dI) (wL cI ad zk zm zb zs zr zu zt zf zg zbd zro zmc zmg zsp zjn) [(cI, .int)] sz)) (zQl (dC, dI) (wL cI ad zk zm zb zs zr zu zt zf zg zbd zro zmc zmg zsp zjn) [(cI, .int)] (va_A (wL cI ad zk zm zb zs zr zu zt zf zg zbd zro zmc zmg zsp zjn) sz) r) 0 0 (va_A (wL cI ad zk zm zb zs zr zu zt zf zg zbd zro zmc zmg zsp zjn) sz) := by
  refine Met.ofW (cc := cX2_guess) (maxL := 2) (ret := (some .long)) (by decide) rfl ?_
  intro p e s m args below meth c s₁ B hml hv
  obtain ⟨rfl, hsz, hP, hK, hD0⟩ := hv
  have hx := B.exec
  have hb := B.bytes
  have hr := B.returns
  have hts := atoms_spec (ws := wsX2_guess) B.pre
  have hown : s.vm.findClass RX2 = some m.cls := findClass_of_methodNamed B.named
  have hlocks := B.notSynchronized
  subst hsz
  have hD := hD0.self (sz := s.heap.size)
  generalize hAe : va_A (wL cI ad zk zm zb zs zr zu zt zf zg zbd zro zmc zmg zsp zjn) s.heap.size = A at hD ⊢
  have hA : ∀ q : Nat, s.heap.size ≤ q → A q := fun q h => by rw [← hAe]; exact Or.inr h
  have hS : va_S A s.heap s.heap [] := va_S.rf
  generalize eL : ([] : List Loc) = locs at hS ⊢
  obtain ⟨H, eH⟩ : ∃ z : Heap, z = s.heap := ⟨_, rfl⟩
  have hP : va_P (dC, dI) vwCl (wL cI ad zk zm zb zs zr zu zt zf zg zbd zro zmc zmg zsp zjn) H := by rw [eH]; exact hP
  have hS : va_S A s.heap H locs := by rw [eH]; exact hS
  refine z_heap eH ?_
  have hl := lv_entry ([.ref (ad 0), .int p1]) (n := 2) (Nat.le_of_ble_eq_true rfl)
  rw [lg_entry_eq]
  generalize (lg_sl ([.ref (ad 0), .int p1]) ++ List.replicate (2 - (lg_sl ([.ref (ad 0), .int p1])).length) Slot.unset).toArray = ls at hl ⊢
  have hl : lv_has ls 2 [(0, .ref (ad 0)), (1, .int p1)] := hl
  refine lv_iload_n hx hb dX2_guess_0 rfl (lv_at hl 1 rfl) ?_
  refine lv_i2l hx hb dX2_guess_1 rfl ?_
  obtain ⟨z_2, h_2, hm⟩ := ob hm
  rcases z_2 with e_2 | _
  · exact zno hm
  · have hm := hm
    refine z_callSWv (wc := []) (w1 := []) (ws := (wL cI ad zk zm zb zs zr zu zt zf zg zbd zro zmc zmg zsp zjn)) (ws' := (wL cI ad zk zm zb zs zr zu zt zf zg zbd zro zmc zmg zsp zjn)) (As := [.long (Int32.toInt64 p1)]) (rest := []) ⟨hx, hb, hml, hown, hts⟩ (n_X2_needKey l dC dI F (Int32.toInt64 p1) H.size h_2) (va_cwS 1 hts gX2_guess_X2_needKey rfl rfl rfl ks_X2_needKey ⟨Nat.le_of_ble_eq_true rfl, Nat.le_of_ble_eq_true rfl⟩) (hK.sub (tys' := []) [] rfl) hP hD hS hA (z_sp0 (wL cI ad zk zm zb zs zr zu zt zf zg zbd zro zmc zmg zsp zjn)) rfl rfl hl.1 rfl (Nat.le_of_ble_eq_true rfl) dX2_guess_2 ⟨Nat.zero_le _, Nat.zero_le _⟩ (fun H locs hP hD hS => ?_)
    refine lv_aload_n hx hb dX2_guess_5 rfl (lv_at hl 0 rfl) ?_
    refine lv_aload_n hx hb dX2_guess_6 rfl (lv_at hl 0 rfl) ?_
    refine lv_iload_n hx hb dX2_guess_7 rfl (lv_at hl 1 rfl) ?_
    obtain ⟨r8, h_8, hm⟩ := ob hm
    refine z_callRi (As := [.int p1]) (rest := [.ref (ad 0)]) (ci := 2) (q := (RX2, TX2, 15)) ⟨hx, hb, hml, hown, hts⟩ (c_X2_pieceOf l dC dI cI ad zk zm zb zs zr zu zt zf zg zbd zro zmc zmg zsp zjn F p1 r8 h_8) (cwV 1 hts gX2_guess_X2_pieceOf rfl rfl rfl kv_X2_pieceOf ⟨Nat.le_of_ble_eq_true rfl, Nat.le_of_ble_eq_true rfl⟩) hK hP rfl rfl rfl rfl hl.1 rfl (Nat.le_of_ble_eq_true rfl) dX2_guess_8 ⟨Nat.zero_le _, Nat.zero_le _⟩ ?_
    refine lv_iload_n hx hb dX2_guess_11 rfl (lv_at hl 1 rfl) ?_
    obtain ⟨r12, h_12, hm⟩ := ob hm
    refine z_callRl (As := [.int r8, .int p1]) (rest := []) (ci := 2) (q := (RX2, TX2, 15)) ⟨hx, hb, hml, hown, hts⟩ (c_X2_guessBy l dC dI cI ad zk zm zb zs zr zu zt zf zg zbd zro zmc zmg zsp zjn F r8 p1 r12 h_12) (cwV 2 hts gX2_guess_X2_guessBy rfl rfl rfl kv_X2_guessBy ⟨Nat.le_of_ble_eq_true rfl, Nat.le_of_ble_eq_true rfl⟩) hK hP rfl rfl rfl rfl hl.1 rfl (Nat.le_of_ble_eq_true rfl) dX2_guess_12 ⟨Nat.zero_le _, Nat.zero_le _⟩ ?_
    cases o2 hm
    exact W.lret hx hb hr (fun t ht hW => ⟨⟨_, (), rfl, rfl, by rw [ht]; exact hP, va_K.moved hW.alike hK, hD⟩, hS.F ht⟩) hS.2.2 dX2_guess_15
set_option maxHeartbeats 4000000 in
set_option maxRecDepth 100000 in
theorem c_X2_looksBy (l : Launch) (dC : Nat → ClassId) (dI : Nat → Nat → Nat) (cI : ClassId) (ad : Nat → Nat) (zk : zN) (zm : zN) (zb : zN) (zs : zN) (zr : zN) (zu : zN) (zt : zT) (zf : zN) (zg : zN) (zbd : Int32) (zro : Int32) (zmc : Int32) (zmg : Int32) (zsp : Int32) (zjn : Int32) (F : Nat) (p1 : Int32) (p2 : Int32) (r : Int32) (hm : X2_looksBy F zk zs zr zu zbd p1 p2 = some r) : Met l yX2_looksBy wsX2_looksBy ({ frames := 4, cells := 0, slots := 0, locals := 89 }) (va_Pc [.ref (ad 0), .int p1, .int p2] (zR (dC, dI) (wL cI ad zk zm zb zs zr zu zt zf zg zbd zro zmc zmg zsp zjn) [(cI, .int)])) (vp_Si (fun v => v = r)) 0 0 (fun _ => False) := by
  refine Met.ofW (cc := cX2_looksBy) (maxL := 11) (ret := (some .int)) (by decide) rfl ?_
  intro p e s m args below meth c s₁ B hml hv
  obtain ⟨rfl, hP, hK⟩ := hv
  have hx := B.exec
  have hb := B.bytes
  have hr := B.returns
  have hts := atoms_spec (ws := wsX2_looksBy) B.pre
  have hown : s.vm.findClass RX2 = some m.cls := findClass_of_methodNamed B.named
  have hlocks := B.notSynchronized
  have hl := lv_entry ([.ref (ad 0), .int p1, .int p2]) (n := 11) (Nat.le_of_ble_eq_true rfl)
  rw [lg_entry_eq]
  generalize (lg_sl ([.ref (ad 0), .int p1, .int p2]) ++ List.replicate (11 - (lg_sl ([.ref (ad 0), .int p1, .int p2])).length) Slot.unset).toArray = ls at hl ⊢
  have hl : lv_has ls 11 [(0, .ref (ad 0)), (1, .int p1), (2, .int p2)] := hl
  have zw0 := hts (.fieldLink RX2 24 "LearnedLedge" "starts" "LLearnedLedge$Numbers;") (List.mem_cons_of_mem _ (List.mem_append_left _ (List.mem_append_left _ (List.mem_append_left _ (List.mem_of_getElem? (i := 0) rfl)))))
  have zw1 := hts (.fieldLink RX2 46 "LearnedLedge" "bound" "I") (List.mem_cons_of_mem _ (List.mem_append_left _ (List.mem_append_left _ (List.mem_append_left _ (List.mem_of_getElem? (i := 1) rfl)))))
  have zw2 := hts (.methodLink RX2 170 Lib.MathLoose.max_long.x) (List.mem_cons_of_mem _ (List.mem_append_left _ (List.mem_append_left _ (List.mem_append_left _ (List.mem_of_getElem? (i := 2) rfl)))))
  have zw3 := hts (.static Lib.MathLoose.max_long.x) (List.mem_cons_of_mem _ (List.mem_append_left _ (List.mem_append_left _ (List.mem_append_left _ (List.mem_of_getElem? (i := 3) rfl)))))
  have zw4 := hts (.initialized "java/lang/Math") (List.mem_cons_of_mem _ (List.mem_append_left _ (List.mem_append_left _ (List.mem_append_left _ (List.mem_of_getElem? (i := 4) rfl)))))
  have zw5 := hts (.code Lib.MathLoose.max_long.x Lib.MathLoose.max_long.code 4 (some .long)) (List.mem_cons_of_mem _ (List.mem_append_left _ (List.mem_append_left _ (List.mem_append_left _ (List.mem_of_getElem? (i := 5) rfl)))))
  have zw6 := hts (.methodLink RX2 236 Lib.MathLoose.min_long.x) (List.mem_cons_of_mem _ (List.mem_append_left _ (List.mem_append_left _ (List.mem_append_left _ (List.mem_of_getElem? (i := 6) rfl)))))
  have zw7 := hts (.static Lib.MathLoose.min_long.x) (List.mem_cons_of_mem _ (List.mem_append_left _ (List.mem_append_left _ (List.mem_append_left _ (List.mem_of_getElem? (i := 7) rfl)))))
  have zw8 := hts (.code Lib.MathLoose.min_long.x Lib.MathLoose.min_long.code 4 (some .long)) (List.mem_cons_of_mem _ (List.mem_append_left _ (List.mem_append_left _ (List.mem_append_left _ (List.mem_of_getElem? (i := 8) rfl)))))
  have zw9 := hts (.fieldLink RX2 14 "LearnedLedge" "keys" "LLearnedLedge$Numbers;") (List.mem_cons_of_mem _ (List.mem_append_left _ (List.mem_append_left _ (List.mem_append_left _ (List.mem_of_getElem? (i := 9) rfl)))))
  have ziX2 : ∀ w ∈ u_ws RX2 TX2 15, w ∈ wsX2_looksBy := (fun _ h9 => (List.mem_cons_of_mem _ (List.mem_append_left _ (List.mem_append_right _ h9))))
  refine lv_aload_n hx hb dX2_looksBy_0 rfl (lv_at hl 0 rfl) ?_
  refine lv_iload_n hx hb dX2_looksBy_1 rfl (lv_at hl 1 rfl) ?_
  refine lv_iload_n hx hb dX2_looksBy_2 rfl (lv_at hl 2 rfl) ?_
  obtain ⟨r3, h_3, hm⟩ := ob hm
  refine z_callRl (As := [.int p1, .int p2]) (rest := []) (ci := 2) (q := (RX2, TX2, 15)) ⟨hx, hb, hml, hown, hts⟩ (c_X2_guessBy l dC dI cI ad zk zm zb zs zr zu zt zf zg zbd zro zmc zmg zsp zjn F p1 p2 r3 h_3) (cwV 2 hts gX2_looksBy_X2_guessBy rfl rfl rfl kv_X2_guessBy ⟨Nat.le_of_ble_eq_true rfl, Nat.le_of_ble_eq_true rfl⟩) hK hP rfl rfl rfl rfl hl.1 rfl (Nat.le_of_ble_eq_true rfl) dX2_looksBy_3 ⟨Nat.zero_le _, Nat.zero_le _⟩ ?_
  refine lv_lstore_n (lv' := [(3, .long r3), (0, .ref (ad 0)), (1, .int p1), (2, .int p2)]) hx hb dX2_looksBy_6 rfl hl (by decide) rfl (fun ls hl => ?_)
  refine lv_aload_n hx hb dX2_looksBy_7 rfl (lv_at hl 1 rfl) ?_
  refine va_get (D := (dC, dI)) (ci := 2) (v := .ref (ad 7)) (C := RX2) (T := TX2) (N := 15) hx hb hts ziX2 hown hK hP 0 rfl rfl 3 (by decide) zw0 (fun _ h9 => h9) rfl dX2_looksBy_8 ?_
  refine lv_iload_n hx hb dX2_looksBy_11 rfl (lv_at hl 2 rfl) ?_
  obtain ⟨r12, h_12, hm⟩ := ob hm
  refine z_callRi (As := [.int p1]) (rest := []) (ci := 0) (q := (RX0, TX0, 2)) ⟨hx, hb, hml, hown, hts⟩ (c_X0_at l dC dI cI (ad 7) (ad 8) 256 zs F p1 r12 h_12) (cwV 1 hts gX2_looksBy_X0_at rfl rfl rfl kv_X0_at ⟨Nat.le_of_ble_eq_true rfl, Nat.le_of_ble_eq_true rfl⟩) hK (z_mid (pjL_zs cI ad zk zm zb zs zr zu zt zf zg zbd zro zmc zmg zsp zjn zs) hP) rfl rfl rfl rfl hl.1 rfl (Nat.le_of_ble_eq_true rfl) dX2_looksBy_12 ⟨Nat.zero_le _, Nat.zero_le _⟩ ?_
  refine lv_istore (lv' := [(5, .int r12), (3, .long r3), (0, .ref (ad 0)), (1, .int p1), (2, .int p2)]) hx hb dX2_looksBy_15 hl (by decide) rfl (fun ls hl => ?_)
  refine lv_aload_n hx hb dX2_looksBy_17 rfl (lv_at hl 2 rfl) ?_
  refine lv_iload_n hx hb dX2_looksBy_18 rfl (lv_at hl 3 rfl) ?_
  obtain ⟨r19, h_19, hm⟩ := ob hm
  refine z_callRi (As := [.int p1]) (rest := []) (ci := 2) (q := (RX2, TX2, 15)) ⟨hx, hb, hml, hown, hts⟩ (c_X2_endOf l dC dI cI ad zk zm zb zs zr zu zt zf zg zbd zro zmc zmg zsp zjn F p1 r19 h_19) (cwV 1 hts gX2_looksBy_X2_endOf rfl rfl rfl kv_X2_endOf ⟨Nat.le_of_ble_eq_true rfl, Nat.le_of_ble_eq_true rfl⟩) hK hP rfl rfl rfl rfl hl.1 rfl (Nat.le_of_ble_eq_true rfl) dX2_looksBy_19 ⟨Nat.zero_le _, Nat.zero_le _⟩ ?_
  refine lv_istore (lv' := [(6, .int r19), (5, .int r12), (3, .long r3), (0, .ref (ad 0)), (1, .int p1), (2, .int p2)]) hx hb dX2_looksBy_22 hl (by decide) rfl (fun ls hl => ?_)
  refine lv_iload hx hb dX2_looksBy_24 (lv_at hl 0 rfl) ?_
  refine lv_i2l hx hb dX2_looksBy_26 rfl ?_
  refine lv_iload hx hb dX2_looksBy_27 (lv_at hl 1 rfl) ?_
  refine lv_i2l hx hb dX2_looksBy_29 rfl ?_
  refine lv_lload_n hx hb dX2_looksBy_30 rfl (lv_at hl 2 rfl) ?_
  refine lv_aload_n hx hb dX2_looksBy_31 rfl (lv_at hl 3 rfl) ?_
  refine va_get (D := (dC, dI)) (ci := 2) (v := .int zbd) (C := RX2) (T := TX2) (N := 15) hx hb hts ziX2 hown hK hP 0 rfl rfl 9 (by decide) zw1 (fun _ h9 => h9) rfl dX2_looksBy_32 ?_
  refine lv_i2l hx hb dX2_looksBy_35 rfl ?_
  refine lv_lsub hx hb dX2_looksBy_36 ?_
  refine va_mmax_long hx hb (hml.trans hl.1.symm) hown zw2 zw3 zw4 zw5 (Nat.le_of_ble_eq_true rfl) (Nat.le_of_ble_eq_true rfl) (Nat.zero_le _) (Nat.zero_le _) dX2_looksBy_37 ?_
  refine lv_topl (fun q37 e_q37 => ?_)
  have hm := bnd_e hm e_q37
  refine va_mmin_long hx hb (hml.trans hl.1.symm) hown zw6 zw7 zw4 zw8 (Nat.le_of_ble_eq_true rfl) (Nat.le_of_ble_eq_true rfl) (Nat.zero_le _) (Nat.zero_le _) dX2_looksBy_40 ?_
  refine lv_topl (fun q40 e_q40 => ?_)
  have hm := bnd_e hm e_q40
  refine lv_l2i hx hb dX2_looksBy_43 rfl ?_
  refine lv_topi (fun x7 e_x7 => ?_)
  have hm := bnd_e hm e_x7
  refine lv_istore (lv' := [(7, .int x7), (6, .int r19), (5, .int r12), (3, .long r3), (0, .ref (ad 0)), (1, .int p1), (2, .int p2)]) hx hb dX2_looksBy_44 hl (by decide) rfl (fun ls hl => ?_)
  refine lv_iload hx hb dX2_looksBy_46 (lv_at hl 1 rfl) ?_
  refine lv_i2l hx hb dX2_looksBy_48 rfl ?_
  refine lv_lload_n hx hb dX2_looksBy_49 rfl (lv_at hl 3 rfl) ?_
  refine lv_aload_n hx hb dX2_looksBy_50 rfl (lv_at hl 4 rfl) ?_
  refine va_get (D := (dC, dI)) (ci := 2) (v := .int zbd) (C := RX2) (T := TX2) (N := 15) hx hb hts ziX2 hown hK hP 0 rfl rfl 9 (by decide) zw1 (fun _ h9 => h9) rfl dX2_looksBy_51 ?_
  refine lv_i2l hx hb dX2_looksBy_54 rfl ?_
  refine lv_ladd hx hb dX2_looksBy_55 ?_
  refine lv_lconst (v := 1) hx hb dX2_looksBy_56 (by decide) ?_
  refine lv_ladd hx hb dX2_looksBy_57 ?_
  refine va_mmin_long hx hb (hml.trans hl.1.symm) hown zw6 zw7 zw4 zw8 (Nat.le_of_ble_eq_true rfl) (Nat.le_of_ble_eq_true rfl) (Nat.zero_le _) (Nat.zero_le _) dX2_looksBy_58 ?_
  refine lv_topl (fun q58 e_q58 => ?_)
  have hm := bnd_e hm e_q58
  refine lv_l2i hx hb dX2_looksBy_61 rfl ?_
  refine lv_topi (fun x8 e_x8 => ?_)
  have hm := bnd_e hm e_x8
  refine lv_istore (lv' := [(8, .int x8), (7, .int x7), (6, .int r19), (5, .int r12), (3, .long r3), (0, .ref (ad 0)), (1, .int p1), (2, .int p2)]) hx hb dX2_looksBy_62 hl (by decide) rfl (fun ls hl => ?_)
  refine lv_iconst (v := 0) hx hb dX2_looksBy_64 (by decide) ?_
  refine lv_istore (lv' := [(9, .int 0), (8, .int x8), (7, .int x7), (6, .int r19), (5, .int r12), (3, .long r3), (0, .ref (ad 0)), (1, .int p1), (2, .int p2)]) hx hb dX2_looksBy_65 hl (by decide) rfl (fun ls hl => ?_)
  obtain ⟨z_67, hq_67, hm⟩ := ob hm
  have K_67 : ∀ (x9_3 : Int32), z_67 = x9_3 → ∀ (ls : Array Slot), lv_has ls 11 [(9, .int x9_3)] → W p l e (headSpec wsX2_looksBy ({ frames := 4, cells := 0, slots := 0, locals := 89 } : Room)).room s m ([.ref (ad 0), .int p1, .int p2] : List Value).toArray below meth c s.heap [] 0 0 (MQ below (vp_Si (fun v => v = r)) ([.ref (ad 0), .int p1, .int p2] : List Value).toArray s 0 0 (fun _ => False)) (F0 m 122 ls []) := by
    intro x9_3 ez ls hl
    rw [ez] at hm
    refine lv_iload hx hb dX2_looksBy_122 (lv_at hl 0 rfl) ?_
    exact W.iret hx hb hr (fun t ht hW => ⟨_, rfl, (o2 hm).symm, ht⟩) (fun q h => absurd h List.not_mem_nil) dX2_looksBy_124
  have L_67 : ∀ (n : Nat) (x9 : Int32) (x8_1 : Int32) (x7_1 : Int32), X2_looksBy_L67 p2 zk F n x9 x8_1 x7_1 = some z_67 → ∀ (ls : Array Slot), lv_has ls 11 [(9, .int x9), (8, .int x8_1), (7, .int x7_1), (0, .ref (ad 0)), (2, .int p2)] → W p l e (headSpec wsX2_looksBy ({ frames := 4, cells := 0, slots := 0, locals := 89 } : Room)).room s m ([.ref (ad 0), .int p1, .int p2] : List Value).toArray below meth c s.heap [] 0 0 (MQ below (vp_Si (fun v => v = r)) ([.ref (ad 0), .int p1, .int p2] : List Value).toArray s 0 0 (fun _ => False)) (F0 m 67 ls []) := by
    intro n
    induction n with
    | zero => intro x9 x8_1 x7_1 hm; cases hm
    | succ n ih_67 =>
      intro x9 x8_1 x7_1 hm ls hl
      refine lv_iload hx hb dX2_looksBy_67 (lv_at hl 0 rfl) ?_
      refine lv_bipush (v := 64) hx hb dX2_looksBy_69 (by decide) ?_
      refine lv_icmp_ge (tgt := 122) hx hb dX2_looksBy_71 (by decide) (fun c_71 => ?_) (fun c_71 => ?_)
      · have hm := it_t hm c_71
        exact K_67 x9 (o2 hm) _ (lv_sub hl [0] rfl)
      · have hm := it_f hm c_71
        refine lv_iload hx hb dX2_looksBy_74 (lv_at hl 2 rfl) ?_
        refine lv_iload hx hb dX2_looksBy_76 (lv_at hl 1 rfl) ?_
        refine lv_icmp_ge (tgt := 122) hx hb dX2_looksBy_78 (by decide) (fun c_78 => ?_) (fun c_78 => ?_)
        · have hm := it_t hm c_78
          exact K_67 x9 (o2 hm) _ (lv_sub hl [0] rfl)
        · have hm := it_f hm c_78
          refine lv_iload hx hb dX2_looksBy_81 (lv_at hl 2 rfl) ?_
          refine lv_iload hx hb dX2_looksBy_83 (lv_at hl 1 rfl) ?_
          refine lv_iadd hx hb dX2_looksBy_85 ?_
          refine lv_iconst (v := 2) hx hb dX2_looksBy_86 (by decide) ?_
          refine lv_idiv hx hb dX2_looksBy_87 (by decide) ?_
          refine lv_topi (fun x10 e_x10 => ?_)
          have hm := bnd_e hm e_x10
          refine lv_istore (lv' := [(10, .int x10), (9, .int x9), (8, .int x8_1), (7, .int x7_1), (0, .ref (ad 0)), (2, .int p2)]) hx hb dX2_looksBy_88 hl (by decide) rfl (fun ls hl => ?_)
          refine lv_aload_n hx hb dX2_looksBy_90 rfl (lv_at hl 4 rfl) ?_
          refine va_get (D := (dC, dI)) (ci := 2) (v := .ref (ad 1)) (C := RX2) (T := TX2) (N := 15) hx hb hts ziX2 hown hK hP 0 rfl rfl 0 (by decide) zw9 (fun _ h9 => h9) rfl dX2_looksBy_91 ?_
          refine lv_iload hx hb dX2_looksBy_94 (lv_at hl 0 rfl) ?_
          obtain ⟨r96, h_96, hm⟩ := ob hm
          refine z_callRi (As := [.int x10]) (rest := []) (ci := 0) (q := (RX0, TX0, 2)) ⟨hx, hb, hml, hown, hts⟩ (c_X0_at l dC dI cI (ad 1) (ad 2) 256 zk F x10 r96 h_96) (cwV 1 hts gX2_looksBy_X0_at rfl rfl rfl kv_X0_at ⟨Nat.le_of_ble_eq_true rfl, Nat.le_of_ble_eq_true rfl⟩) hK (z_mid (pjL_zk cI ad zk zm zb zs zr zu zt zf zg zbd zro zmc zmg zsp zjn zk) hP) rfl rfl rfl rfl hl.1 rfl (Nat.le_of_ble_eq_true rfl) dX2_looksBy_96 ⟨Nat.zero_le _, Nat.zero_le _⟩ ?_
          refine lv_iload_n hx hb dX2_looksBy_99 rfl (lv_at hl 5 rfl) ?_
          refine lv_icmp_ge (tgt := 112) hx hb dX2_looksBy_100 (by decide) (fun c_100 => ?_) (fun c_100 => ?_)
          · have hm := it_t hm c_100
            refine lv_iload hx hb dX2_looksBy_112 (lv_at hl 0 rfl) ?_
            refine lv_istore (lv' := [(8, .int x10), (10, .int x10), (9, .int x9), (7, .int x7_1), (0, .ref (ad 0)), (2, .int p2)]) hx hb dX2_looksBy_114 hl (by decide) rfl (fun ls hl => ?_)
            obtain ⟨x9_1, e_x9_1⟩ : ∃ y : Int32, y = x9 + 1 := ⟨_, rfl⟩
            have hm := bnd_e hm e_x9_1
            refine lv_iinc (v := x9_1) (lv' := [(9, .int x9_1), (8, .int x10), (10, .int x10), (7, .int x7_1), (0, .ref (ad 0)), (2, .int p2)]) hx hb dX2_looksBy_116 hl (k := 2) rfl (by rw [e_x9_1]; rfl) (by decide) rfl (fun ls hl => ?_)
            refine lv_goto (tgt := 67) hx hb dX2_looksBy_119 (by decide) ?_
            exact ih_67 x9_1 x10 x7_1 hm _ (lv_sub hl [0, 1, 3, 4, 5] rfl)
          · have hm := it_f hm c_100
            refine lv_iload hx hb dX2_looksBy_103 (lv_at hl 0 rfl) ?_
            refine lv_iconst (v := 1) hx hb dX2_looksBy_105 (by decide) ?_
            refine lv_iadd hx hb dX2_looksBy_106 ?_
            refine lv_topi (fun x7_2 e_x7_2 => ?_)
            have hm := bnd_e hm e_x7_2
            refine lv_istore (lv' := [(7, .int x7_2), (10, .int x10), (9, .int x9), (8, .int x8_1), (0, .ref (ad 0)), (2, .int p2)]) hx hb dX2_looksBy_107 hl (by decide) rfl (fun ls hl => ?_)
            refine lv_goto (tgt := 116) hx hb dX2_looksBy_109 (by decide) ?_
            obtain ⟨x9_2, e_x9_2⟩ : ∃ y : Int32, y = x9 + 1 := ⟨_, rfl⟩
            have hm := bnd_e hm e_x9_2
            refine lv_iinc (v := x9_2) (lv' := [(9, .int x9_2), (7, .int x7_2), (10, .int x10), (8, .int x8_1), (0, .ref (ad 0)), (2, .int p2)]) hx hb dX2_looksBy_116 hl (k := 2) rfl (by rw [e_x9_2]; rfl) (by decide) rfl (fun ls hl => ?_)
            refine lv_goto (tgt := 67) hx hb dX2_looksBy_119 (by decide) ?_
            exact ih_67 x9_2 x8_1 x7_2 hm _ (lv_sub hl [0, 3, 1, 4, 5] rfl)
  exact L_67 F 0 x8 x7 hq_67 _ (lv_sub hl [0, 1, 2, 6, 8] rfl)
set_option maxHeartbeats 4000000 in
set_option maxRecDepth 100000 in
theorem c_X2_looks (l : Launch) (dC : Nat → ClassId) (dI : Nat → Nat → Nat) (cI : ClassId) (ad : Nat → Nat) (zk : zN) (zm : zN) (zb : zN) (zs : zN) (zr : zN) (zu : zN) (zt : zT) (zf : zN) (zg : zN) (zbd : Int32) (zro : Int32) (zmc : Int32) (zmg : Int32) (zsp : Int32) (zjn : Int32) (F : Nat) (p1 : Int32) (sz : Nat) (sa : Nat → Nat) (hl9 : l.stackTraces = false) (z : Nat ⊕ Int32) (hm : X2_looks F zk zs zr zu zbd p1 = some z) : vx_Met l yX2_looks wsX2_looks ({ frames := 7, cells := 1, slots := 6, locals := 119 }) (va_Pc [.ref (ad 0), .int p1] (zX (dC, dI) (wL cI ad zk zm zb zs zr zu zt zf zg zbd zro zmc zmg zsp zjn) [(cI, .int)] sz sa)) (zXi (dC, dI) (fun (u_ : Unit) => (wL cI ad zk zm zb zs zr zu zt zf zg zbd zro zmc zmg zsp zjn)) [(cI, .int)] (va_A (wL cI ad zk zm zb zs zr zu zt zf zg zbd zro zmc zmg zsp zjn) sz) (fun r_ _ => z = Sum.inr r_)) (zXC (dC, dI) (wL cI ad zk zm zb zs zr zu zt zf zg zbd zro zmc zmg zsp zjn) [(cI, .int)] (va_A (wL cI ad zk zm zb zs zr zu zt zf zg zbd zro zmc zmg zsp zjn) sz) z) 1 6 (va_A (wL cI ad zk zm zb zs zr zu zt zf zg zbd zro zmc zmg zsp zjn) sz) := by
  refine vx_ofW (cc := cX2_looks) (maxL := 3) (ret := (some .int)) (by decide) rfl ?_
  intro p e s m args below meth c s₁ B hml hnx hv
  obtain ⟨rfl, ⟨hsz, hP, hK, hD0⟩, hV⟩ := hv
  have hx := B.exec
  have hb := B.bytes
  have hr := B.returns
  have hts := atoms_spec (ws := wsX2_looks) B.pre
  have hown : s.vm.findClass RX2 = some m.cls := findClass_of_methodNamed B.named
  have hlocks := B.notSynchronized
  subst hsz
  have hD := hD0.self (sz := s.heap.size)
  generalize hAe : va_A (wL cI ad zk zm zb zs zr zu zt zf zg zbd zro zmc zmg zsp zjn) s.heap.size = A at hD hV ⊢
  have hA : ∀ q : Nat, s.heap.size ≤ q → A q := fun q h => by rw [← hAe]; exact Or.inr h
  have hS : va_S A s.heap s.heap [] := va_S.rf
  generalize eL : ([] : List Loc) = locs at hS ⊢
  obtain ⟨H, eH⟩ : ∃ z : Heap, z = s.heap := ⟨_, rfl⟩
  have hP : va_P (dC, dI) vwCl (wL cI ad zk zm zb zs zr zu zt zf zg zbd zro zmc zmg zsp zjn) H := by rw [eH]; exact hP
  have hS : va_S A s.heap H locs := by rw [eH]; exact hS
  refine z_heap eH ?_
  have hl := lv_entry ([.ref (ad 0), .int p1]) (n := 3) (Nat.le_of_ble_eq_true rfl)
  rw [lg_entry_eq]
  generalize (lg_sl ([.ref (ad 0), .int p1]) ++ List.replicate (3 - (lg_sl ([.ref (ad 0), .int p1])).length) Slot.unset).toArray = ls at hl ⊢
  have hl : lv_has ls 3 [(0, .ref (ad 0)), (1, .int p1)] := hl
  refine lv_iload_n hx hb dX2_looks_0 rfl (lv_at hl 1 rfl) ?_
  refine lv_i2l hx hb dX2_looks_1 rfl ?_
  obtain ⟨z_2, h_2, hm⟩ := ob hm
  refine z_xSv (U := Unit) (w1 := fun u_ => []) (ws' := fun u_ => (wL cI ad zk zm zb zs zr zu zt zf zg zbd zro zmc zmg zsp zjn)) (As := [.long (Int32.toInt64 p1)]) (rest := []) (wc := []) (ws := (wL cI ad zk zm zb zs zr zu zt zf zg zbd zro zmc zmg zsp zjn)) ⟨hx, hb, hml, hown, hts⟩ (c_X2_needKey l dC dI F (Int32.toInt64 p1) H.size sa hl9 z_2 h_2) (va_cwS 1 hts gX2_looks_X2_needKey rfl rfl rfl ks_X2_needKey ⟨(Nat.le_of_ble_eq_true rfl), (Nat.le_of_ble_eq_true rfl)⟩) hV (hK.sub (tys' := []) [] rfl) hP hD hS hA (z_sp0 (wL cI ad zk zm zb zs zr zu zt zf zg zbd zro zmc zmg zsp zjn)) (fun u_ => (z_sp0 (wL cI ad zk zm zb zs zr zu zt zf zg zbd zro zmc zmg zsp zjn))) (fun u_ => rfl) rfl hl.1 rfl (Nat.le_of_ble_eq_true rfl) dX2_looks_2 ⟨(Nat.le_of_ble_eq_true rfl), (Nat.le_of_ble_eq_true rfl)⟩ (fun k ce q9 H locs ez hP hS hce hcv hcl => ?_) (fun u_2 H locs hw hP hD hS => ?_)
  · rw [ez] at hm
    exact vx_out (fun x hx => (hnx x hx).elim) hlocks hce hcv hcl (z_xc (o2 hm) hP hK hD hS) hS.2.2 (Nat.le_of_ble_eq_true rfl) (Nat.le_of_ble_eq_true rfl)
  · rw [hw] at hm
    have hP : va_P (dC, dI) vwCl (wL cI ad zk zm zb zs zr zu zt zf zg zbd zro zmc zmg zsp zjn) H := hP
    have hD : va_D A (wL cI ad zk zm zb zs zr zu zt zf zg zbd zro zmc zmg zsp zjn) := hD
    refine lv_aload_n hx hb dX2_looks_5 rfl (lv_at hl 0 rfl) ?_
    refine lv_iload_n hx hb dX2_looks_6 rfl (lv_at hl 1 rfl) ?_
    obtain ⟨r7, h_7, hm⟩ := ob hm
    refine z_callRi (As := [.int p1]) (rest := []) (ci := 2) (q := (RX2, TX2, 15)) ⟨hx, hb, hml, hown, hts⟩ (c_X2_pieceOf l dC dI cI ad zk zm zb zs zr zu zt zf zg zbd zro zmc zmg zsp zjn F p1 r7 h_7) (cwV 1 hts gX2_looks_X2_pieceOf rfl rfl rfl kv_X2_pieceOf ⟨Nat.le_of_ble_eq_true rfl, Nat.le_of_ble_eq_true rfl⟩) hK hP rfl rfl rfl rfl hl.1 rfl (Nat.le_of_ble_eq_true rfl) dX2_looks_7 ⟨Nat.le_of_ble_eq_true rfl, Nat.le_of_ble_eq_true rfl⟩ ?_
    refine lv_istore_n (lv' := [(2, .int r7), (0, .ref (ad 0)), (1, .int p1)]) hx hb dX2_looks_10 rfl hl (by decide) rfl (fun ls hl => ?_)
    refine lv_iload_n hx hb dX2_looks_11 rfl (lv_at hl 0 rfl) ?_
    refine lv_iconst (v := (-1)) hx hb dX2_looks_12 (by decide) ?_
    refine lv_icmp_ne (tgt := 20) hx hb dX2_looks_13 (by decide) (fun c_13 => ?_) (fun c_13 => ?_)
    · have hm := it_f hm c_13
      refine lv_aload_n hx hb dX2_looks_20 rfl (lv_at hl 1 rfl) ?_
      refine lv_iload_n hx hb dX2_looks_21 rfl (lv_at hl 0 rfl) ?_
      refine lv_iload_n hx hb dX2_looks_22 rfl (lv_at hl 2 rfl) ?_
      obtain ⟨r23, h_23, hm⟩ := ob hm
      refine z_callRi (As := [.int r7, .int p1]) (rest := []) (ci := 2) (q := (RX2, TX2, 15)) ⟨hx, hb, hml, hown, hts⟩ (c_X2_looksBy l dC dI cI ad zk zm zb zs zr zu zt zf zg zbd zro zmc zmg zsp zjn F r7 p1 r23 h_23) (cwV 2 hts gX2_looks_X2_looksBy rfl rfl rfl kv_X2_looksBy ⟨Nat.le_of_ble_eq_true rfl, Nat.le_of_ble_eq_true rfl⟩) hK hP rfl rfl rfl rfl hl.1 rfl (Nat.le_of_ble_eq_true rfl) dX2_looks_23 ⟨Nat.le_of_ble_eq_true rfl, Nat.le_of_ble_eq_true rfl⟩ ?_
      refine vx_ret (W.widen (k := 1) (n := 6) (Nat.le_of_ble_eq_true rfl) (Nat.le_of_ble_eq_true rfl) ?_)
      exact W.iret hx hb hr (fun t ht hW => ⟨⟨_, (), rfl, o2 hm, by rw [ht]; exact hP, va_K.moved hW.alike hK, hD⟩, hS.F ht⟩) hS.2.2 dX2_looks_26
    · have hm := it_t hm c_13
      refine lv_iconst (v := 0) hx hb dX2_looks_16 (by decide) ?_
      refine lv_goto (tgt := 26) hx hb dX2_looks_17 (by decide) ?_
      refine vx_ret (W.widen (k := 1) (n := 6) (Nat.le_of_ble_eq_true rfl) (Nat.le_of_ble_eq_true rfl) ?_)
      exact W.iret hx hb hr (fun t ht hW => ⟨⟨_, (), rfl, o2 hm, by rw [ht]; exact hP, va_K.moved hW.alike hK, hD⟩, hS.F ht⟩) hS.2.2 dX2_looks_26
