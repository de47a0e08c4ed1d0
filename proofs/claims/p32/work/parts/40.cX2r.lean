set_option maxHeartbeats 4000000 in
set_option maxRecDepth 100000 in
theorem n_X2_ceiling (l : Launch) (dC : Nat → ClassId) (dI : Nat → Nat → Nat) (cI : ClassId) (ad : Nat → Nat) (zk : zN) (zm : zN) (zb : zN) (zs : zN) (zr : zN) (zu : zN) (zt : zT) (zf : zN) (zg : zN) (zbd : Int32) (zro : Int32) (zmc : Int32) (zmg : Int32) (zsp : Int32) (zjn : Int32) (F : Nat) (p1 : Int32) (sz : Nat) (r : Int32) (u_zf : zN) (hm : X2_ceiling F zk zm zb zf zmc p1 = some (Sum.inr (r, u_zf))) : Met l yX2_ceiling wsX2_ceiling ({ frames := 6, cells := 0, slots := 0, locals := 111 }) (va_Pc [.ref (ad 0), .int p1] (zW (dC, dI) (wL cI ad zk zm zb zs zr zu zt zf zg zbd zro zmc zmg zsp zjn) [(cI, .int)] sz)) (zQi (dC, dI) (wL cI ad zk zm zb zs zr zu zt u_zf zg zbd zro zmc zmg zsp zjn) [(cI, .int)] (va_A (wL cI ad zk zm zb zs zr zu zt zf zg zbd zro zmc zmg zsp zjn) sz) r) 0 0 (va_A (wL cI ad zk zm zb zs zr zu zt zf zg zbd zro zmc zmg zsp zjn) sz) := by
  refine Met.ofW (cc := cX2_ceiling) (maxL := 3) (ret := (some .int)) (by decide) rfl ?_
  intro p e s m args below meth c s₁ B hml hv
  obtain ⟨rfl, hsz, hP, hK, hD0⟩ := hv
  have hx := B.exec
  have hb := B.bytes
  have hr := B.returns
  have hts := atoms_spec (ws := wsX2_ceiling) B.pre
  have hown : s.vm.findClass RX2 = some m.cls := findClass_of_methodNamed B.named
  have hlocks := B.notSynchronized
  subst hsz
  have hD := hD0.self (sz := s.heap.size)
  generalize hAe : va_A (wL cI ad zk zm zb zs zr zu zt zf zg zbd zro zmc zmg zsp zjn) s.heap.size = A at hD ⊢
  have hA : ∀ q : Nat, s.heap.size ≤ q → A q := fun q h => by rw [← hAe]; exact Or.inr h
  have hS : va_S A s.heap s.heap [] := va_S.rf
  generalize eL : ([] : List Loc) = locs at hS ⊢
  obtain ⟨H, eH⟩ : ∃ z : Heap, z = s.heap := ⟨_, rfl⟩
  have hP : va_P (dC, dI) vwCl (wL cI ad zk zm zb zs zr zu zt zf zg zbd zro zmc zmg zsp zjn) H := by rw [eH]; exact hP
  have hS : va_S A s.heap H locs := by rw [eH]; exact hS
  refine z_heap eH ?_
  have hl := lv_entry ([.ref (ad 0), .int p1]) (n := 3) (Nat.le_of_ble_eq_true rfl)
  rw [lg_entry_eq]
  generalize (lg_sl ([.ref (ad 0), .int p1]) ++ List.replicate (3 - (lg_sl ([.ref (ad 0), .int p1])).length) Slot.unset).toArray = ls at hl ⊢
  have hl : lv_has ls 3 [(0, .ref (ad 0)), (1, .int p1)] := hl
  have zw0 := hts (.classLink RX2 109 "java/util/NoSuchElementException") (List.mem_cons_of_mem _ (List.mem_append_left _ (List.mem_append_left _ (List.mem_append_left _ (List.mem_append_left _ (List.mem_of_getElem? (i := 0) rfl))))))
  have zw1 := hts (.initialized "java/util/NoSuchElementException") (List.mem_cons_of_mem _ (List.mem_append_left _ (List.mem_append_left _ (List.mem_append_left _ (List.mem_append_left _ (List.mem_of_getElem? (i := 1) rfl))))))
  refine lv_aload_n hx hb dX2_ceiling_0 rfl (lv_at hl 0 rfl) ?_
  refine lv_iload_n hx hb dX2_ceiling_1 rfl (lv_at hl 1 rfl) ?_
  obtain ⟨r2, h_2, hm⟩ := ob hm
  refine z_callRi (As := [.int p1]) (rest := []) (ci := 2) (q := (RX2, TX2, 15)) ⟨hx, hb, hml, hown, hts⟩ (c_X2_thereBelow l dC dI cI ad zk zm zb zs zr zu zt zf zg zbd zro zmc zmg zsp zjn F p1 r2 h_2) (cwV 1 hts gX2_ceiling_X2_thereBelow rfl rfl rfl kv_X2_thereBelow ⟨Nat.le_of_ble_eq_true rfl, Nat.le_of_ble_eq_true rfl⟩) hK hP rfl rfl rfl rfl hl.1 rfl (Nat.le_of_ble_eq_true rfl) dX2_ceiling_2 ⟨Nat.zero_le _, Nat.zero_le _⟩ ?_
  refine lv_istore_n (lv' := [(2, .int r2), (0, .ref (ad 0)), (1, .int p1)]) hx hb dX2_ceiling_5 rfl hl (by decide) rfl (fun ls hl => ?_)
  refine lv_iload_n hx hb dX2_ceiling_6 rfl (lv_at hl 0 rfl) ?_
  refine lv_aload_n hx hb dX2_ceiling_7 rfl (lv_at hl 1 rfl) ?_
  obtain ⟨r8, h_8, hm⟩ := ob hm
  refine z_callRi (As := []) (rest := [.int r2]) (ci := 2) (q := (RX2, TX2, 15)) ⟨hx, hb, hml, hown, hts⟩ (c_X2_keysThere l dC dI cI ad zk zm zb zs zr zu zt zf zg zbd zro zmc zmg zsp zjn F r8 h_8) (cwV 0 hts gX2_ceiling_X2_keysThere rfl rfl rfl kv_X2_keysThere ⟨Nat.le_of_ble_eq_true rfl, Nat.le_of_ble_eq_true rfl⟩) hK hP rfl rfl rfl rfl hl.1 rfl (Nat.le_of_ble_eq_true rfl) dX2_ceiling_8 ⟨Nat.zero_le _, Nat.zero_le _⟩ ?_
  refine lv_icmp_lt (tgt := 24) hx hb dX2_ceiling_11 (by decide) (fun c_11 => ?_) (fun c_11 => ?_)
  · have hm := it_t hm c_11
    refine lv_aload_n hx hb dX2_ceiling_24 rfl (lv_at hl 1 rfl) ?_
    refine lv_iload_n hx hb dX2_ceiling_25 rfl (lv_at hl 0 rfl) ?_
    obtain ⟨⟨r26, zf26⟩, h_26, hm⟩ := ob hm
    refine z_callWi (wc := (wL cI ad zk zm zb zs zr zu zt zf zg zbd zro zmc zmg zsp zjn)) (w1 := (wL cI ad zk zm zb zs zr zu zt zf26 zg zbd zro zmc zmg zsp zjn)) (ws := (wL cI ad zk zm zb zs zr zu zt zf zg zbd zro zmc zmg zsp zjn)) (ws' := (wL cI ad zk zm zb zs zr zu zt zf26 zg zbd zro zmc zmg zsp zjn)) (As := [.int r2]) (rest := []) (ci := 2) (q := (RX2, TX2, 15)) ⟨hx, hb, hml, hown, hts⟩ (c_X2_keyThere l dC dI cI ad zk zm zb zs zr zu zt zf zg zbd zro zmc zmg zsp zjn F r2 H.size r26 zf26 h_26) (cwV 1 hts gX2_ceiling_X2_keyThere rfl rfl rfl kv_X2_keyThere ⟨Nat.le_of_ble_eq_true rfl, Nat.le_of_ble_eq_true rfl⟩) hK hP hD hS hA (z_spAll (wL cI ad zk zm zb zs zr zu zt zf zg zbd zro zmc zmg zsp zjn) (wL cI ad zk zm zb zs zr zu zt zf26 zg zbd zro zmc zmg zsp zjn)) ((paL cI ad zk zm zb zs zr zu zt zf26 zg zbd zro zmc zmg zsp zjn).trans (paL cI ad zk zm zb zs zr zu zt zf zg zbd zro zmc zmg zsp zjn).symm) rfl rfl rfl rfl hl.1 rfl (Nat.le_of_ble_eq_true rfl) dX2_ceiling_26 ⟨Nat.zero_le _, Nat.zero_le _⟩ (fun H locs hP hD hS => ?_)
    cases o2 hm
    exact W.iret hx hb hr (fun t ht hW => ⟨⟨_, (), rfl, rfl, by rw [ht]; exact hP, va_K.moved hW.alike hK, hD⟩, hS.F ht⟩) hS.2.2 dX2_ceiling_29
  · have hm := it_f hm c_11
    exact zno hm
set_option maxHeartbeats 4000000 in
set_option maxRecDepth 100000 in
theorem c_X2_count (l : Launch) (dC : Nat → ClassId) (dI : Nat → Nat → Nat) (cI : ClassId) (ad : Nat → Nat) (zk : zN) (zm : zN) (zb : zN) (zs : zN) (zr : zN) (zu : zN) (zt : zT) (zf : zN) (zg : zN) (zbd : Int32) (zro : Int32) (zmc : Int32) (zmg : Int32) (zsp : Int32) (zjn : Int32) (F : Nat) (p1 : Int32) (p2 : Int32) (r : Int32) (hm : X2_count F zk zm zb p1 p2 = some r) : Met l yX2_count wsX2_count ({ frames := 5, cells := 0, slots := 0, locals := 111 }) (va_Pc [.ref (ad 0), .int p1, .int p2] (zR (dC, dI) (wL cI ad zk zm zb zs zr zu zt zf zg zbd zro zmc zmg zsp zjn) [(cI, .int)])) (vp_Si (fun v => v = r)) 0 0 (fun _ => False) := by
  refine Met.ofW (cc := cX2_count) (maxL := 3) (ret := (some .int)) (by decide) rfl ?_
  intro p e s m args below meth c s₁ B hml hv
  obtain ⟨rfl, hP, hK⟩ := hv
  have hx := B.exec
  have hb := B.bytes
  have hr := B.returns
  have hts := atoms_spec (ws := wsX2_count) B.pre
  have hown : s.vm.findClass RX2 = some m.cls := findClass_of_methodNamed B.named
  have hlocks := B.notSynchronized
  have hl := lv_entry ([.ref (ad 0), .int p1, .int p2]) (n := 3) (Nat.le_of_ble_eq_true rfl)
  rw [lg_entry_eq]
  generalize (lg_sl ([.ref (ad 0), .int p1, .int p2]) ++ List.replicate (3 - (lg_sl ([.ref (ad 0), .int p1, .int p2])).length) Slot.unset).toArray = ls at hl ⊢
  have hl : lv_has ls 3 [(0, .ref (ad 0)), (1, .int p1), (2, .int p2)] := hl
  refine lv_iload_n hx hb dX2_count_0 rfl (lv_at hl 1 rfl) ?_
  refine lv_iload_n hx hb dX2_count_1 rfl (lv_at hl 2 rfl) ?_
  refine lv_icmp_le (tgt := 7) hx hb dX2_count_2 (by decide) (fun c_2 => ?_) (fun c_2 => ?_)
  · have hm := it_t hm c_2
    refine lv_aload_n hx hb dX2_count_7 rfl (lv_at hl 0 rfl) ?_
    refine lv_iload_n hx hb dX2_count_8 rfl (lv_at hl 2 rfl) ?_
    obtain ⟨r9, h_9, hm⟩ := ob hm
    refine z_callRi (As := [.int p2]) (rest := []) (ci := 2) (q := (RX2, TX2, 15)) ⟨hx, hb, hml, hown, hts⟩ (c_X2_thereBelow l dC dI cI ad zk zm zb zs zr zu zt zf zg zbd zro zmc zmg zsp zjn F p2 r9 h_9) (cwV 1 hts gX2_count_X2_thereBelow rfl rfl rfl kv_X2_thereBelow ⟨Nat.le_of_ble_eq_true rfl, Nat.le_of_ble_eq_true rfl⟩) hK hP rfl rfl rfl rfl hl.1 rfl (Nat.le_of_ble_eq_true rfl) dX2_count_9 ⟨Nat.zero_le _, Nat.zero_le _⟩ ?_
    refine lv_aload_n hx hb dX2_count_12 rfl (lv_at hl 0 rfl) ?_
    refine lv_iload_n hx hb dX2_count_13 rfl (lv_at hl 1 rfl) ?_
    obtain ⟨r14, h_14, hm⟩ := ob hm
    refine z_callRi (As := [.int p1]) (rest := [.int r9]) (ci := 2) (q := (RX2, TX2, 15)) ⟨hx, hb, hml, hown, hts⟩ (c_X2_thereBelow l dC dI cI ad zk zm zb zs zr zu zt zf zg zbd zro zmc zmg zsp zjn F p1 r14 h_14) (cwV 1 hts gX2_count_X2_thereBelow rfl rfl rfl kv_X2_thereBelow ⟨Nat.le_of_ble_eq_true rfl, Nat.le_of_ble_eq_true rfl⟩) hK hP rfl rfl rfl rfl hl.1 rfl (Nat.le_of_ble_eq_true rfl) dX2_count_14 ⟨Nat.zero_le _, Nat.zero_le _⟩ ?_
    refine lv_isub hx hb dX2_count_17 ?_
    refine lv_aload_n hx hb dX2_count_18 rfl (lv_at hl 0 rfl) ?_
    refine lv_iload_n hx hb dX2_count_19 rfl (lv_at hl 2 rfl) ?_
    obtain ⟨r20, h_20, hm⟩ := ob hm
    refine z_callRi (As := [.int p2]) (rest := [.int (r9 - r14)]) (ci := 2) (q := (RX2, TX2, 15)) ⟨hx, hb, hml, hown, hts⟩ (c_X2_isThere l dC dI cI ad zk zm zb zs zr zu zt zf zg zbd zro zmc zmg zsp zjn F p2 r20 h_20) (cwV 1 hts gX2_count_X2_isThere rfl rfl rfl kv_X2_isThere ⟨Nat.le_of_ble_eq_true rfl, Nat.le_of_ble_eq_true rfl⟩) hK hP rfl rfl rfl rfl hl.1 rfl (Nat.le_of_ble_eq_true rfl) dX2_count_20 ⟨Nat.zero_le _, Nat.zero_le _⟩ ?_
    refine lv_if_eq (tgt := 30) hx hb dX2_count_23 (by decide) (fun c_23 => ?_) (fun c_23 => ?_)
    · have hm := it_t hm c_23
      refine lv_iconst (v := 0) hx hb dX2_count_30 (by decide) ?_
      refine lv_iadd hx hb dX2_count_31 ?_
      exact W.iret hx hb hr (fun t ht hW => ⟨_, rfl, (o2 hm).symm, ht⟩) (fun q h => absurd h List.not_mem_nil) dX2_count_32
    · have hm := it_f hm c_23
      refine lv_iconst (v := 1) hx hb dX2_count_26 (by decide) ?_
      refine lv_goto (tgt := 31) hx hb dX2_count_27 (by decide) ?_
      refine lv_iadd hx hb dX2_count_31 ?_
      exact W.iret hx hb hr (fun t ht hW => ⟨_, rfl, (o2 hm).symm, ht⟩) (fun q h => absurd h List.not_mem_nil) dX2_count_32
  · have hm := it_f hm c_2
    refine lv_iconst (v := 0) hx hb dX2_count_5 (by decide) ?_
    exact W.iret hx hb hr (fun t ht hW => ⟨_, rfl, (o2 hm).symm, ht⟩) (fun q h => absurd h List.not_mem_nil) dX2_count_6
set_option maxHeartbeats 4000000 in
set_option maxRecDepth 100000 in
theorem c_X2_place (l : Launch) (dC : Nat → ClassId) (dI : Nat → Nat → Nat) (cI : ClassId) (ad : Nat → Nat) (zk : zN) (zm : zN) (zb : zN) (zs : zN) (zr : zN) (zu : zN) (zt : zT) (zf : zN) (zg : zN) (zbd : Int32) (zro : Int32) (zmc : Int32) (zmg : Int32) (zsp : Int32) (zjn : Int32) (F : Nat) (p1 : Int32) (r : Int32) (hm : X2_place F zk p1 = some r) : Met l yX2_place wsX2_place ({ frames := 3, cells := 0, slots := 0, locals := 67 }) (va_Pc [.ref (ad 0), .int p1] (zR (dC, dI) (wL cI ad zk zm zb zs zr zu zt zf zg zbd zro zmc zmg zsp zjn) [(cI, .int)])) (vp_Si (fun v => v = r)) 0 0 (fun _ => False) := by
  refine Met.ofW (cc := cX2_place) (maxL := 2) (ret := (some .int)) (by decide) rfl ?_
  intro p e s m args below meth c s₁ B hml hv
  obtain ⟨rfl, hP, hK⟩ := hv
  have hx := B.exec
  have hb := B.bytes
  have hr := B.returns
  have hts := atoms_spec (ws := wsX2_place) B.pre
  have hown : s.vm.findClass RX2 = some m.cls := findClass_of_methodNamed B.named
  have hlocks := B.notSynchronized
  have hl := lv_entry ([.ref (ad 0), .int p1]) (n := 2) (Nat.le_of_ble_eq_true rfl)
  rw [lg_entry_eq]
  generalize (lg_sl ([.ref (ad 0), .int p1]) ++ List.replicate (2 - (lg_sl ([.ref (ad 0), .int p1])).length) Slot.unset).toArray = ls at hl ⊢
  have hl : lv_has ls 2 [(0, .ref (ad 0)), (1, .int p1)] := hl
  have zw0 := hts (.fieldLink RX2 14 "LearnedLedge" "keys" "LLearnedLedge$Numbers;") (List.mem_cons_of_mem _ (List.mem_append_left _ (List.mem_append_left _ (List.mem_of_getElem? (i := 0) rfl))))
  have ziX2 : ∀ w ∈ u_ws RX2 TX2 15, w ∈ wsX2_place := (fun _ h9 => (List.mem_cons_of_mem _ (List.mem_append_left _ (List.mem_append_right _ h9))))
  refine lv_aload_n hx hb dX2_place_0 rfl (lv_at hl 0 rfl) ?_
  refine va_get (D := (dC, dI)) (ci := 2) (v := .ref (ad 1)) (C := RX2) (T := TX2) (N := 15) hx hb hts ziX2 hown hK hP 0 rfl rfl 0 (by decide) zw0 (fun _ h9 => h9) rfl dX2_place_1 ?_
  refine lv_iload_n hx hb dX2_place_4 rfl (lv_at hl 1 rfl) ?_
  obtain ⟨r5, h_5, hm⟩ := ob hm
  refine z_callRi (As := [.int p1]) (rest := []) (ci := 0) (q := (RX0, TX0, 2)) ⟨hx, hb, hml, hown, hts⟩ (c_X0_below l dC dI cI (ad 1) (ad 2) 256 zk F p1 r5 h_5) (cwV 1 hts gX2_place_X0_below rfl rfl rfl kv_X0_below ⟨Nat.le_of_ble_eq_true rfl, Nat.le_of_ble_eq_true rfl⟩) hK (z_mid (pjL_zk cI ad zk zm zb zs zr zu zt zf zg zbd zro zmc zmg zsp zjn zk) hP) rfl rfl rfl rfl hl.1 rfl (Nat.le_of_ble_eq_true rfl) dX2_place_5 ⟨Nat.zero_le _, Nat.zero_le _⟩ ?_
  exact W.iret hx hb hr (fun t ht hW => ⟨_, rfl, (o2 hm).symm, ht⟩) (fun q h => absurd h List.not_mem_nil) dX2_place_8
set_option maxHeartbeats 4000000 in
set_option maxRecDepth 100000 in
theorem c_X2_pieceOf (l : Launch) (dC : Nat → ClassId) (dI : Nat → Nat → Nat) (cI : ClassId) (ad : Nat → Nat) (zk : zN) (zm : zN) (zb : zN) (zs : zN) (zr : zN) (zu : zN) (zt : zT) (zf : zN) (zg : zN) (zbd : Int32) (zro : Int32) (zmc : Int32) (zmg : Int32) (zsp : Int32) (zjn : Int32) (F : Nat) (p1 : Int32) (r : Int32) (hm : X2_pieceOf F zk zs p1 = some r) : Met l yX2_pieceOf wsX2_pieceOf ({ frames := 3, cells := 0, slots := 0, locals := 67 }) (va_Pc [.ref (ad 0), .int p1] (zR (dC, dI) (wL cI ad zk zm zb zs zr zu zt zf zg zbd zro zmc zmg zsp zjn) [(cI, .int)])) (vp_Si (fun v => v = r)) 0 0 (fun _ => False) := by
  refine Met.ofW (cc := cX2_pieceOf) (maxL := 3) (ret := (some .int)) (by decide) rfl ?_
  intro p e s m args below meth c s₁ B hml hv
  obtain ⟨rfl, hP, hK⟩ := hv
  have hx := B.exec
  have hb := B.bytes
  have hr := B.returns
  have hts := atoms_spec (ws := wsX2_pieceOf) B.pre
  have hown : s.vm.findClass RX2 = some m.cls := findClass_of_methodNamed B.named
  have hlocks := B.notSynchronized
  have hl := lv_entry ([.ref (ad 0), .int p1]) (n := 3) (Nat.le_of_ble_eq_true rfl)
  rw [lg_entry_eq]
  generalize (lg_sl ([.ref (ad 0), .int p1]) ++ List.replicate (3 - (lg_sl ([.ref (ad 0), .int p1])).length) Slot.unset).toArray = ls at hl ⊢
  have hl : lv_has ls 3 [(0, .ref (ad 0)), (1, .int p1)] := hl
  have zw0 := hts (.fieldLink RX2 14 "LearnedLedge" "keys" "LLearnedLedge$Numbers;") (List.mem_cons_of_mem _ (List.mem_append_left _ (List.mem_append_left _ (List.mem_of_getElem? (i := 0) rfl))))
  have zw1 := hts (.fieldLink RX2 24 "LearnedLedge" "starts" "LLearnedLedge$Numbers;") (List.mem_cons_of_mem _ (List.mem_append_left _ (List.mem_append_left _ (List.mem_of_getElem? (i := 1) rfl))))
  have ziX2 : ∀ w ∈ u_ws RX2 TX2 15, w ∈ wsX2_pieceOf := (fun _ h9 => (List.mem_cons_of_mem _ (List.mem_append_left _ (List.mem_append_right _ h9))))
  refine lv_aload_n hx hb dX2_pieceOf_0 rfl (lv_at hl 0 rfl) ?_
  refine va_get (D := (dC, dI)) (ci := 2) (v := .ref (ad 1)) (C := RX2) (T := TX2) (N := 15) hx hb hts ziX2 hown hK hP 0 rfl rfl 0 (by decide) zw0 (fun _ h9 => h9) rfl dX2_pieceOf_1 ?_
  refine lv_iload_n hx hb dX2_pieceOf_4 rfl (lv_at hl 1 rfl) ?_
  refine lv_iconst (v := 1) hx hb dX2_pieceOf_5 (by decide) ?_
  refine lv_iadd hx hb dX2_pieceOf_6 ?_
  obtain ⟨r7, h_7, hm⟩ := ob hm
  refine z_callRi (As := [.int (p1 + 1)]) (rest := []) (ci := 0) (q := (RX0, TX0, 2)) ⟨hx, hb, hml, hown, hts⟩ (c_X0_below l dC dI cI (ad 1) (ad 2) 256 zk F (p1 + 1) r7 h_7) (cwV 1 hts gX2_pieceOf_X0_below rfl rfl rfl kv_X0_below ⟨Nat.le_of_ble_eq_true rfl, Nat.le_of_ble_eq_true rfl⟩) hK (z_mid (pjL_zk cI ad zk zm zb zs zr zu zt zf zg zbd zro zmc zmg zsp zjn zk) hP) rfl rfl rfl rfl hl.1 rfl (Nat.le_of_ble_eq_true rfl) dX2_pieceOf_7 ⟨Nat.zero_le _, Nat.zero_le _⟩ ?_
  refine lv_istore_n (lv' := [(2, .int r7), (0, .ref (ad 0)), (1, .int p1)]) hx hb dX2_pieceOf_10 rfl hl (by decide) rfl (fun ls hl => ?_)
  refine lv_aload_n hx hb dX2_pieceOf_11 rfl (lv_at hl 1 rfl) ?_
  refine va_get (D := (dC, dI)) (ci := 2) (v := .ref (ad 7)) (C := RX2) (T := TX2) (N := 15) hx hb hts ziX2 hown hK hP 0 rfl rfl 3 (by decide) zw1 (fun _ h9 => h9) rfl dX2_pieceOf_12 ?_
  refine lv_iload_n hx hb dX2_pieceOf_15 rfl (lv_at hl 0 rfl) ?_
  obtain ⟨r16, h_16, hm⟩ := ob hm
  refine z_callRi (As := [.int r7]) (rest := []) (ci := 0) (q := (RX0, TX0, 2)) ⟨hx, hb, hml, hown, hts⟩ (c_X0_below l dC dI cI (ad 7) (ad 8) 256 zs F r7 r16 h_16) (cwV 1 hts gX2_pieceOf_X0_below rfl rfl rfl kv_X0_below ⟨Nat.le_of_ble_eq_true rfl, Nat.le_of_ble_eq_true rfl⟩) hK (z_mid (pjL_zs cI ad zk zm zb zs zr zu zt zf zg zbd zro zmc zmg zsp zjn zs) hP) rfl rfl rfl rfl hl.1 rfl (Nat.le_of_ble_eq_true rfl) dX2_pieceOf_16 ⟨Nat.zero_le _, Nat.zero_le _⟩ ?_
  refine lv_iconst (v := 1) hx hb dX2_pieceOf_19 (by decide) ?_
  refine lv_isub hx hb dX2_pieceOf_20 ?_
  exact W.iret hx hb hr (fun t ht hW => ⟨_, rfl, (o2 hm).symm, ht⟩) (fun q h => absurd h List.not_mem_nil) dX2_pieceOf_21
set_option maxHeartbeats 4000000 in
set_option maxRecDepth 100000 in
theorem c_X2_guessBy (l : Launch) (dC : Nat → ClassId) (dI : Nat → Nat → Nat) (cI : ClassId) (ad : Nat → Nat) (zk : zN) (zm : zN) (zb : zN) (zs : zN) (zr : zN) (zu : zN) (zt : zT) (zf : zN) (zg : zN) (zbd : Int32) (zro : Int32) (zmc : Int32) (zmg : Int32) (zsp : Int32) (zjn : Int32) (F : Nat) (p1 : Int32) (p2 : Int32) (r : Int64) (hm : X2_guessBy F zk zs zr zu p1 p2 = some r) : Met l yX2_guessBy wsX2_guessBy ({ frames := 3, cells := 0, slots := 0, locals := 63 }) (va_Pc [.ref (ad 0), .int p1, .int p2] (zR (dC, dI) (wL cI ad zk zm zb zs zr zu zt zf zg zbd zro zmc zmg zsp zjn) [(cI, .int)])) (vp_Sl (fun v => v = r)) 0 0 (fun _ => False) := by
  refine Met.ofW (cc := cX2_guessBy) (maxL := 7) (ret := (some .long)) (by decide) rfl ?_
  intro p e s m args below meth c s₁ B hml hv
  obtain ⟨rfl, hP, hK⟩ := hv
  have hx := B.exec
  have hb := B.bytes
  have hr := B.returns
  have hts := atoms_spec (ws := wsX2_guessBy) B.pre
  have hown : s.vm.findClass RX2 = some m.cls := findClass_of_methodNamed B.named
  have hlocks := B.notSynchronized
  have hl := lv_entry ([.ref (ad 0), .int p1, .int p2]) (n := 7) (Nat.le_of_ble_eq_true rfl)
  rw [lg_entry_eq]
  generalize (lg_sl ([.ref (ad 0), .int p1, .int p2]) ++ List.replicate (7 - (lg_sl ([.ref (ad 0), .int p1, .int p2])).length) Slot.unset).toArray = ls at hl ⊢
  have hl : lv_has ls 7 [(0, .ref (ad 0)), (1, .int p1), (2, .int p2)] := hl
  have zw0 := hts (.fieldLink RX2 30 "LearnedLedge" "runs" "LLearnedLedge$Numbers;") (List.mem_cons_of_mem _ (List.mem_append_left _ (List.mem_append_left _ (List.mem_append_left _ (List.mem_of_getElem? (i := 0) rfl)))))
  have zw1 := hts (.fieldLink RX2 24 "LearnedLedge" "starts" "LLearnedLedge$Numbers;") (List.mem_cons_of_mem _ (List.mem_append_left _ (List.mem_append_left _ (List.mem_append_left _ (List.mem_of_getElem? (i := 2) rfl)))))
  have zw2 := hts (.fieldLink RX2 27 "LearnedLedge" "rises" "LLearnedLedge$Numbers;") (List.mem_cons_of_mem _ (List.mem_append_left _ (List.mem_append_left _ (List.mem_append_left _ (List.mem_of_getElem? (i := 3) rfl)))))
  have zw3 := hts (.constantLong RX2 231 (-1)) (List.mem_cons_of_mem _ (List.mem_append_left _ (List.mem_append_left _ (List.mem_append_left _ (List.mem_of_getElem? (i := 1) rfl)))))
  have ziX2 : ∀ w ∈ u_ws RX2 TX2 15, w ∈ wsX2_guessBy := (fun _ h9 => (List.mem_cons_of_mem _ (List.mem_append_left _ (List.mem_append_right _ h9))))
  refine lv_aload_n hx hb dX2_guessBy_0 rfl (lv_at hl 0 rfl) ?_
  refine va_get (D := (dC, dI)) (ci := 2) (v := .ref (ad 11)) (C := RX2) (T := TX2) (N := 15) hx hb hts ziX2 hown hK hP 0 rfl rfl 5 (by decide) zw0 (fun _ h9 => h9) rfl dX2_guessBy_1 ?_
  refine lv_iload_n hx hb dX2_guessBy_4 rfl (lv_at hl 1 rfl) ?_
  obtain ⟨r5, h_5, hm⟩ := ob hm
  refine z_callRi (As := [.int p1]) (rest := []) (ci := 0) (q := (RX0, TX0, 2)) ⟨hx, hb, hml, hown, hts⟩ (c_X0_at l dC dI cI (ad 11) (ad 12) 256 zu F p1 r5 h_5) (cwV 1 hts gX2_guessBy_X0_at rfl rfl rfl kv_X0_at ⟨Nat.le_of_ble_eq_true rfl, Nat.le_of_ble_eq_true rfl⟩) hK (z_mid (pjL_zu cI ad zk zm zb zs zr zu zt zf zg zbd zro zmc zmg zsp zjn zu) hP) rfl rfl rfl rfl hl.1 rfl (Nat.le_of_ble_eq_true rfl) dX2_guessBy_5 ⟨Nat.zero_le _, Nat.zero_le _⟩ ?_
  refine lv_i2l hx hb dX2_guessBy_8 rfl ?_
  refine lv_topl (fun x3 e_x3 => ?_)
  have hm := bnd_e hm e_x3
  refine lv_lstore_n (lv' := [(3, .long x3), (0, .ref (ad 0)), (1, .int p1), (2, .int p2)]) hx hb dX2_guessBy_9 rfl hl (by decide) rfl (fun ls hl => ?_)
  refine lv_lload_n hx hb dX2_guessBy_10 rfl (lv_at hl 0 rfl) ?_
  refine lv_lconst (v := 1) hx hb dX2_guessBy_11 (by decide) ?_
  refine W.lcmp hx hb dX2_guessBy_12 ?_
  refine lv_if_ge (tgt := 20) hx hb dX2_guessBy_13 (by decide) (fun c_13 => ?_) (fun c_13 => ?_)
  · have c_13 : 1 ≤ x3 := (lg_cmp_ge _ _).mp c_13
    have hm := it_t hm c_13
    refine lv_iload_n hx hb dX2_guessBy_20 rfl (lv_at hl 3 rfl) ?_
    refine lv_i2l hx hb dX2_guessBy_21 rfl ?_
    refine lv_aload_n hx hb dX2_guessBy_22 rfl (lv_at hl 1 rfl) ?_
    refine lv_iload_n hx hb dX2_guessBy_23 rfl (lv_at hl 2 rfl) ?_
    obtain ⟨r24, h_24, hm⟩ := ob hm
    refine z_callRi (As := [.int p1]) (rest := [.long (Int32.toInt64 p2)]) (ci := 2) (q := (RX2, TX2, 15)) ⟨hx, hb, hml, hown, hts⟩ (c_X2_firstOf l dC dI cI ad zk zm zb zs zr zu zt zf zg zbd zro zmc zmg zsp zjn F p1 r24 h_24) (cwV 1 hts gX2_guessBy_X2_firstOf rfl rfl rfl kv_X2_firstOf ⟨Nat.le_of_ble_eq_true rfl, Nat.le_of_ble_eq_true rfl⟩) hK hP rfl rfl rfl rfl hl.1 rfl (Nat.le_of_ble_eq_true rfl) dX2_guessBy_24 ⟨Nat.zero_le _, Nat.zero_le _⟩ ?_
    refine lv_i2l hx hb dX2_guessBy_27 rfl ?_
    refine lv_lsub hx hb dX2_guessBy_28 ?_
    refine lv_topl (fun x5 e_x5 => ?_)
    have hm := bnd_e hm e_x5
    refine lv_lstore (lv' := [(5, .long x5), (3, .long x3), (0, .ref (ad 0)), (1, .int p1), (2, .int p2)]) hx hb dX2_guessBy_29 hl (by decide) rfl (fun ls hl => ?_)
    refine lv_aload_n hx hb dX2_guessBy_31 rfl (lv_at hl 2 rfl) ?_
    refine va_get (D := (dC, dI)) (ci := 2) (v := .ref (ad 7)) (C := RX2) (T := TX2) (N := 15) hx hb hts ziX2 hown hK hP 0 rfl rfl 3 (by decide) zw1 (fun _ h9 => h9) rfl dX2_guessBy_32 ?_
    refine lv_iload_n hx hb dX2_guessBy_35 rfl (lv_at hl 3 rfl) ?_
    obtain ⟨r36, h_36, hm⟩ := ob hm
    refine z_callRi (As := [.int p1]) (rest := []) (ci := 0) (q := (RX0, TX0, 2)) ⟨hx, hb, hml, hown, hts⟩ (c_X0_at l dC dI cI (ad 7) (ad 8) 256 zs F p1 r36 h_36) (cwV 1 hts gX2_guessBy_X0_at rfl rfl rfl kv_X0_at ⟨Nat.le_of_ble_eq_true rfl, Nat.le_of_ble_eq_true rfl⟩) hK (z_mid (pjL_zs cI ad zk zm zb zs zr zu zt zf zg zbd zro zmc zmg zsp zjn zs) hP) rfl rfl rfl rfl hl.1 rfl (Nat.le_of_ble_eq_true rfl) dX2_guessBy_36 ⟨Nat.zero_le _, Nat.zero_le _⟩ ?_
    refine lv_i2l hx hb dX2_guessBy_39 rfl ?_
    refine lv_aload_n hx hb dX2_guessBy_40 rfl (lv_at hl 2 rfl) ?_
    refine va_get (D := (dC, dI)) (ci := 2) (v := .ref (ad 9)) (C := RX2) (T := TX2) (N := 15) hx hb hts ziX2 hown hK hP 0 rfl rfl 4 (by decide) zw2 (fun _ h9 => h9) rfl dX2_guessBy_41 ?_
    refine lv_iload_n hx hb dX2_guessBy_44 rfl (lv_at hl 3 rfl) ?_
    obtain ⟨r45, h_45, hm⟩ := ob hm
    refine z_callRi (As := [.int p1]) (rest := [.long (Int32.toInt64 r36)]) (ci := 0) (q := (RX0, TX0, 2)) ⟨hx, hb, hml, hown, hts⟩ (c_X0_at l dC dI cI (ad 9) (ad 10) 256 zr F p1 r45 h_45) (cwV 1 hts gX2_guessBy_X0_at rfl rfl rfl kv_X0_at ⟨Nat.le_of_ble_eq_true rfl, Nat.le_of_ble_eq_true rfl⟩) hK (z_mid (pjL_zr cI ad zk zm zb zs zr zu zt zf zg zbd zro zmc zmg zsp zjn zr) hP) rfl rfl rfl rfl hl.1 rfl (Nat.le_of_ble_eq_true rfl) dX2_guessBy_45 ⟨Nat.zero_le _, Nat.zero_le _⟩ ?_
    refine lv_i2l hx hb dX2_guessBy_48 rfl ?_
    refine lv_lload hx hb dX2_guessBy_49 (lv_at hl 0 rfl) ?_
    refine lv_lmul hx hb dX2_guessBy_51 ?_
    refine lv_lload_n hx hb dX2_guessBy_52 rfl (lv_at hl 1 rfl) ?_
    obtain ⟨r53, h_53, hm⟩ := ob hm
    refine z_callSl (As := [.long ((Int32.toInt64 r45) * x5), .long x3]) (rest := [.long (Int32.toInt64 r36)]) ⟨hx, hb, hml, hown, hts⟩ (c_J9_floorDiv_f86c9 l dC dI F ((Int32.toInt64 r45) * x5) x3 r53 h_53) (va_cwS 2 hts gX2_guessBy_J9_floorDiv_f86c9 rfl rfl rfl ks_J9_floorDiv_f86c9 ⟨Nat.le_of_ble_eq_true rfl, Nat.le_of_ble_eq_true rfl⟩) (hK.sub (tys' := []) [] rfl) z_P0 rfl hl.1 rfl (Nat.le_of_ble_eq_true rfl) dX2_guessBy_53 ⟨Nat.zero_le _, Nat.zero_le _⟩ ?_
    refine lv_ladd hx hb dX2_guessBy_56 ?_
    exact W.lret hx hb hr (fun t ht hW => ⟨_, rfl, (o2 hm).symm, ht⟩) (fun q h => absurd h List.not_mem_nil) dX2_guessBy_57
  · have c_13 : ¬ (1 ≤ x3) := fun h => c_13 ((lg_cmp_ge _ _).mpr h)
    have hm := it_f hm c_13
    refine lv_ldc2 hx hb hown zw3 dX2_guessBy_16 ?_
    exact W.lret hx hb hr (fun t ht hW => ⟨_, rfl, (o2 hm).symm, ht⟩) (fun q h => absurd h List.not_mem_nil) dX2_guessBy_19
set_option maxHeartbeats 4000000 in
set_option maxRecDepth 100000 in
theorem c_X2_guess (l : Launch) (dC : Nat → ClassId) (dI : Nat → Nat → Nat) (cI : ClassId) (ad : Nat → Nat) (zk : zN) (zm : zN) (zb : zN) (zs : zN) (zr : zN) (zu : zN) (zt : zT) (zf : zN) (zg : zN) (zbd : Int32) (zro : Int32) (zmc : Int32) (zmg : Int32) (zsp : Int32) (zjn : Int32) (F : Nat) (p1 : Int32) (sz : Nat) (sa : Nat → Nat) (hl9 : l.stackTraces = false) (z : Nat ⊕ Int64) (hm : X2_guess F zk zs zr zu p1 = some z) : vx_Met l yX2_guess wsX2_guess ({ frames := 7, cells := 1, slots := 6, locals := 111 }) (va_Pc [.ref (ad 0), .int p1] (zX (dC, dI) (wL cI ad zk zm zb zs zr zu zt zf zg zbd zro zmc zmg zsp zjn) [(cI, .int)] sz sa)) (zXl (dC, dI) (fun (u_ : Unit) => (wL cI ad zk zm zb zs zr zu zt zf zg zbd zro zmc zmg zsp zjn)) [(cI, .int)] (va_A (wL cI ad zk zm zb zs zr zu zt zf zg zbd zro zmc zmg zsp zjn) sz) (fun r_ _ => z = Sum.inr r_)) (zXC (dC, dI) (wL cI ad zk zm zb zs zr zu zt zf zg zbd zro zmc zmg zsp zjn) [(cI, .int)] (va_A (wL cI ad zk zm zb zs zr zu zt zf zg zbd zro zmc zmg zsp zjn) sz) z) 1 6 (va_A (wL cI ad zk zm zb zs zr zu zt zf zg zbd zro zmc zmg zsp zjn) sz) := by
  refine vx_ofW (cc := cX2_guess) (maxL := 2) (ret := (some .long)) (by decide) rfl ?_
  intro p e s m args below meth c s₁ B hml hnx hv
  obtain ⟨rfl, ⟨hsz, hP, hK, hD0⟩, hV⟩ := hv
  have hx := B.exec
  have hb := B.bytes
  have hr := B.returns
  have hts := atoms_spec (ws := wsX2_guess) B.pre
  have hown : s.vm.findClass RX2 = some m.cls := findClass_of_methodNamed B.named
  have hlocks := B.notSynchronized
  subst hsz
  have hD := hD0.self (sz := s.heap.size)
  generalize hAe : va_A (wL cI ad zk zm zb zs zr zu zt zf zg zbd zro zmc zmg zsp zjn) s.heap.size = A at hD hV ⊢
  have hA : ∀ q : Nat, s.heap.size ≤ q → A q := fun q h => by rw [← hAe]; exact Or.inr h
  have hS : va_S A s.heap s.heap [] := va_S.rf
  generalize eL : ([] : List Loc) = locs at hS ⊢
  obtain ⟨H, eH⟩ : ∃ z : Heap, z = s.heap := ⟨_, rfl⟩
  have hP : va_P (dC, dI) vwCl (wL cI ad zk zm zb zs zr zu zt zf zg zbd zro zmc zmg zsp zjn) H := by rw [eH]; exact hP
  have hS : va_S A s.heap H locs := by rw [eH]; exact hS
  refine z_heap eH ?_
  have hl := lv_entry ([.ref (ad 0), .int p1]) (n := 2) (Nat.le_of_ble_eq_true rfl)
  rw [lg_entry_eq]
  generalize (lg_sl ([.ref (ad 0), .int p1]) ++ List.replicate (2 - (lg_sl ([.ref (ad 0), .int p1])).length) Slot.unset).toArray = ls at hl ⊢
  have hl : lv_has ls 2 [(0, .ref (ad 0)), (1, .int p1)] := hl
  refine lv_iload_n hx hb dX2_guess_0 rfl (lv_at hl 1 rfl) ?_
  refine lv_i2l hx hb dX2_guess_1 rfl ?_
  obtain ⟨z_2, h_2, hm⟩ := ob hm
  refine z_xSv (U := Unit) (w1 := fun u_ => []) (ws' := fun u_ => (wL cI ad zk zm zb zs zr zu zt zf zg zbd zro zmc zmg zsp zjn)) (As := [.long (Int32.toInt64 p1)]) (rest := []) (wc := []) (ws := (wL cI ad zk zm zb zs zr zu zt zf zg zbd zro zmc zmg zsp zjn)) ⟨hx, hb, hml, hown, hts⟩ (c_X2_needKey l dC dI F (Int32.toInt64 p1) H.size sa hl9 z_2 h_2) (va_cwS 1 hts gX2_guess_X2_needKey rfl rfl rfl ks_X2_needKey ⟨(Nat.le_of_ble_eq_true rfl), (Nat.le_of_ble_eq_true rfl)⟩) hV (hK.sub (tys' := []) [] rfl) hP hD hS hA (z_sp0 (wL cI ad zk zm zb zs zr zu zt zf zg zbd zro zmc zmg zsp zjn)) (fun u_ => (z_sp0 (wL cI ad zk zm zb zs zr zu zt zf zg zbd zro zmc zmg zsp zjn))) (fun u_ => rfl) rfl hl.1 rfl (Nat.le_of_ble_eq_true rfl) dX2_guess_2 ⟨(Nat.le_of_ble_eq_true rfl), (Nat.le_of_ble_eq_true rfl)⟩ (fun k ce q9 H locs ez hP hS hce hcv hcl => ?_) (fun u_2 H locs hw hP hD hS => ?_)
  · rw [ez] at hm
    exact vx_out (fun x hx => (hnx x hx).elim) hlocks hce hcv hcl (z_xc (o2 hm) hP hK hD hS) hS.2.2 (Nat.le_of_ble_eq_true rfl) (Nat.le_of_ble_eq_true rfl)
  · rw [hw] at hm
    have hP : va_P (dC, dI) vwCl (wL cI ad zk zm zb zs zr zu zt zf zg zbd zro zmc zmg zsp zjn) H := hP
    have hD : va_D A (wL cI ad zk zm zb zs zr zu zt zf zg zbd zro zmc zmg zsp zjn) := hD
    refine lv_aload_n hx hb dX2_guess_5 rfl (lv_at hl 0 rfl) ?_
    refine lv_aload_n hx hb dX2_guess_6 rfl (lv_at hl 0 rfl) ?_
    refine lv_iload_n hx hb dX2_guess_7 rfl (lv_at hl 1 rfl) ?_
    obtain ⟨r8, h_8, hm⟩ := ob hm
    refine z_callRi (As := [.int p1]) (rest := [.ref (ad 0)]) (ci := 2) (q := (RX2, TX2, 15)) ⟨hx, hb, hml, hown, hts⟩ (c_X2_pieceOf l dC dI cI ad zk zm zb zs zr zu zt zf zg zbd zro zmc zmg zsp zjn F p1 r8 h_8) (cwV 1 hts gX2_guess_X2_pieceOf rfl rfl rfl kv_X2_pieceOf ⟨Nat.le_of_ble_eq_true rfl, Nat.le_of_ble_eq_true rfl⟩) hK hP rfl rfl rfl rfl hl.1 rfl (Nat.le_of_ble_eq_true rfl) dX2_guess_8 ⟨Nat.le_of_ble_eq_true rfl, Nat.le_of_ble_eq_true rfl⟩ ?_
    refine lv_iload_n hx hb dX2_guess_11 rfl (lv_at hl 1 rfl) ?_
    obtain ⟨r12, h_12, hm⟩ := ob hm
    refine z_callRl (As := [.int r8, .int p1]) (rest := []) (ci := 2) (q := (RX2, TX2, 15)) ⟨hx, hb, hml, hown, hts⟩ (c_X2_guessBy l dC dI cI ad zk zm zb zs zr zu zt zf zg zbd zro zmc zmg zsp zjn F r8 p1 r12 h_12) (cwV 2 hts gX2_guess_X2_guessBy rfl rfl rfl kv_X2_guessBy ⟨Nat.le_of_ble_eq_true rfl, Nat.le_of_ble_eq_true rfl⟩) hK hP rfl rfl rfl rfl hl.1 rfl (Nat.le_of_ble_eq_true rfl) dX2_guess_12 ⟨Nat.le_of_ble_eq_true rfl, Nat.le_of_ble_eq_true rfl⟩ ?_
    refine vx_ret (W.widen (k := 1) (n := 6) (Nat.le_of_ble_eq_true rfl) (Nat.le_of_ble_eq_true rfl) ?_)
    exact W.lret hx hb hr (fun t ht hW => ⟨⟨_, (), rfl, o2 hm, by rw [ht]; exact hP, va_K.moved hW.alike hK, hD⟩, hS.F ht⟩) hS.2.2 dX2_guess_15
