set_option maxHeartbeats 4000000 in
set_option maxRecDepth 100000 in
theorem c_X2_clearPieces (l : Launch) (dC : Nat → ClassId) (dI : Nat → Nat → Nat) (cI : ClassId) (ad : Nat → Nat) (zk : zN) (zm : zN) (zb : zN) (zs : zN) (zr : zN) (zu : zN) (zt : zT) (zf : zN) (zg : zN) (zbd : Int32) (zro : Int32) (zmc : Int32) (zmg : Int32) (zsp : Int32) (zjn : Int32) (F : Nat) (sz : Nat) (u_zs : zN) (u_zr : zN) (u_zu : zN) (hm : X2_clearPieces F zs zr zu = some (u_zs, u_zr, u_zu)) : Met l yX2_clearPieces wsX2_clearPieces ({ frames := 1, cells := 0, slots := 0, locals := 20 }) (va_Pc [.ref (ad 0)] (zW (dC, dI) (wL cI ad zk zm zb zs zr zu zt zf zg zbd zro zmc zmg zsp zjn) [(cI, .int)] sz)) (zQv (dC, dI) (wL cI ad zk zm zb u_zs u_zr u_zu zt zf zg zbd zro zmc zmg zsp zjn) [(cI, .int)] (va_A (wL cI ad zk zm zb zs zr zu zt zf zg zbd zro zmc zmg zsp zjn) sz)) 0 0 (va_A (wL cI ad zk zm zb zs zr zu zt zf zg zbd zro zmc zmg zsp zjn) sz) := by
  refine Met.ofW (cc := cX2_clearPieces) (maxL := 1) (ret := none) (by decide) rfl ?_
  intro p e s m args below meth c s₁ B hml hv
  obtain ⟨rfl, hsz, hP, hK, hD0⟩ := hv
  have hx := B.exec
  have hb := B.bytes
  have hr := B.returns
  have hts := atoms_spec (ws := wsX2_clearPieces) B.pre
  have hown : s.vm.findClass RX2 = some m.cls := findClass_of_methodNamed B.named
  have hlocks := B.notSynchronized
  subst hsz
  have hD := hD0.self (sz := s.heap.size)
  generalize hAe : va_A (wL cI ad zk zm zb zs zr zu zt zf zg zbd zro zmc zmg zsp zjn) s.heap.size = A at hD ⊢
  have hA : ∀ q : Nat, s.heap.size ≤ q → A q := fun q h => by rw [← hAe]; exact Or.inr h
  have hS : va_S A s.heap s.heap [] := va_S.rf
  generalize eL : ([] : List Loc) = locs at hS ⊢
  obtain ⟨H, eH⟩ : ∃ z : Heap, z = s.heap := ⟨_, rfl⟩
  have hP : va_P (dC, dI) vwCl (wL cI ad zk zm zb zs zr zu zt zf zg zbd zro zmc zmg zsp zjn) H := by rw [eH]; exact hP
  have hS : va_S A s.heap H locs := by rw [eH]; exact hS
  refine z_heap eH ?_
  have hl := lv_entry ([.ref (ad 0)]) (n := 1) (Nat.le_of_ble_eq_true rfl)
  rw [lg_entry_eq]
  generalize (lg_sl ([.ref (ad 0)]) ++ List.replicate (1 - (lg_sl ([.ref (ad 0)])).length) Slot.unset).toArray = ls at hl ⊢
  have hl : lv_has ls 1 [(0, .ref (ad 0))] := hl
  have zw0 := hts (.fieldLink RX2 24 "LearnedLedge" "starts" "LLearnedLedge$Numbers;") (List.mem_cons_of_mem _ (List.mem_append_left _ (List.mem_append_left _ (List.mem_of_getElem? (i := 0) rfl))))
  have zw1 := hts (.fieldLink RX2 27 "LearnedLedge" "rises" "LLearnedLedge$Numbers;") (List.mem_cons_of_mem _ (List.mem_append_left _ (List.mem_append_left _ (List.mem_of_getElem? (i := 1) rfl))))
  have zw2 := hts (.fieldLink RX2 30 "LearnedLedge" "runs" "LLearnedLedge$Numbers;") (List.mem_cons_of_mem _ (List.mem_append_left _ (List.mem_append_left _ (List.mem_of_getElem? (i := 2) rfl))))
  have ziX2 : ∀ w ∈ u_ws RX2 TX2 15, w ∈ wsX2_clearPieces := (fun _ h9 => (List.mem_cons_of_mem _ (List.mem_append_left _ (List.mem_append_right _ h9))))
  refine lv_aload_n hx hb dX2_clearPieces_0 rfl (lv_at hl 0 rfl) ?_
  refine va_get (D := (dC, dI)) (ci := 2) (v := .ref (ad 7)) (C := RX2) (T := TX2) (N := 15) hx hb hts ziX2 hown hK hP 0 rfl rfl 3 (by decide) zw0 (fun _ h9 => h9) rfl dX2_clearPieces_1 ?_
  obtain ⟨zs4, h_4, hm⟩ := ob hm
  refine z_callWv (wc := (wN cI (ad 7) (ad 8) 256 zs)) (w1 := (wN cI (ad 7) (ad 8) 256 zs4)) (ws := (wL cI ad zk zm zb zs zr zu zt zf zg zbd zro zmc zmg zsp zjn)) (ws' := (wL cI ad zk zm zb zs4 zr zu zt zf zg zbd zro zmc zmg zsp zjn)) (As := []) (rest := []) (ci := 0) (q := (RX0, TX0, 2)) ⟨hx, hb, hml, hown, hts⟩ (c_X0_clear l dC dI cI (ad 7) (ad 8) 256 zs F H.size zs4 h_4) (cwV 0 hts gX2_clearPieces_X0_clear rfl rfl rfl kv_X0_clear ⟨Nat.le_of_ble_eq_true rfl, Nat.le_of_ble_eq_true rfl⟩) hK hP hD hS hA (pjL_zs cI ad zk zm zb zs zr zu zt zf zg zbd zro zmc zmg zsp zjn zs4) ((paN cI (ad 7) (ad 8) 256 zs4).trans (paN cI (ad 7) (ad 8) 256 zs).symm) rfl rfl rfl rfl hl.1 rfl (Nat.le_of_ble_eq_true rfl) dX2_clearPieces_4 ⟨Nat.zero_le _, Nat.zero_le _⟩ (fun H locs hP hD hS => ?_)
  refine lv_aload_n hx hb dX2_clearPieces_7 rfl (lv_at hl 0 rfl) ?_
  refine va_get (D := (dC, dI)) (ci := 2) (v := .ref (ad 9)) (C := RX2) (T := TX2) (N := 15) hx hb hts ziX2 hown hK hP 0 rfl rfl 4 (by decide) zw1 (fun _ h9 => h9) rfl dX2_clearPieces_8 ?_
  obtain ⟨zr11, h_11, hm⟩ := ob hm
  refine z_callWv (wc := (wN cI (ad 9) (ad 10) 256 zr)) (w1 := (wN cI (ad 9) (ad 10) 256 zr11)) (ws := (wL cI ad zk zm zb zs4 zr zu zt zf zg zbd zro zmc zmg zsp zjn)) (ws' := (wL cI ad zk zm zb zs4 zr11 zu zt zf zg zbd zro zmc zmg zsp zjn)) (As := []) (rest := []) (ci := 0) (q := (RX0, TX0, 2)) ⟨hx, hb, hml, hown, hts⟩ (c_X0_clear l dC dI cI (ad 9) (ad 10) 256 zr F H.size zr11 h_11) (cwV 0 hts gX2_clearPieces_X0_clear rfl rfl rfl kv_X0_clear ⟨Nat.le_of_ble_eq_true rfl, Nat.le_of_ble_eq_true rfl⟩) hK hP hD hS hA (pjL_zr cI ad zk zm zb zs4 zr zu zt zf zg zbd zro zmc zmg zsp zjn zr11) ((paN cI (ad 9) (ad 10) 256 zr11).trans (paN cI (ad 9) (ad 10) 256 zr).symm) rfl rfl rfl rfl hl.1 rfl (Nat.le_of_ble_eq_true rfl) dX2_clearPieces_11 ⟨Nat.zero_le _, Nat.zero_le _⟩ (fun H locs hP hD hS => ?_)
  refine lv_aload_n hx hb dX2_clearPieces_14 rfl (lv_at hl 0 rfl) ?_
  refine va_get (D := (dC, dI)) (ci := 2) (v := .ref (ad 11)) (C := RX2) (T := TX2) (N := 15) hx hb hts ziX2 hown hK hP 0 rfl rfl 5 (by decide) zw2 (fun _ h9 => h9) rfl dX2_clearPieces_15 ?_
  obtain ⟨zu18, h_18, hm⟩ := ob hm
  refine z_callWv (wc := (wN cI (ad 11) (ad 12) 256 zu)) (w1 := (wN cI (ad 11) (ad 12) 256 zu18)) (ws := (wL cI ad zk zm zb zs4 zr11 zu zt zf zg zbd zro zmc zmg zsp zjn)) (ws' := (wL cI ad zk zm zb zs4 zr11 zu18 zt zf zg zbd zro zmc zmg zsp zjn)) (As := []) (rest := []) (ci := 0) (q := (RX0, TX0, 2)) ⟨hx, hb, hml, hown, hts⟩ (c_X0_clear l dC dI cI (ad 11) (ad 12) 256 zu F H.size zu18 h_18) (cwV 0 hts gX2_clearPieces_X0_clear rfl rfl rfl kv_X0_clear ⟨Nat.le_of_ble_eq_true rfl, Nat.le_of_ble_eq_true rfl⟩) hK hP hD hS hA (pjL_zu cI ad zk zm zb zs4 zr11 zu zt zf zg zbd zro zmc zmg zsp zjn zu18) ((paN cI (ad 11) (ad 12) 256 zu18).trans (paN cI (ad 11) (ad 12) 256 zu).symm) rfl rfl rfl rfl hl.1 rfl (Nat.le_of_ble_eq_true rfl) dX2_clearPieces_18 ⟨Nat.zero_le _, Nat.zero_le _⟩ (fun H locs hP hD hS => ?_)
  cases o2 hm
  exact W.vret hx hb hr (fun t ht hW => ⟨⟨(), rfl, trivial, by rw [ht]; exact hP, va_K.moved hW.alike hK, hD⟩, hS.F ht⟩) hS.2.2 dX2_clearPieces_21
set_option maxHeartbeats 4000000 in
set_option maxRecDepth 100000 in
theorem c_X2_clearRow (l : Launch) (dC : Nat → ClassId) (dI : Nat → Nat → Nat) (cI : ClassId) (ad : Nat → Nat) (zk : zN) (zm : zN) (zb : zN) (zs : zN) (zr : zN) (zu : zN) (zt : zT) (zf : zN) (zg : zN) (zbd : Int32) (zro : Int32) (zmc : Int32) (zmg : Int32) (zsp : Int32) (zjn : Int32) (F : Nat) (sz : Nat) (u_zk : zN) (u_zm : zN) (u_zb : zN) (u_zs : zN) (u_zr : zN) (u_zu : zN) (u_zmc : Int32) (hm : X2_clearRow F zk zm zb zs zr zu zmc = some (u_zk, u_zm, u_zb, u_zs, u_zr, u_zu, u_zmc)) : Met l yX2_clearRow wsX2_clearRow ({ frames := 2, cells := 0, slots := 0, locals := 40 }) (va_Pc [.ref (ad 0)] (zW (dC, dI) (wL cI ad zk zm zb zs zr zu zt zf zg zbd zro zmc zmg zsp zjn) [(cI, .int)] sz)) (zQv (dC, dI) (wL cI ad u_zk u_zm u_zb u_zs u_zr u_zu zt zf zg zbd zro u_zmc zmg zsp zjn) [(cI, .int)] (va_A (wL cI ad zk zm zb zs zr zu zt zf zg zbd zro zmc zmg zsp zjn) sz)) 0 0 (va_A (wL cI ad zk zm zb zs zr zu zt zf zg zbd zro zmc zmg zsp zjn) sz) := by
  refine Met.ofW (cc := cX2_clearRow) (maxL := 1) (ret := none) (by decide) rfl ?_
  intro p e s m args below meth c s₁ B hml hv
  obtain ⟨rfl, hsz, hP, hK, hD0⟩ := hv
  have hx := B.exec
  have hb := B.bytes
  have hr := B.returns
  have hts := atoms_spec (ws := wsX2_clearRow) B.pre
  have hown : s.vm.findClass RX2 = some m.cls := findClass_of_methodNamed B.named
  have hlocks := B.notSynchronized
  subst hsz
  have hD := hD0.self (sz := s.heap.size)
  generalize hAe : va_A (wL cI ad zk zm zb zs zr zu zt zf zg zbd zro zmc zmg zsp zjn) s.heap.size = A at hD ⊢
  have hA : ∀ q : Nat, s.heap.size ≤ q → A q := fun q h => by rw [← hAe]; exact Or.inr h
  have hS : va_S A s.heap s.heap [] := va_S.rf
  generalize eL : ([] : List Loc) = locs at hS ⊢
  obtain ⟨H, eH⟩ : ∃ z : Heap, z = s.heap := ⟨_, rfl⟩
  have hP : va_P (dC, dI) vwCl (wL cI ad zk zm zb zs zr zu zt zf zg zbd zro zmc zmg zsp zjn) H := by rw [eH]; exact hP
  have hS : va_S A s.heap H locs := by rw [eH]; exact hS
  refine z_heap eH ?_
  have hl := lv_entry ([.ref (ad 0)]) (n := 1) (Nat.le_of_ble_eq_true rfl)
  rw [lg_entry_eq]
  generalize (lg_sl ([.ref (ad 0)]) ++ List.replicate (1 - (lg_sl ([.ref (ad 0)])).length) Slot.unset).toArray = ls at hl ⊢
  have hl : lv_has ls 1 [(0, .ref (ad 0))] := hl
  have zw0 := hts (.fieldLink RX2 14 "LearnedLedge" "keys" "LLearnedLedge$Numbers;") (List.mem_cons_of_mem _ (List.mem_append_left _ (List.mem_append_left _ (List.mem_of_getElem? (i := 0) rfl))))
  have zw1 := hts (.fieldLink RX2 18 "LearnedLedge" "marks" "LLearnedLedge$Numbers;") (List.mem_cons_of_mem _ (List.mem_append_left _ (List.mem_append_left _ (List.mem_of_getElem? (i := 1) rfl))))
  have zw2 := hts (.fieldLink RX2 53 "LearnedLedge" "markCount" "I") (List.mem_cons_of_mem _ (List.mem_append_left _ (List.mem_append_left _ (List.mem_of_getElem? (i := 2) rfl))))
  have zw3 := hts (.fieldLink RX2 21 "LearnedLedge" "buffer" "LLearnedLedge$Numbers;") (List.mem_cons_of_mem _ (List.mem_append_left _ (List.mem_append_left _ (List.mem_of_getElem? (i := 3) rfl))))
  have ziX2 : ∀ w ∈ u_ws RX2 TX2 15, w ∈ wsX2_clearRow := (fun _ h9 => (List.mem_cons_of_mem _ (List.mem_append_left _ (List.mem_append_right _ h9))))
  refine lv_aload_n hx hb dX2_clearRow_0 rfl (lv_at hl 0 rfl) ?_
  refine va_get (D := (dC, dI)) (ci := 2) (v := .ref (ad 1)) (C := RX2) (T := TX2) (N := 15) hx hb hts ziX2 hown hK hP 0 rfl rfl 0 (by decide) zw0 (fun _ h9 => h9) rfl dX2_clearRow_1 ?_
  obtain ⟨zk4, h_4, hm⟩ := ob hm
  refine z_callWv (wc := (wN cI (ad 1) (ad 2) 256 zk)) (w1 := (wN cI (ad 1) (ad 2) 256 zk4)) (ws := (wL cI ad zk zm zb zs zr zu zt zf zg zbd zro zmc zmg zsp zjn)) (ws' := (wL cI ad zk4 zm zb zs zr zu zt zf zg zbd zro zmc zmg zsp zjn)) (As := []) (rest := []) (ci := 0) (q := (RX0, TX0, 2)) ⟨hx, hb, hml, hown, hts⟩ (c_X0_clear l dC dI cI (ad 1) (ad 2) 256 zk F H.size zk4 h_4) (cwV 0 hts gX2_clearRow_X0_clear rfl rfl rfl kv_X0_clear ⟨Nat.le_of_ble_eq_true rfl, Nat.le_of_ble_eq_true rfl⟩) hK hP hD hS hA (pjL_zk cI ad zk zm zb zs zr zu zt zf zg zbd zro zmc zmg zsp zjn zk4) ((paN cI (ad 1) (ad 2) 256 zk4).trans (paN cI (ad 1) (ad 2) 256 zk).symm) rfl rfl rfl rfl hl.1 rfl (Nat.le_of_ble_eq_true rfl) dX2_clearRow_4 ⟨Nat.zero_le _, Nat.zero_le _⟩ (fun H locs hP hD hS => ?_)
  refine lv_aload_n hx hb dX2_clearRow_7 rfl (lv_at hl 0 rfl) ?_
  refine va_get (D := (dC, dI)) (ci := 2) (v := .ref (ad 3)) (C := RX2) (T := TX2) (N := 15) hx hb hts ziX2 hown hK hP 0 rfl rfl 1 (by decide) zw1 (fun _ h9 => h9) rfl dX2_clearRow_8 ?_
  obtain ⟨zm11, h_11, hm⟩ := ob hm
  refine z_callWv (wc := (wN cI (ad 3) (ad 4) 256 zm)) (w1 := (wN cI (ad 3) (ad 4) 256 zm11)) (ws := (wL cI ad zk4 zm zb zs zr zu zt zf zg zbd zro zmc zmg zsp zjn)) (ws' := (wL cI ad zk4 zm11 zb zs zr zu zt zf zg zbd zro zmc zmg zsp zjn)) (As := []) (rest := []) (ci := 0) (q := (RX0, TX0, 2)) ⟨hx, hb, hml, hown, hts⟩ (c_X0_clear l dC dI cI (ad 3) (ad 4) 256 zm F H.size zm11 h_11) (cwV 0 hts gX2_clearRow_X0_clear rfl rfl rfl kv_X0_clear ⟨Nat.le_of_ble_eq_true rfl, Nat.le_of_ble_eq_true rfl⟩) hK hP hD hS hA (pjL_zm cI ad zk4 zm zb zs zr zu zt zf zg zbd zro zmc zmg zsp zjn zm11) ((paN cI (ad 3) (ad 4) 256 zm11).trans (paN cI (ad 3) (ad 4) 256 zm).symm) rfl rfl rfl rfl hl.1 rfl (Nat.le_of_ble_eq_true rfl) dX2_clearRow_11 ⟨Nat.zero_le _, Nat.zero_le _⟩ (fun H locs hP hD hS => ?_)
  refine lv_aload_n hx hb dX2_clearRow_14 rfl (lv_at hl 0 rfl) ?_
  refine lv_iconst (v := 0) hx hb dX2_clearRow_15 (by decide) ?_
  refine va_put (D := (dC, dI)) (ci := 2) (v := .int 0) (ty := .int) (C := RX2) (T := TX2) (N := 15) hx hb hts ziX2 tyX2 tyX2_ok nmX2 hown hK hP hD hS 0 rfl rfl 11 (by decide) zw2 (fun _ h9 => h9) rfl (by decide +kernel) rfl rfl (Nat.le_of_ble_eq_true rfl) dX2_clearRow_16 (fun H locs hP hD hS => ?_)
  have hP : va_P (dC, dI) vwCl (wL cI ad zk4 zm11 zb zs zr zu zt zf zg zbd zro 0 zmg zsp zjn) H := hP
  have hD : va_D A (wL cI ad zk4 zm11 zb zs zr zu zt zf zg zbd zro 0 zmg zsp zjn) := hD
  refine lv_aload_n hx hb dX2_clearRow_19 rfl (lv_at hl 0 rfl) ?_
  refine va_get (D := (dC, dI)) (ci := 2) (v := .ref (ad 5)) (C := RX2) (T := TX2) (N := 15) hx hb hts ziX2 hown hK hP 0 rfl rfl 2 (by decide) zw3 (fun _ h9 => h9) rfl dX2_clearRow_20 ?_
  obtain ⟨zb23, h_23, hm⟩ := ob hm
  refine z_callWv (wc := (wN cI (ad 5) (ad 6) 16 zb)) (w1 := (wN cI (ad 5) (ad 6) 16 zb23)) (ws := (wL cI ad zk4 zm11 zb zs zr zu zt zf zg zbd zro 0 zmg zsp zjn)) (ws' := (wL cI ad zk4 zm11 zb23 zs zr zu zt zf zg zbd zro 0 zmg zsp zjn)) (As := []) (rest := []) (ci := 0) (q := (RX0, TX0, 2)) ⟨hx, hb, hml, hown, hts⟩ (c_X0_clear l dC dI cI (ad 5) (ad 6) 16 zb F H.size zb23 h_23) (cwV 0 hts gX2_clearRow_X0_clear rfl rfl rfl kv_X0_clear ⟨Nat.le_of_ble_eq_true rfl, Nat.le_of_ble_eq_true rfl⟩) hK hP hD hS hA (pjL_zb cI ad zk4 zm11 zb zs zr zu zt zf zg zbd zro 0 zmg zsp zjn zb23) ((paN cI (ad 5) (ad 6) 16 zb23).trans (paN cI (ad 5) (ad 6) 16 zb).symm) rfl rfl rfl rfl hl.1 rfl (Nat.le_of_ble_eq_true rfl) dX2_clearRow_23 ⟨Nat.zero_le _, Nat.zero_le _⟩ (fun H locs hP hD hS => ?_)
  refine lv_aload_n hx hb dX2_clearRow_26 rfl (lv_at hl 0 rfl) ?_
  obtain ⟨⟨zs27, zr27, zu27⟩, h_27, hm⟩ := ob hm
  refine z_callWv (wc := (wL cI ad zk4 zm11 zb23 zs zr zu zt zf zg zbd zro 0 zmg zsp zjn)) (w1 := (wL cI ad zk4 zm11 zb23 zs27 zr27 zu27 zt zf zg zbd zro 0 zmg zsp zjn)) (ws := (wL cI ad zk4 zm11 zb23 zs zr zu zt zf zg zbd zro 0 zmg zsp zjn)) (ws' := (wL cI ad zk4 zm11 zb23 zs27 zr27 zu27 zt zf zg zbd zro 0 zmg zsp zjn)) (As := []) (rest := []) (ci := 2) (q := (RX2, TX2, 15)) ⟨hx, hb, hml, hown, hts⟩ (c_X2_clearPieces l dC dI cI ad zk4 zm11 zb23 zs zr zu zt zf zg zbd zro 0 zmg zsp zjn F H.size zs27 zr27 zu27 h_27) (cwV 0 hts gX2_clearRow_X2_clearPieces rfl rfl rfl kv_X2_clearPieces ⟨Nat.le_of_ble_eq_true rfl, Nat.le_of_ble_eq_true rfl⟩) hK hP hD hS hA (z_spAll (wL cI ad zk4 zm11 zb23 zs zr zu zt zf zg zbd zro 0 zmg zsp zjn) (wL cI ad zk4 zm11 zb23 zs27 zr27 zu27 zt zf zg zbd zro 0 zmg zsp zjn)) ((paL cI ad zk4 zm11 zb23 zs27 zr27 zu27 zt zf zg zbd zro 0 zmg zsp zjn).trans (paL cI ad zk4 zm11 zb23 zs zr zu zt zf zg zbd zro 0 zmg zsp zjn).symm) rfl rfl rfl rfl hl.1 rfl (Nat.le_of_ble_eq_true rfl) dX2_clearRow_27 ⟨Nat.zero_le _, Nat.zero_le _⟩ (fun H locs hP hD hS => ?_)
  cases o2 hm
  exact W.vret hx hb hr (fun t ht hW => ⟨⟨(), rfl, trivial, by rw [ht]; exact hP, va_K.moved hW.alike hK, hD⟩, hS.F ht⟩) hS.2.2 dX2_clearRow_30
set_option maxHeartbeats 4000000 in
set_option maxRecDepth 100000 in
theorem c_X2_tailTakes (l : Launch) (dC : Nat → ClassId) (dI : Nat → Nat → Nat) (cI : ClassId) (ad : Nat → Nat) (zk : zN) (zm : zN) (zb : zN) (zs : zN) (zr : zN) (zu : zN) (zt : zT) (zf : zN) (zg : zN) (zbd : Int32) (zro : Int32) (zmc : Int32) (zmg : Int32) (zsp : Int32) (zjn : Int32) (F : Nat) (p1 : Int32) (p2 : Int32) (sz : Nat) (r : Int32) (u_zt : zT) (hm : X2_tailTakes F zk zt p1 p2 = some (r, u_zt)) : Met l yX2_tailTakes wsX2_tailTakes ({ frames := 2, cells := 0, slots := 0, locals := 42 }) (va_Pc [.ref (ad 0), .int p1, .int p2] (zW (dC, dI) (wL cI ad zk zm zb zs zr zu zt zf zg zbd zro zmc zmg zsp zjn) [(cI, .int)] sz)) (zQi (dC, dI) (wL cI ad zk zm zb zs zr zu u_zt zf zg zbd zro zmc zmg zsp zjn) [(cI, .int)] (va_A (wL cI ad zk zm zb zs zr zu zt zf zg zbd zro zmc zmg zsp zjn) sz) r) 0 0 (va_A (wL cI ad zk zm zb zs zr zu zt zf zg zbd zro zmc zmg zsp zjn) sz) := by
  refine Met.ofW (cc := cX2_tailTakes) (maxL := 4) (ret := (some .boolean)) (by decide) rfl ?_
  intro p e s m args below meth c s₁ B hml hv
  obtain ⟨rfl, hsz, hP, hK, hD0⟩ := hv
  have hx := B.exec
  have hb := B.bytes
  have hr := B.returns
  have hts := atoms_spec (ws := wsX2_tailTakes) B.pre
  have hown : s.vm.findClass RX2 = some m.cls := findClass_of_methodNamed B.named
  have hlocks := B.notSynchronized
  subst hsz
  have hD := hD0.self (sz := s.heap.size)
  generalize hAe : va_A (wL cI ad zk zm zb zs zr zu zt zf zg zbd zro zmc zmg zsp zjn) s.heap.size = A at hD ⊢
  have hA : ∀ q : Nat, s.heap.size ≤ q → A q := fun q h => by rw [← hAe]; exact Or.inr h
  have hS : va_S A s.heap s.heap [] := va_S.rf
  generalize eL : ([] : List Loc) = locs at hS ⊢
  obtain ⟨H, eH⟩ : ∃ z : Heap, z = s.heap := ⟨_, rfl⟩
  have hP : va_P (dC, dI) vwCl (wL cI ad zk zm zb zs zr zu zt zf zg zbd zro zmc zmg zsp zjn) H := by rw [eH]; exact hP
  have hS : va_S A s.heap H locs := by rw [eH]; exact hS
  refine z_heap eH ?_
  have hl := lv_entry ([.ref (ad 0), .int p1, .int p2]) (n := 4) (Nat.le_of_ble_eq_true rfl)
  rw [lg_entry_eq]
  generalize (lg_sl ([.ref (ad 0), .int p1, .int p2]) ++ List.replicate (4 - (lg_sl ([.ref (ad 0), .int p1, .int p2])).length) Slot.unset).toArray = ls at hl ⊢
  have hl : lv_has ls 4 [(0, .ref (ad 0)), (1, .int p1), (2, .int p2)] := hl
  have zw0 := hts (.fieldLink RX2 36 "LearnedLedge" "tail" "LLearnedLedge$SlopeRange;") (List.mem_cons_of_mem _ (List.mem_append_left _ (List.mem_append_left _ (List.mem_append_left _ (List.mem_append_left _ (List.mem_of_getElem? (i := 0) rfl))))))
  have zw1 := hts (.fieldLink RX2 14 "LearnedLedge" "keys" "LLearnedLedge$Numbers;") (List.mem_cons_of_mem _ (List.mem_append_left _ (List.mem_append_left _ (List.mem_append_left _ (List.mem_append_left _ (List.mem_of_getElem? (i := 1) rfl))))))
  have ziX2 : ∀ w ∈ u_ws RX2 TX2 15, w ∈ wsX2_tailTakes := (fun _ h9 => (List.mem_cons_of_mem _ (List.mem_append_left _ (List.mem_append_left _ (List.mem_append_right _ h9)))))
  refine lv_iload_n hx hb dX2_tailTakes_0 rfl (lv_at hl 1 rfl) ?_
  refine lv_istore_n (lv' := [(3, .int p1), (0, .ref (ad 0)), (1, .int p1), (2, .int p2)]) hx hb dX2_tailTakes_1 rfl hl (by decide) rfl (fun ls hl => ?_)
  obtain ⟨z_2, hq_2, hm⟩ := ob hm
  have hmo_2 := hm
  have K_2 : ∀ (ztx2 : zT), z_2 = Sum.inr ztx2 → ∀ (H : Heap) (locs : List Loc), va_P (dC, dI) vwCl (wL cI ad zk zm zb zs zr zu ztx2 zf zg zbd zro zmc zmg zsp zjn) H → va_D A (wL cI ad zk zm zb zs zr zu ztx2 zf zg zbd zro zmc zmg zsp zjn) → va_S A s.heap H locs → ∀ (ls : Array Slot), lv_has ls 4 [] → W p l e (headSpec wsX2_tailTakes ({ frames := 2, cells := 0, slots := 0, locals := 42 } : Room)).room s m ([.ref (ad 0), .int p1, .int p2] : List Value).toArray below meth c H locs 0 0 (MQ below (zQi (dC, dI) (wL cI ad zk zm zb zs zr zu u_zt zf zg zbd zro zmc zmg zsp zjn) [(cI, .int)] A r) ([.ref (ad 0), .int p1, .int p2] : List Value).toArray s 0 0 A) (F0 m 34 ls []) := by
    intro ztx2 ez H locs hP hD hS ls hl
    rw [ez] at hm
    refine lv_iconst (v := 1) hx hb dX2_tailTakes_34 (by decide) ?_
    cases o2 hm
    exact W.zret hx hb hr rfl (fun t ht hW => ⟨⟨_, (), rfl, rfl, by rw [ht]; exact hP, va_K.moved hW.alike hK, hD⟩, hS.F ht⟩) hS.2.2 dX2_tailTakes_35
  have L_2 : ∀ (n : Nat) (x3 : Int32) (ztl2 : zT), X2_tailTakes_L2 p2 zk F n x3 ztl2 = some z_2 → ∀ (H : Heap) (locs : List Loc), va_P (dC, dI) vwCl (wL cI ad zk zm zb zs zr zu ztl2 zf zg zbd zro zmc zmg zsp zjn) H → va_D A (wL cI ad zk zm zb zs zr zu ztl2 zf zg zbd zro zmc zmg zsp zjn) → va_S A s.heap H locs → ∀ (ls : Array Slot), lv_has ls 4 [(3, .int x3), (0, .ref (ad 0)), (2, .int p2)] → W p l e (headSpec wsX2_tailTakes ({ frames := 2, cells := 0, slots := 0, locals := 42 } : Room)).room s m ([.ref (ad 0), .int p1, .int p2] : List Value).toArray below meth c H locs 0 0 (MQ below (zQi (dC, dI) (wL cI ad zk zm zb zs zr zu u_zt zf zg zbd zro zmc zmg zsp zjn) [(cI, .int)] A r) ([.ref (ad 0), .int p1, .int p2] : List Value).toArray s 0 0 A) (F0 m 2 ls []) := by
    intro n
    induction n with
    | zero => intro x3 ztl2 hm; cases hm
    | succ n ih_2 =>
      intro x3 ztl2 hm H locs hP hD hS ls hl
      refine lv_iload_n hx hb dX2_tailTakes_2 rfl (lv_at hl 0 rfl) ?_
      refine lv_iload_n hx hb dX2_tailTakes_3 rfl (lv_at hl 2 rfl) ?_
      refine lv_icmp_ge (tgt := 34) hx hb dX2_tailTakes_4 (by decide) (fun c_4 => ?_) (fun c_4 => ?_)
      · have hm := it_t hm c_4
        exact K_2 ztl2 (o2 hm) _ _ hP hD hS _ (lv_sub hl [] rfl)
      · have hm := it_f hm c_4
        refine lv_aload_n hx hb dX2_tailTakes_7 rfl (lv_at hl 1 rfl) ?_
        refine va_get (D := (dC, dI)) (ci := 2) (v := .ref (ad 13)) (C := RX2) (T := TX2) (N := 15) hx hb hts ziX2 hown hK hP 0 rfl rfl 6 (by decide) zw0 (fun _ h9 => h9) rfl dX2_tailTakes_8 ?_
        refine lv_aload_n hx hb dX2_tailTakes_11 rfl (lv_at hl 1 rfl) ?_
        refine va_get (D := (dC, dI)) (ci := 2) (v := .ref (ad 1)) (C := RX2) (T := TX2) (N := 15) hx hb hts ziX2 hown hK hP 0 rfl rfl 0 (by decide) zw1 (fun _ h9 => h9) rfl dX2_tailTakes_12 ?_
        refine lv_iload_n hx hb dX2_tailTakes_15 rfl (lv_at hl 0 rfl) ?_
        obtain ⟨r16, h_16, hm⟩ := ob hm
        refine z_callRi (As := [.int x3]) (rest := [.ref (ad 13)]) (ci := 0) (q := (RX0, TX0, 2)) ⟨hx, hb, hml, hown, hts⟩ (c_X0_at l dC dI cI (ad 1) (ad 2) 256 zk F x3 r16 h_16) (cwV 1 hts gX2_tailTakes_X0_at rfl rfl rfl kv_X0_at ⟨Nat.le_of_ble_eq_true rfl, Nat.le_of_ble_eq_true rfl⟩) hK (z_mid (pjL_zk cI ad zk zm zb zs zr zu ztl2 zf zg zbd zro zmc zmg zsp zjn zk) hP) rfl rfl rfl rfl hl.1 rfl (Nat.le_of_ble_eq_true rfl) dX2_tailTakes_16 ⟨Nat.zero_le _, Nat.zero_le _⟩ ?_
        refine lv_iload_n hx hb dX2_tailTakes_19 rfl (lv_at hl 0 rfl) ?_
        obtain ⟨⟨r20, zt20⟩, h_20, hm⟩ := ob hm
        refine z_callWi (wc := (wT (ad 13) ztl2)) (w1 := (wT (ad 13) zt20)) (ws := (wL cI ad zk zm zb zs zr zu ztl2 zf zg zbd zro zmc zmg zsp zjn)) (ws' := (wL cI ad zk zm zb zs zr zu zt20 zf zg zbd zro zmc zmg zsp zjn)) (As := [.int r16, .int x3]) (rest := []) (ci := 1) (q := (RX1, TX1, 7)) ⟨hx, hb, hml, hown, hts⟩ (c_X1_take l dC dI (ad 13) ztl2 F r16 x3 H.size r20 zt20 h_20) (cwV 2 hts gX2_tailTakes_X1_take rfl rfl rfl kv_X1_take ⟨Nat.le_of_ble_eq_true rfl, Nat.le_of_ble_eq_true rfl⟩) (hK.sub (tys' := []) [] rfl) hP hD hS hA (pjL_zt cI ad zk zm zb zs zr zu ztl2 zf zg zbd zro zmc zmg zsp zjn zt20) ((paT (ad 13) zt20).trans (paT (ad 13) ztl2).symm) rfl rfl rfl rfl hl.1 rfl (Nat.le_of_ble_eq_true rfl) dX2_tailTakes_20 ⟨Nat.zero_le _, Nat.zero_le _⟩ (fun H locs hP hD hS => ?_)
        refine lv_if_ne (tgt := 28) hx hb dX2_tailTakes_23 (by decide) (fun c_23 => ?_) (fun c_23 => ?_)
        · have hm := it_f hm c_23
          obtain ⟨x3_1, e_x3_1⟩ : ∃ y : Int32, y = x3 + 1 := ⟨_, rfl⟩
          have hm := bnd_e hm e_x3_1
          refine lv_iinc (v := x3_1) (lv' := [(3, .int x3_1), (0, .ref (ad 0)), (2, .int p2)]) hx hb dX2_tailTakes_28 hl (k := 0) rfl (by rw [e_x3_1]; rfl) (by decide) rfl (fun ls hl => ?_)
          refine lv_goto (tgt := 2) hx hb dX2_tailTakes_31 (by decide) ?_
          exact ih_2 x3_1 zt20 hm _ _ hP hD hS _ (lv_sub hl [0, 1, 2] rfl)
        · have hm := it_t hm c_23
          refine lv_iconst (v := 0) hx hb dX2_tailTakes_26 (by decide) ?_
          have e_2 := o2 hm
          have hm := hmo_2
          rw [e_2] at hm
          cases o2 hm
          exact W.zret hx hb hr rfl (fun t ht hW => ⟨⟨_, (), rfl, rfl, by rw [ht]; exact hP, va_K.moved hW.alike hK, hD⟩, hS.F ht⟩) hS.2.2 dX2_tailTakes_27
  exact L_2 F p1 zt hq_2 _ _ hP hD hS _ (lv_sub hl [0, 1, 3] rfl)
