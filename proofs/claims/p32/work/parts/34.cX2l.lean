set_option maxHeartbeats 4000000 in
set_option maxRecDepth 100000 in
theorem c_X2_addLate (l : Launch) (dC : Nat → ClassId) (dI : Nat → Nat → Nat) (cI : ClassId) (ad : Nat → Nat) (zk : zN) (zm : zN) (zb : zN) (zs : zN) (zr : zN) (zu : zN) (zt : zT) (zf : zN) (zg : zN) (zbd : Int32) (zro : Int32) (zmc : Int32) (zmg : Int32) (zsp : Int32) (zjn : Int32) (F : Nat) (p1 : Int32) (sz : Nat) (u_zk : zN) (u_zm : zN) (u_zb : zN) (u_zs : zN) (u_zr : zN) (u_zu : zN) (u_zt : zT) (u_zf : zN) (u_zg : zN) (u_zmc : Int32) (u_zmg : Int32) (u_zsp : Int32) (u_zjn : Int32) (hm : X2_addLate F zk zm zb zs zr zu zt zf zg zbd zro zmc zmg zsp zjn p1 = some (u_zk, u_zm, u_zb, u_zs, u_zr, u_zu, u_zt, u_zf, u_zg, u_zmc, u_zmg, u_zsp, u_zjn)) : Met l yX2_addLate wsX2_addLate ({ frames := 5, cells := 0, slots := 0, locals := 116 }) (va_Pc [.ref (ad 0), .int p1] (zW (dC, dI) (wL cI ad zk zm zb zs zr zu zt zf zg zbd zro zmc zmg zsp zjn) [(cI, .int)] sz)) (zQv (dC, dI) (wL cI ad u_zk u_zm u_zb u_zs u_zr u_zu u_zt u_zf u_zg zbd zro u_zmc u_zmg u_zsp u_zjn) [(cI, .int)] (va_A (wL cI ad zk zm zb zs zr zu zt zf zg zbd zro zmc zmg zsp zjn) sz)) 0 0 (va_A (wL cI ad zk zm zb zs zr zu zt zf zg zbd zro zmc zmg zsp zjn) sz) := by
  refine Met.ofW (cc := cX2_addLate) (maxL := 2) (ret := none) (by decide) rfl ?_
  intro p e s m args below meth c s₁ B hml hv
  obtain ⟨rfl, hsz, hP, hK, hD0⟩ := hv
  have hx := B.exec
  have hb := B.bytes
  have hr := B.returns
  have hts := atoms_spec (ws := wsX2_addLate) B.pre
  have hown : s.vm.findClass RX2 = some m.cls := findClass_of_methodNamed B.named
  have hlocks := B.notSynchronized
  subst hsz
  have hD := hD0.self (sz := s.heap.size)
  generalize hAe : va_A (wL cI ad zk zm zb zs zr zu zt zf zg zbd zro zmc zmg zsp zjn) s.heap.size = A at hD ⊢
  have hA : ∀ q : Nat, s.heap.size ≤ q → A q := fun q h => by rw [← hAe]; exact Or.inr h
  have hS : va_S A s.heap s.heap [] := va_S.rf
  generalize eL : ([] : List Loc) = locs at hS ⊢
  obtain ⟨H, eH⟩ : ∃ z : Heap, z = s.heap := ⟨_, rfl⟩
  have hP : va_P (dC, dI) vwCl (wL cI ad zk zm zb zs zr zu zt zf zg zbd zro zmc zmg zsp zjn) H := by rw [eH]; exact hP
  have hS : va_S A s.heap H locs := by rw [eH]; exact hS
  refine z_heap eH ?_
  have hl := lv_entry ([.ref (ad 0), .int p1]) (n := 2) (Nat.le_of_ble_eq_true rfl)
  rw [lg_entry_eq]
  generalize (lg_sl ([.ref (ad 0), .int p1]) ++ List.replicate (2 - (lg_sl ([.ref (ad 0), .int p1])).length) Slot.unset).toArray = ls at hl ⊢
  have hl : lv_has ls 2 [(0, .ref (ad 0)), (1, .int p1)] := hl
  have zw0 := hts (.fieldLink RX2 21 "LearnedLedge" "buffer" "LLearnedLedge$Numbers;") (List.mem_cons_of_mem _ (List.mem_append_left _ (List.mem_append_left _ (List.mem_append_left _ (List.mem_append_left _ (List.mem_of_getElem? (i := 0) rfl))))))
  have zw1 := hts (.fieldLink RX2 50 "LearnedLedge" "room" "I") (List.mem_cons_of_mem _ (List.mem_append_left _ (List.mem_append_left _ (List.mem_append_left _ (List.mem_append_left _ (List.mem_of_getElem? (i := 1) rfl))))))
  have ziX2 : ∀ w ∈ u_ws RX2 TX2 15, w ∈ wsX2_addLate := (fun _ h9 => (List.mem_cons_of_mem _ (List.mem_append_left _ (List.mem_append_left _ (List.mem_append_right _ h9)))))
  refine lv_aload_n hx hb dX2_addLate_0 rfl (lv_at hl 0 rfl) ?_
  refine va_get (D := (dC, dI)) (ci := 2) (v := .ref (ad 5)) (C := RX2) (T := TX2) (N := 15) hx hb hts ziX2 hown hK hP 0 rfl rfl 2 (by decide) zw0 (fun _ h9 => h9) rfl dX2_addLate_1 ?_
  refine lv_aload_n hx hb dX2_addLate_4 rfl (lv_at hl 0 rfl) ?_
  refine va_get (D := (dC, dI)) (ci := 2) (v := .ref (ad 5)) (C := RX2) (T := TX2) (N := 15) hx hb hts ziX2 hown hK hP 0 rfl rfl 2 (by decide) zw0 (fun _ h9 => h9) rfl dX2_addLate_5 ?_
  refine lv_iload_n hx hb dX2_addLate_8 rfl (lv_at hl 1 rfl) ?_
  obtain ⟨r9, h_9, hm⟩ := ob hm
  refine z_callRi (As := [.int p1]) (rest := [.ref (ad 5)]) (ci := 0) (q := (RX0, TX0, 2)) ⟨hx, hb, hml, hown, hts⟩ (c_X0_below l dC dI cI (ad 5) (ad 6) 16 zb F p1 r9 h_9) (cwV 1 hts gX2_addLate_X0_below rfl rfl rfl kv_X0_below ⟨Nat.le_of_ble_eq_true rfl, Nat.le_of_ble_eq_true rfl⟩) hK (z_mid (pjL_zb cI ad zk zm zb zs zr zu zt zf zg zbd zro zmc zmg zsp zjn zb) hP) rfl rfl rfl rfl hl.1 rfl (Nat.le_of_ble_eq_true rfl) dX2_addLate_9 ⟨Nat.zero_le _, Nat.zero_le _⟩ ?_
  refine lv_iload_n hx hb dX2_addLate_12 rfl (lv_at hl 1 rfl) ?_
  obtain ⟨zb13, h_13, hm⟩ := ob hm
  refine z_callWv (wc := (wN cI (ad 5) (ad 6) 16 zb)) (w1 := (wN cI (ad 5) (ad 6) 16 zb13)) (ws := (wL cI ad zk zm zb zs zr zu zt zf zg zbd zro zmc zmg zsp zjn)) (ws' := (wL cI ad zk zm zb13 zs zr zu zt zf zg zbd zro zmc zmg zsp zjn)) (As := [.int r9, .int p1]) (rest := []) (ci := 0) (q := (RX0, TX0, 2)) ⟨hx, hb, hml, hown, hts⟩ (c_X0_squeezeIn l dC dI cI (ad 5) (ad 6) 16 zb F r9 p1 H.size zb13 h_13) (cwV 2 hts gX2_addLate_X0_squeezeIn rfl rfl rfl kv_X0_squeezeIn ⟨Nat.le_of_ble_eq_true rfl, Nat.le_of_ble_eq_true rfl⟩) hK hP hD hS hA (pjL_zb cI ad zk zm zb zs zr zu zt zf zg zbd zro zmc zmg zsp zjn zb13) ((paN cI (ad 5) (ad 6) 16 zb13).trans (paN cI (ad 5) (ad 6) 16 zb).symm) rfl rfl rfl rfl hl.1 rfl (Nat.le_of_ble_eq_true rfl) dX2_addLate_13 ⟨Nat.zero_le _, Nat.zero_le _⟩ (fun H locs hP hD hS => ?_)
  refine lv_aload_n hx hb dX2_addLate_16 rfl (lv_at hl 0 rfl) ?_
  refine va_get (D := (dC, dI)) (ci := 2) (v := .ref (ad 5)) (C := RX2) (T := TX2) (N := 15) hx hb hts ziX2 hown hK hP 0 rfl rfl 2 (by decide) zw0 (fun _ h9 => h9) rfl dX2_addLate_17 ?_
  obtain ⟨r20, h_20, hm⟩ := ob hm
  refine z_callRi (As := []) (rest := []) (ci := 0) (q := (RX0, TX0, 2)) ⟨hx, hb, hml, hown, hts⟩ (c_X0_length l dC dI cI (ad 5) (ad 6) 16 zb13 F r20 h_20) (cwV 0 hts gX2_addLate_X0_length rfl rfl rfl kv_X0_length ⟨Nat.le_of_ble_eq_true rfl, Nat.le_of_ble_eq_true rfl⟩) hK (z_mid (pjL_zb cI ad zk zm zb13 zs zr zu zt zf zg zbd zro zmc zmg zsp zjn zb13) hP) rfl rfl rfl rfl hl.1 rfl (Nat.le_of_ble_eq_true rfl) dX2_addLate_20 ⟨Nat.zero_le _, Nat.zero_le _⟩ ?_
  refine lv_aload_n hx hb dX2_addLate_23 rfl (lv_at hl 0 rfl) ?_
  refine va_get (D := (dC, dI)) (ci := 2) (v := .int zro) (C := RX2) (T := TX2) (N := 15) hx hb hts ziX2 hown hK hP 0 rfl rfl 10 (by decide) zw1 (fun _ h9 => h9) rfl dX2_addLate_24 ?_
  refine lv_icmp_lt (tgt := 34) hx hb dX2_addLate_27 (by decide) (fun c_27 => ?_) (fun c_27 => ?_)
  · have hm := it_t hm c_27
    cases o2 hm
    exact W.vret hx hb hr (fun t ht hW => ⟨⟨(), rfl, trivial, by rw [ht]; exact hP, va_K.moved hW.alike hK, hD⟩, hS.F ht⟩) hS.2.2 dX2_addLate_34
  · have hm := it_f hm c_27
    refine lv_aload_n hx hb dX2_addLate_30 rfl (lv_at hl 0 rfl) ?_
    obtain ⟨⟨zk31, zm31, zb31, zs31, zr31, zu31, zt31, zf31, zg31, zmc31, zmg31, zsp31, zjn31⟩, h_31, hm⟩ := ob hm
    refine z_callWv (wc := (wL cI ad zk zm zb13 zs zr zu zt zf zg zbd zro zmc zmg zsp zjn)) (w1 := (wL cI ad zk31 zm31 zb31 zs31 zr31 zu31 zt31 zf31 zg31 zbd zro zmc31 zmg31 zsp31 zjn31)) (ws := (wL cI ad zk zm zb13 zs zr zu zt zf zg zbd zro zmc zmg zsp zjn)) (ws' := (wL cI ad zk31 zm31 zb31 zs31 zr31 zu31 zt31 zf31 zg31 zbd zro zmc31 zmg31 zsp31 zjn31)) (As := []) (rest := []) (ci := 2) (q := (RX2, TX2, 15)) ⟨hx, hb, hml, hown, hts⟩ (c_X2_mergeAll l dC dI cI ad zk zm zb13 zs zr zu zt zf zg zbd zro zmc zmg zsp zjn F H.size zk31 zm31 zb31 zs31 zr31 zu31 zt31 zf31 zg31 zmc31 zmg31 zsp31 zjn31 h_31) (cwV 0 hts gX2_addLate_X2_mergeAll rfl rfl rfl kv_X2_mergeAll ⟨Nat.le_of_ble_eq_true rfl, Nat.le_of_ble_eq_true rfl⟩) hK hP hD hS hA (z_spAll (wL cI ad zk zm zb13 zs zr zu zt zf zg zbd zro zmc zmg zsp zjn) (wL cI ad zk31 zm31 zb31 zs31 zr31 zu31 zt31 zf31 zg31 zbd zro zmc31 zmg31 zsp31 zjn31)) ((paL cI ad zk31 zm31 zb31 zs31 zr31 zu31 zt31 zf31 zg31 zbd zro zmc31 zmg31 zsp31 zjn31).trans (paL cI ad zk zm zb13 zs zr zu zt zf zg zbd zro zmc zmg zsp zjn).symm) rfl rfl rfl rfl hl.1 rfl (Nat.le_of_ble_eq_true rfl) dX2_addLate_31 ⟨Nat.zero_le _, Nat.zero_le _⟩ (fun H locs hP hD hS => ?_)
    cases o2 hm
    exact W.vret hx hb hr (fun t ht hW => ⟨⟨(), rfl, trivial, by rw [ht]; exact hP, va_K.moved hW.alike hK, hD⟩, hS.F ht⟩) hS.2.2 dX2_addLate_34
set_option maxHeartbeats 4000000 in
set_option maxRecDepth 100000 in
theorem c_X2_insert (l : Launch) (dC : Nat → ClassId) (dI : Nat → Nat → Nat) (cI : ClassId) (ad : Nat → Nat) (zk : zN) (zm : zN) (zb : zN) (zs : zN) (zr : zN) (zu : zN) (zt : zT) (zf : zN) (zg : zN) (zbd : Int32) (zro : Int32) (zmc : Int32) (zmg : Int32) (zsp : Int32) (zjn : Int32) (F : Nat) (p1 : Int32) (sz : Nat) (sa : Nat → Nat) (hl9 : l.stackTraces = false) (z : Nat ⊕ (Int32 × zN × zN × zN × zN × zN × zN × zT × zN × zN × Int32 × Int32 × Int32 × Int32)) (hm : X2_insert F zk zm zb zs zr zu zt zf zg zbd zro zmc zmg zsp zjn p1 = some z) : vx_Met l yX2_insert wsX2_insert ({ frames := 7, cells := 2, slots := 12, locals := 137 }) (va_Pc [.ref (ad 0), .int p1] (zX (dC, dI) (wL cI ad zk zm zb zs zr zu zt zf zg zbd zro zmc zmg zsp zjn) [(cI, .int)] sz sa)) (zXi (dC, dI) (fun (u_ : zN × zN × zN × zN × zN × zN × zT × zN × zN × Int32 × Int32 × Int32 × Int32) => (wL cI ad u_.1 u_.2.1 u_.2.2.1 u_.2.2.2.1 u_.2.2.2.2.1 u_.2.2.2.2.2.1 u_.2.2.2.2.2.2.1 u_.2.2.2.2.2.2.2.1 u_.2.2.2.2.2.2.2.2.1 zbd zro u_.2.2.2.2.2.2.2.2.2.1 u_.2.2.2.2.2.2.2.2.2.2.1 u_.2.2.2.2.2.2.2.2.2.2.2.1 u_.2.2.2.2.2.2.2.2.2.2.2.2)) [(cI, .int)] (va_A (wL cI ad zk zm zb zs zr zu zt zf zg zbd zro zmc zmg zsp zjn) sz) (fun r_ u_ => z = Sum.inr (r_, u_))) (zXC (dC, dI) (wL cI ad zk zm zb zs zr zu zt zf zg zbd zro zmc zmg zsp zjn) [(cI, .int)] (va_A (wL cI ad zk zm zb zs zr zu zt zf zg zbd zro zmc zmg zsp zjn) sz) z) 2 12 (va_A (wL cI ad zk zm zb zs zr zu zt zf zg zbd zro zmc zmg zsp zjn) sz) := by
  refine vx_ofW (cc := cX2_insert) (maxL := 3) (ret := (some .int)) (by decide) rfl ?_
  intro p e s m args below meth c s₁ B hml hnx hv
  obtain ⟨rfl, ⟨hsz, hP, hK, hD0⟩, hV⟩ := hv
  have hx := B.exec
  have hb := B.bytes
  have hr := B.returns
  have hts := atoms_spec (ws := wsX2_insert) B.pre
  have hown : s.vm.findClass RX2 = some m.cls := findClass_of_methodNamed B.named
  have hlocks := B.notSynchronized
  subst hsz
  have hD := hD0.self (sz := s.heap.size)
  generalize hAe : va_A (wL cI ad zk zm zb zs zr zu zt zf zg zbd zro zmc zmg zsp zjn) s.heap.size = A at hD hV ⊢
  have hA : ∀ q : Nat, s.heap.size ≤ q → A q := fun q h => by rw [← hAe]; exact Or.inr h
  have hS : va_S A s.heap s.heap [] := va_S.rf
  generalize eL : ([] : List Loc) = locs at hS ⊢
  obtain ⟨H, eH⟩ : ∃ z : Heap, z = s.heap := ⟨_, rfl⟩
  have hP : va_P (dC, dI) vwCl (wL cI ad zk zm zb zs zr zu zt zf zg zbd zro zmc zmg zsp zjn) H := by rw [eH]; exact hP
  have hS : va_S A s.heap H locs := by rw [eH]; exact hS
  refine z_heap eH ?_
  have hl := lv_entry ([.ref (ad 0), .int p1]) (n := 3) (Nat.le_of_ble_eq_true rfl)
  rw [lg_entry_eq]
  generalize (lg_sl ([.ref (ad 0), .int p1]) ++ List.replicate (3 - (lg_sl ([.ref (ad 0), .int p1])).length) Slot.unset).toArray = ls at hl ⊢
  have hl : lv_has ls 3 [(0, .ref (ad 0)), (1, .int p1)] := hl
  have zw0 := hts (.fieldLink RX2 14 "LearnedLedge" "keys" "LLearnedLedge$Numbers;") (List.mem_cons_of_mem _ (List.mem_append_left _ (List.mem_append_left _ (List.mem_append_left _ (List.mem_append_left _ (List.mem_append_left _ (List.mem_append_left _ (List.mem_of_getElem? (i := 2) rfl))))))))
  have zw1 := hts (.fieldLink RX2 18 "LearnedLedge" "marks" "LLearnedLedge$Numbers;") (List.mem_cons_of_mem _ (List.mem_append_left _ (List.mem_append_left _ (List.mem_append_left _ (List.mem_append_left _ (List.mem_append_left _ (List.mem_append_left _ (List.mem_of_getElem? (i := 3) rfl))))))))
  have zw2 := hts (.fieldLink RX2 53 "LearnedLedge" "markCount" "I") (List.mem_cons_of_mem _ (List.mem_append_left _ (List.mem_append_left _ (List.mem_append_left _ (List.mem_append_left _ (List.mem_append_left _ (List.mem_append_left _ (List.mem_of_getElem? (i := 4) rfl))))))))
  have zw3 := hts (.fieldLink RX2 21 "LearnedLedge" "buffer" "LLearnedLedge$Numbers;") (List.mem_cons_of_mem _ (List.mem_append_left _ (List.mem_append_left _ (List.mem_append_left _ (List.mem_append_left _ (List.mem_append_left _ (List.mem_append_left _ (List.mem_of_getElem? (i := 5) rfl))))))))
  have zw4 := hts (.classLink RX2 98 "java/lang/IllegalStateException") (List.mem_cons_of_mem _ (List.mem_append_left _ (List.mem_append_left _ (List.mem_append_left _ (List.mem_append_left _ (List.mem_append_left _ (List.mem_append_left _ (List.mem_of_getElem? (i := 0) rfl))))))))
  have zw5 := hts (.initialized "java/lang/IllegalStateException") (List.mem_cons_of_mem _ (List.mem_append_left _ (List.mem_append_left _ (List.mem_append_left _ (List.mem_append_left _ (List.mem_append_left _ (List.mem_append_left _ (List.mem_of_getElem? (i := 1) rfl))))))))
  have ziX2 : ∀ w ∈ u_ws RX2 TX2 15, w ∈ wsX2_insert := (fun _ h9 => (List.mem_cons_of_mem _ (List.mem_append_left _ (List.mem_append_left _ (List.mem_append_left _ (List.mem_append_left _ (List.mem_append_right _ h9)))))))
  refine lv_iload_n hx hb dX2_insert_0 rfl (lv_at hl 1 rfl) ?_
  refine lv_i2l hx hb dX2_insert_1 rfl ?_
  obtain ⟨z_2, h_2, hm⟩ := ob hm
  refine z_xSv (U := Unit) (w1 := fun u_ => []) (ws' := fun u_ => (wL cI ad zk zm zb zs zr zu zt zf zg zbd zro zmc zmg zsp zjn)) (As := [.long (Int32.toInt64 p1)]) (rest := []) (wc := []) (ws := (wL cI ad zk zm zb zs zr zu zt zf zg zbd zro zmc zmg zsp zjn)) ⟨hx, hb, hml, hown, hts⟩ (c_X2_needKey l dC dI F (Int32.toInt64 p1) H.size sa hl9 z_2 h_2) (va_cwS 1 hts gX2_insert_X2_needKey rfl rfl rfl ks_X2_needKey ⟨(Nat.le_of_ble_eq_true rfl), (Nat.le_of_ble_eq_true rfl)⟩) hV (hK.sub (tys' := []) [] rfl) hP hD hS hA (z_sp0 (wL cI ad zk zm zb zs zr zu zt zf zg zbd zro zmc zmg zsp zjn)) (fun u_ => (z_sp0 (wL cI ad zk zm zb zs zr zu zt zf zg zbd zro zmc zmg zsp zjn))) (fun u_ => rfl) rfl hl.1 rfl (Nat.le_of_ble_eq_true rfl) dX2_insert_2 ⟨(Nat.le_of_ble_eq_true rfl), (Nat.le_of_ble_eq_true rfl)⟩ (fun k ce q9 H locs ez hP hS hce hcv hcl => ?_) (fun u_2 H locs hw hP hD hS => ?_)
  · rw [ez] at hm
    exact vx_out (fun x hx => (hnx x hx).elim) hlocks hce hcv hcl (z_xc (o2 hm) hP hK hD hS) hS.2.2 (Nat.le_of_ble_eq_true rfl) (Nat.le_of_ble_eq_true rfl)
  · rw [hw] at hm
    have hP : va_P (dC, dI) vwCl (wL cI ad zk zm zb zs zr zu zt zf zg zbd zro zmc zmg zsp zjn) H := hP
    have hD : va_D A (wL cI ad zk zm zb zs zr zu zt zf zg zbd zro zmc zmg zsp zjn) := hD
    refine lv_aload_n hx hb dX2_insert_5 rfl (lv_at hl 0 rfl) ?_
    refine va_get (D := (dC, dI)) (ci := 2) (v := .ref (ad 1)) (C := RX2) (T := TX2) (N := 15) hx hb hts ziX2 hown hK hP 0 rfl rfl 0 (by decide) zw0 (fun _ h9 => h9) rfl dX2_insert_6 ?_
    refine lv_iload_n hx hb dX2_insert_9 rfl (lv_at hl 1 rfl) ?_
    obtain ⟨r10, h_10, hm⟩ := ob hm
    refine z_callRi (As := [.int p1]) (rest := []) (ci := 0) (q := (RX0, TX0, 2)) ⟨hx, hb, hml, hown, hts⟩ (c_X0_indexOf l dC dI cI (ad 1) (ad 2) 256 zk F p1 r10 h_10) (cwV 1 hts gX2_insert_X0_indexOf rfl rfl rfl kv_X0_indexOf ⟨Nat.le_of_ble_eq_true rfl, Nat.le_of_ble_eq_true rfl⟩) hK (z_mid (pjL_zk cI ad zk zm zb zs zr zu zt zf zg zbd zro zmc zmg zsp zjn zk) hP) rfl rfl rfl rfl hl.1 rfl (Nat.le_of_ble_eq_true rfl) dX2_insert_10 ⟨Nat.le_of_ble_eq_true rfl, Nat.le_of_ble_eq_true rfl⟩ ?_
    refine lv_istore_n (lv' := [(2, .int r10), (0, .ref (ad 0)), (1, .int p1)]) hx hb dX2_insert_13 rfl hl (by decide) rfl (fun ls hl => ?_)
    refine lv_aload_n hx hb dX2_insert_14 rfl (lv_at hl 1 rfl) ?_
    refine lv_iload_n hx hb dX2_insert_15 rfl (lv_at hl 2 rfl) ?_
    obtain ⟨r16, h_16, hm⟩ := ob hm
    refine z_callRi (As := [.int p1]) (rest := []) (ci := 2) (q := (RX2, TX2, 15)) ⟨hx, hb, hml, hown, hts⟩ (c_X2_isThere l dC dI cI ad zk zm zb zs zr zu zt zf zg zbd zro zmc zmg zsp zjn F p1 r16 h_16) (cwV 1 hts gX2_insert_X2_isThere rfl rfl rfl kv_X2_isThere ⟨Nat.le_of_ble_eq_true rfl, Nat.le_of_ble_eq_true rfl⟩) hK hP rfl rfl rfl rfl hl.1 rfl (Nat.le_of_ble_eq_true rfl) dX2_insert_16 ⟨Nat.le_of_ble_eq_true rfl, Nat.le_of_ble_eq_true rfl⟩ ?_
    refine lv_if_ne (tgt := 37) hx hb dX2_insert_19 (by decide) (fun c_19 => ?_) (fun c_19 => ?_)
    · have hm := it_f hm c_19
      exact vx_throwS hx hb hl9 (own := RX2) (cls := "java/lang/IllegalStateException") (names := ["java/lang/RuntimeException", "java/lang/Exception"]) (ik := 98) (is := 100) (ic := 102) hown (by decide +kernel) (by decide +kernel) zw4 zw5 (hV.1 (100, "key is there, or no room") (by decide +kernel)) (vx_hat (fun w h => hts w (List.mem_cons_of_mem _ (List.mem_append_left _ (List.mem_append_right _ h)))) (by decide +kernel) (zV_ng hV)) (by decide +kernel) hV.2.2.1 hV.2.2.2 hS (hl.1.trans hml.symm) dX2_insert_37 dX2_insert_40 dX2_insert_41 dX2_insert_43 dX2_insert_46 (fun x hx => (hnx x hx).elim) (Nat.le_of_ble_eq_true rfl) (Nat.le_of_ble_eq_true rfl) (Nat.le_of_ble_eq_true rfl) (Nat.le_of_ble_eq_true rfl) hlocks (z_xt (k := 2) rfl (o2 hm) hP hK hD hS) hS.2.2 (Nat.le_of_ble_eq_true rfl) (Nat.le_of_ble_eq_true rfl)
    · have hm := it_t hm c_19
      refine lv_iload_n hx hb dX2_insert_22 rfl (lv_at hl 0 rfl) ?_
      refine lv_iconst (v := (-1)) hx hb dX2_insert_23 (by decide) ?_
      obtain ⟨k_47, ek_47, hm⟩ := bnd_x hm
      have J_47 : k_47 () = some z → W p l e (headSpec wsX2_insert ({ frames := 7, cells := 2, slots := 12, locals := 137 } : Room)).room s m ([.ref (ad 0), .int p1] : List Value).toArray below meth c H locs 1 6 (vx_MQ below (zXi (dC, dI) (fun (u_ : zN × zN × zN × zN × zN × zN × zT × zN × zN × Int32 × Int32 × Int32 × Int32) => (wL cI ad u_.1 u_.2.1 u_.2.2.1 u_.2.2.2.1 u_.2.2.2.2.1 u_.2.2.2.2.2.1 u_.2.2.2.2.2.2.1 u_.2.2.2.2.2.2.2.1 u_.2.2.2.2.2.2.2.2.1 zbd zro u_.2.2.2.2.2.2.2.2.2.1 u_.2.2.2.2.2.2.2.2.2.2.1 u_.2.2.2.2.2.2.2.2.2.2.2.1 u_.2.2.2.2.2.2.2.2.2.2.2.2)) [(cI, .int)] A (fun r_ u_ => z = Sum.inr (r_, u_))) (zXC (dC, dI) (wL cI ad zk zm zb zs zr zu zt zf zg zbd zro zmc zmg zsp zjn) [(cI, .int)] A z) ([.ref (ad 0), .int p1] : List Value).toArray s 2 12 A) (F0 m 47 ls []) := by
        intro hj
        have hm := (congrFun ek_47 ()).symm.trans hj
        refine lv_iload_n hx hb dX2_insert_47 rfl (lv_at hl 0 rfl) ?_
        refine lv_iconst (v := (-1)) hx hb dX2_insert_48 (by decide) ?_
        obtain ⟨z_79, hq_79, hm⟩ := ob hm
        have J_79 : ∀ (zkj79 : zN), ∀ (zmj79 : zN), ∀ (zbj79 : zN), ∀ (zsj79 : zN), ∀ (zrj79 : zN), ∀ (zuj79 : zN), ∀ (ztj79 : zT), ∀ (zfj79 : zN), ∀ (zgj79 : zN), ∀ (zmcj79 : Int32), ∀ (zmgj79 : Int32), ∀ (zspj79 : Int32), ∀ (zjnj79 : Int32), z_79 = (zkj79, zmj79, zbj79, zsj79, zrj79, zuj79, ztj79, zfj79, zgj79, zmcj79, zmgj79, zspj79, zjnj79) → ∀ (H : Heap) (locs : List Loc), va_P (dC, dI) vwCl (wL cI ad zkj79 zmj79 zbj79 zsj79 zrj79 zuj79 ztj79 zfj79 zgj79 zbd zro zmcj79 zmgj79 zspj79 zjnj79) H → va_D A (wL cI ad zkj79 zmj79 zbj79 zsj79 zrj79 zuj79 ztj79 zfj79 zgj79 zbd zro zmcj79 zmgj79 zspj79 zjnj79) → va_S A s.heap H locs → W p l e (headSpec wsX2_insert ({ frames := 7, cells := 2, slots := 12, locals := 137 } : Room)).room s m ([.ref (ad 0), .int p1] : List Value).toArray below meth c H locs 1 6 (vx_MQ below (zXi (dC, dI) (fun (u_ : zN × zN × zN × zN × zN × zN × zT × zN × zN × Int32 × Int32 × Int32 × Int32) => (wL cI ad u_.1 u_.2.1 u_.2.2.1 u_.2.2.2.1 u_.2.2.2.2.1 u_.2.2.2.2.2.1 u_.2.2.2.2.2.2.1 u_.2.2.2.2.2.2.2.1 u_.2.2.2.2.2.2.2.2.1 zbd zro u_.2.2.2.2.2.2.2.2.2.1 u_.2.2.2.2.2.2.2.2.2.2.1 u_.2.2.2.2.2.2.2.2.2.2.2.1 u_.2.2.2.2.2.2.2.2.2.2.2.2)) [(cI, .int)] A (fun r_ u_ => z = Sum.inr (r_, u_))) (zXC (dC, dI) (wL cI ad zk zm zb zs zr zu zt zf zg zbd zro zmc zmg zsp zjn) [(cI, .int)] A z) ([.ref (ad 0), .int p1] : List Value).toArray s 2 12 A) (F0 m 79 ls []) := by
          intro zkj79 zmj79 zbj79 zsj79 zrj79 zuj79 ztj79 zfj79 zgj79 zmcj79 zmgj79 zspj79 zjnj79 ez H locs hP hD hS
          rw [ez] at hm
          refine lv_aload_n hx hb dX2_insert_79 rfl (lv_at hl 1 rfl) ?_
          refine va_get (D := (dC, dI)) (ci := 2) (v := .ref (ad 5)) (C := RX2) (T := TX2) (N := 15) hx hb hts ziX2 hown hK hP 0 rfl rfl 2 (by decide) zw3 (fun _ h9 => h9) rfl dX2_insert_80 ?_
          obtain ⟨r83, h_83, hm⟩ := ob hm
          refine z_callRi (As := []) (rest := []) (ci := 0) (q := (RX0, TX0, 2)) ⟨hx, hb, hml, hown, hts⟩ (c_X0_length l dC dI cI (ad 5) (ad 6) 16 zbj79 F r83 h_83) (cwV 0 hts gX2_insert_X0_length rfl rfl rfl kv_X0_length ⟨Nat.le_of_ble_eq_true rfl, Nat.le_of_ble_eq_true rfl⟩) hK (z_mid (pjL_zb cI ad zkj79 zmj79 zbj79 zsj79 zrj79 zuj79 ztj79 zfj79 zgj79 zbd zro zmcj79 zmgj79 zspj79 zjnj79 zbj79) hP) rfl rfl rfl rfl hl.1 rfl (Nat.le_of_ble_eq_true rfl) dX2_insert_83 ⟨Nat.le_of_ble_eq_true rfl, Nat.le_of_ble_eq_true rfl⟩ ?_
          refine vx_ret (W.widen (k := 2) (n := 12) (Nat.le_of_ble_eq_true rfl) (Nat.le_of_ble_eq_true rfl) ?_)
          exact W.iret hx hb hr (fun t ht hW => ⟨⟨_, (zkj79, zmj79, zbj79, zsj79, zrj79, zuj79, ztj79, zfj79, zgj79, zmcj79, zmgj79, zspj79, zjnj79), rfl, o2 hm, by rw [ht]; exact hP, va_K.moved hW.alike hK, hD⟩, hS.F ht⟩) hS.2.2 dX2_insert_86
        have hm := hq_79
        refine lv_icmp_ne (tgt := 60) hx hb dX2_insert_49 (by decide) (fun c_49 => ?_) (fun c_49 => ?_)
        · have hm := it_f hm c_49
          refine lv_aload_n hx hb dX2_insert_60 rfl (lv_at hl 1 rfl) ?_
          refine va_get (D := (dC, dI)) (ci := 2) (v := .ref (ad 3)) (C := RX2) (T := TX2) (N := 15) hx hb hts ziX2 hown hK hP 0 rfl rfl 1 (by decide) zw1 (fun _ h9 => h9) rfl dX2_insert_61 ?_
          refine lv_iload_n hx hb dX2_insert_64 rfl (lv_at hl 0 rfl) ?_
          refine lv_iconst (v := 0) hx hb dX2_insert_65 (by decide) ?_
          obtain ⟨zm66, h_66, hm⟩ := ob hm
          refine z_callWv (wc := (wN cI (ad 3) (ad 4) 256 zm)) (w1 := (wN cI (ad 3) (ad 4) 256 zm66)) (ws := (wL cI ad zk zm zb zs zr zu zt zf zg zbd zro zmc zmg zsp zjn)) (ws' := (wL cI ad zk zm66 zb zs zr zu zt zf zg zbd zro zmc zmg zsp zjn)) (As := [.int r10, .int 0]) (rest := []) (ci := 0) (q := (RX0, TX0, 2)) ⟨hx, hb, hml, hown, hts⟩ (c_X0_put l dC dI cI (ad 3) (ad 4) 256 zm F r10 0 H.size zm66 h_66) (cwV 2 hts gX2_insert_X0_put rfl rfl rfl kv_X0_put ⟨Nat.le_of_ble_eq_true rfl, Nat.le_of_ble_eq_true rfl⟩) hK hP hD hS hA (pjL_zm cI ad zk zm zb zs zr zu zt zf zg zbd zro zmc zmg zsp zjn zm66) ((paN cI (ad 3) (ad 4) 256 zm66).trans (paN cI (ad 3) (ad 4) 256 zm).symm) rfl rfl rfl rfl hl.1 rfl (Nat.le_of_ble_eq_true rfl) dX2_insert_66 ⟨Nat.le_of_ble_eq_true rfl, Nat.le_of_ble_eq_true rfl⟩ (fun H locs hP hD hS => ?_)
          refine lv_aload_n hx hb dX2_insert_69 rfl (lv_at hl 1 rfl) ?_
          refine lv_dup hx hb dX2_insert_70 rfl ?_
          refine va_get (D := (dC, dI)) (ci := 2) (v := .int zmc) (C := RX2) (T := TX2) (N := 15) hx hb hts ziX2 hown hK hP 0 rfl rfl 11 (by decide) zw2 (fun _ h9 => h9) rfl dX2_insert_71 ?_
          refine lv_iconst (v := 1) hx hb dX2_insert_74 (by decide) ?_
          refine lv_isub hx hb dX2_insert_75 ?_
          refine va_put (D := (dC, dI)) (ci := 2) (v := .int (zmc - 1)) (ty := .int) (C := RX2) (T := TX2) (N := 15) hx hb hts ziX2 tyX2 tyX2_ok nmX2 hown hK hP hD hS 0 rfl rfl 11 (by decide) zw2 (fun _ h9 => h9) rfl (by decide +kernel) rfl rfl (Nat.le_of_ble_eq_true rfl) dX2_insert_76 (fun H locs hP hD hS => ?_)
          have hP : va_P (dC, dI) vwCl (wL cI ad zk zm66 zb zs zr zu zt zf zg zbd zro (zmc - 1) zmg zsp zjn) H := hP
          have hD : va_D A (wL cI ad zk zm66 zb zs zr zu zt zf zg zbd zro (zmc - 1) zmg zsp zjn) := hD
          exact J_79 zk zm66 zb zs zr zu zt zf zg (zmc - 1) zmg zsp zjn (o2 hm) _ _ hP hD hS
        · have hm := it_t hm c_49
          refine lv_aload_n hx hb dX2_insert_52 rfl (lv_at hl 1 rfl) ?_
          refine lv_iload_n hx hb dX2_insert_53 rfl (lv_at hl 2 rfl) ?_
          obtain ⟨⟨zk54, zm54, zb54, zs54, zr54, zu54, zt54, zf54, zg54, zmc54, zmg54, zsp54, zjn54⟩, h_54, hm⟩ := ob hm
          refine z_callWv (wc := (wL cI ad zk zm zb zs zr zu zt zf zg zbd zro zmc zmg zsp zjn)) (w1 := (wL cI ad zk54 zm54 zb54 zs54 zr54 zu54 zt54 zf54 zg54 zbd zro zmc54 zmg54 zsp54 zjn54)) (ws := (wL cI ad zk zm zb zs zr zu zt zf zg zbd zro zmc zmg zsp zjn)) (ws' := (wL cI ad zk54 zm54 zb54 zs54 zr54 zu54 zt54 zf54 zg54 zbd zro zmc54 zmg54 zsp54 zjn54)) (As := [.int p1]) (rest := []) (ci := 2) (q := (RX2, TX2, 15)) ⟨hx, hb, hml, hown, hts⟩ (c_X2_addLate l dC dI cI ad zk zm zb zs zr zu zt zf zg zbd zro zmc zmg zsp zjn F p1 H.size zk54 zm54 zb54 zs54 zr54 zu54 zt54 zf54 zg54 zmc54 zmg54 zsp54 zjn54 h_54) (cwV 1 hts gX2_insert_X2_addLate rfl rfl rfl kv_X2_addLate ⟨Nat.le_of_ble_eq_true rfl, Nat.le_of_ble_eq_true rfl⟩) hK hP hD hS hA (z_spAll (wL cI ad zk zm zb zs zr zu zt zf zg zbd zro zmc zmg zsp zjn) (wL cI ad zk54 zm54 zb54 zs54 zr54 zu54 zt54 zf54 zg54 zbd zro zmc54 zmg54 zsp54 zjn54)) ((paL cI ad zk54 zm54 zb54 zs54 zr54 zu54 zt54 zf54 zg54 zbd zro zmc54 zmg54 zsp54 zjn54).trans (paL cI ad zk zm zb zs zr zu zt zf zg zbd zro zmc zmg zsp zjn).symm) rfl rfl rfl rfl hl.1 rfl (Nat.le_of_ble_eq_true rfl) dX2_insert_54 ⟨Nat.le_of_ble_eq_true rfl, Nat.le_of_ble_eq_true rfl⟩ (fun H locs hP hD hS => ?_)
          refine lv_goto (tgt := 79) hx hb dX2_insert_57 (by decide) ?_
          exact J_79 zk54 zm54 zb54 zs54 zr54 zu54 zt54 zf54 zg54 zmc54 zmg54 zsp54 zjn54 (o2 hm) _ _ hP hD hS
      refine lv_icmp_ne (tgt := 47) hx hb dX2_insert_24 (by decide) (fun c_24 => ?_) (fun c_24 => ?_)
      · have hm := it_f hm c_24
        exact J_47 hm
      · have hm := it_t hm c_24
        refine lv_aload_n hx hb dX2_insert_27 rfl (lv_at hl 1 rfl) ?_
        obtain ⟨r28, h_28, hm⟩ := ob hm
        refine z_callRi (As := []) (rest := []) (ci := 2) (q := (RX2, TX2, 15)) ⟨hx, hb, hml, hown, hts⟩ (c_X2_allKeys l dC dI cI ad zk zm zb zs zr zu zt zf zg zbd zro zmc zmg zsp zjn F r28 h_28) (cwV 0 hts gX2_insert_X2_allKeys rfl rfl rfl kv_X2_allKeys ⟨Nat.le_of_ble_eq_true rfl, Nat.le_of_ble_eq_true rfl⟩) hK hP rfl rfl rfl rfl hl.1 rfl (Nat.le_of_ble_eq_true rfl) dX2_insert_28 ⟨Nat.le_of_ble_eq_true rfl, Nat.le_of_ble_eq_true rfl⟩ ?_
        refine lv_sipush (v := 256) hx hb dX2_insert_31 (by decide) ?_
        refine lv_icmp_lt (tgt := 47) hx hb dX2_insert_34 (by decide) (fun c_34 => ?_) (fun c_34 => ?_)
        · have hm := it_t hm c_34
          exact J_47 hm
        · have hm := it_f hm c_34
          exact vx_throwS hx hb hl9 (own := RX2) (cls := "java/lang/IllegalStateException") (names := ["java/lang/RuntimeException", "java/lang/Exception"]) (ik := 98) (is := 100) (ic := 102) hown (by decide +kernel) (by decide +kernel) zw4 zw5 (hV.1 (100, "key is there, or no room") (by decide +kernel)) (vx_hat (fun w h => hts w (List.mem_cons_of_mem _ (List.mem_append_left _ (List.mem_append_right _ h)))) (by decide +kernel) (zV_ng hV)) (by decide +kernel) hV.2.2.1 hV.2.2.2 hS (hl.1.trans hml.symm) dX2_insert_37 dX2_insert_40 dX2_insert_41 dX2_insert_43 dX2_insert_46 (fun x hx => (hnx x hx).elim) (Nat.le_of_ble_eq_true rfl) (Nat.le_of_ble_eq_true rfl) (Nat.le_of_ble_eq_true rfl) (Nat.le_of_ble_eq_true rfl) hlocks (z_xt (k := 2) rfl (o2 hm) hP hK hD hS) hS.2.2 (Nat.le_of_ble_eq_true rfl) (Nat.le_of_ble_eq_true rfl)
