set_option maxHeartbeats 4000000 in
set_option maxRecDepth 100000 in
theorem c_X1_begin (l : Launch) (dC : Nat → ClassId) (dI : Nat → Nat → Nat) (h : Nat) (zt : zT) (F : Nat) (p1 : Int32) (p2 : Int32) (p3 : Int32) (sz : Nat) (u_zt : zT) (hm : X1_begin F zt p1 p2 p3 = some u_zt) : Met l yX1_begin wsX1_begin ({ frames := 0, cells := 0, slots := 0, locals := 0 }) (va_Pc [.ref h, .int p1, .int p2, .int p3] (zW (dC, dI) (wT h zt) [] sz)) (zQv (dC, dI) (wT h u_zt) [] (va_A (wT h zt) sz)) 0 0 (va_A (wT h zt) sz) := by
  refine Met.ofW (cc := cX1_begin) (maxL := 4) (ret := none) (by decide) rfl ?_
  intro p e s m args below meth c s₁ B hml hv
  obtain ⟨rfl, hsz, hP, hK, hD0⟩ := hv
  have hx := B.exec
  have hb := B.bytes
  have hr := B.returns
  have hts := atoms_spec (ws := wsX1_begin) B.pre
  have hown : s.vm.findClass RX1 = some m.cls := findClass_of_methodNamed B.named
  have hlocks := B.notSynchronized
  subst hsz
  have hD := hD0.self (sz := s.heap.size)
  generalize hAe : va_A (wT h zt) s.heap.size = A at hD ⊢
  have hA : ∀ q : Nat, s.heap.size ≤ q → A q := fun q h => by rw [← hAe]; exact Or.inr h
  have hS : va_S A s.heap s.heap [] := va_S.rf
  generalize eL : ([] : List Loc) = locs at hS ⊢
  obtain ⟨H, eH⟩ : ∃ z : Heap, z = s.heap := ⟨_, rfl⟩
  have hP : va_P (dC, dI) vwCl (wT h zt) H := by rw [eH]; exact hP
  have hS : va_S A s.heap H locs := by rw [eH]; exact hS
  refine z_heap eH ?_
  have hl := lv_entry ([.ref h, .int p1, .int p2, .int p3]) (n := 4) (Nat.le_of_ble_eq_true rfl)
  rw [lg_entry_eq]
  generalize (lg_sl ([.ref h, .int p1, .int p2, .int p3]) ++ List.replicate (4 - (lg_sl ([.ref h, .int p1, .int p2, .int p3])).length) Slot.unset).toArray = ls at hl ⊢
  have hl : lv_has ls 4 [(0, .ref h), (1, .int p1), (2, .int p2), (3, .int p3)] := hl
  have zw0 := hts (.fieldLink RX1 24 "LearnedLedge$SlopeRange" "originKey" "I") (List.mem_cons_of_mem _ (List.mem_append_left _ (List.mem_of_getElem? (i := 0) rfl)))
  have zw1 := hts (.fieldLink RX1 28 "LearnedLedge$SlopeRange" "originPlace" "I") (List.mem_cons_of_mem _ (List.mem_append_left _ (List.mem_of_getElem? (i := 1) rfl)))
  have zw2 := hts (.fieldLink RX1 31 "LearnedLedge$SlopeRange" "error" "I") (List.mem_cons_of_mem _ (List.mem_append_left _ (List.mem_of_getElem? (i := 2) rfl)))
  have zw3 := hts (.fieldLink RX1 9 "LearnedLedge$SlopeRange" "leastRise" "J") (List.mem_cons_of_mem _ (List.mem_append_left _ (List.mem_of_getElem? (i := 3) rfl)))
  have zw4 := hts (.fieldLink RX1 15 "LearnedLedge$SlopeRange" "leastRun" "J") (List.mem_cons_of_mem _ (List.mem_append_left _ (List.mem_of_getElem? (i := 4) rfl)))
  have zw5 := hts (.fieldLink RX1 18 "LearnedLedge$SlopeRange" "mostRise" "J") (List.mem_cons_of_mem _ (List.mem_append_left _ (List.mem_of_getElem? (i := 5) rfl)))
  have zw6 := hts (.fieldLink RX1 21 "LearnedLedge$SlopeRange" "mostRun" "J") (List.mem_cons_of_mem _ (List.mem_append_left _ (List.mem_of_getElem? (i := 6) rfl)))
  have ziX1 : ∀ w ∈ u_ws RX1 TX1 7, w ∈ wsX1_begin := (fun _ h9 => (List.mem_cons_of_mem _ (List.mem_append_right _ h9)))
  refine lv_aload_n hx hb dX1_begin_0 rfl (lv_at hl 0 rfl) ?_
  refine lv_iload_n hx hb dX1_begin_1 rfl (lv_at hl 1 rfl) ?_
  refine va_put (D := (dC, dI)) (ci := 1) (v := .int p1) (ty := .int) (C := RX1) (T := TX1) (N := 7) hx hb hts ziX1 tyX1 tyX1_ok nmX1 hown hK hP hD hS 0 rfl rfl 0 (by decide) zw0 (fun _ h9 => h9) rfl (by decide +kernel) rfl rfl (Nat.le_of_ble_eq_true rfl) dX1_begin_2 (fun H locs hP hD hS => ?_)
  have hP : va_P (dC, dI) vwCl (wT h (p1, zt.2.1, zt.2.2.1, zt.2.2.2.1, zt.2.2.2.2.1, zt.2.2.2.2.2.1, zt.2.2.2.2.2.2)) H := hP
  have hD : va_D A (wT h (p1, zt.2.1, zt.2.2.1, zt.2.2.2.1, zt.2.2.2.2.1, zt.2.2.2.2.2.1, zt.2.2.2.2.2.2)) := hD
  refine lv_aload_n hx hb dX1_begin_5 rfl (lv_at hl 0 rfl) ?_
  refine lv_iload_n hx hb dX1_begin_6 rfl (lv_at hl 2 rfl) ?_
  refine va_put (D := (dC, dI)) (ci := 1) (v := .int p2) (ty := .int) (C := RX1) (T := TX1) (N := 7) hx hb hts ziX1 tyX1 tyX1_ok nmX1 hown hK hP hD hS 0 rfl rfl 1 (by decide) zw1 (fun _ h9 => h9) rfl (by decide +kernel) rfl rfl (Nat.le_of_ble_eq_true rfl) dX1_begin_7 (fun H locs hP hD hS => ?_)
  have hP : va_P (dC, dI) vwCl (wT h (p1, p2, zt.2.2.1, zt.2.2.2.1, zt.2.2.2.2.1, zt.2.2.2.2.2.1, zt.2.2.2.2.2.2)) H := hP
  have hD : va_D A (wT h (p1, p2, zt.2.2.1, zt.2.2.2.1, zt.2.2.2.2.1, zt.2.2.2.2.2.1, zt.2.2.2.2.2.2)) := hD
  refine lv_aload_n hx hb dX1_begin_10 rfl (lv_at hl 0 rfl) ?_
  refine lv_iload_n hx hb dX1_begin_11 rfl (lv_at hl 3 rfl) ?_
  refine va_put (D := (dC, dI)) (ci := 1) (v := .int p3) (ty := .int) (C := RX1) (T := TX1) (N := 7) hx hb hts ziX1 tyX1 tyX1_ok nmX1 hown hK hP hD hS 0 rfl rfl 2 (by decide) zw2 (fun _ h9 => h9) rfl (by decide +kernel) rfl rfl (Nat.le_of_ble_eq_true rfl) dX1_begin_12 (fun H locs hP hD hS => ?_)
  have hP : va_P (dC, dI) vwCl (wT h (p1, p2, p3, zt.2.2.2.1, zt.2.2.2.2.1, zt.2.2.2.2.2.1, zt.2.2.2.2.2.2)) H := hP
  have hD : va_D A (wT h (p1, p2, p3, zt.2.2.2.1, zt.2.2.2.2.1, zt.2.2.2.2.2.1, zt.2.2.2.2.2.2)) := hD
  refine lv_aload_n hx hb dX1_begin_15 rfl (lv_at hl 0 rfl) ?_
  refine lv_lconst (v := 0) hx hb dX1_begin_16 (by decide) ?_
  refine va_put (D := (dC, dI)) (ci := 1) (v := .long 0) (ty := .long) (C := RX1) (T := TX1) (N := 7) hx hb hts ziX1 tyX1 tyX1_ok nmX1 hown hK hP hD hS 0 rfl rfl 3 (by decide) zw3 (fun _ h9 => h9) rfl (by decide +kernel) rfl rfl (Nat.le_of_ble_eq_true rfl) dX1_begin_17 (fun H locs hP hD hS => ?_)
  have hP : va_P (dC, dI) vwCl (wT h (p1, p2, p3, 0, zt.2.2.2.2.1, zt.2.2.2.2.2.1, zt.2.2.2.2.2.2)) H := hP
  have hD : va_D A (wT h (p1, p2, p3, 0, zt.2.2.2.2.1, zt.2.2.2.2.2.1, zt.2.2.2.2.2.2)) := hD
  refine lv_aload_n hx hb dX1_begin_20 rfl (lv_at hl 0 rfl) ?_
  refine lv_lconst (v := 1) hx hb dX1_begin_21 (by decide) ?_
  refine va_put (D := (dC, dI)) (ci := 1) (v := .long 1) (ty := .long) (C := RX1) (T := TX1) (N := 7) hx hb hts ziX1 tyX1 tyX1_ok nmX1 hown hK hP hD hS 0 rfl rfl 4 (by decide) zw4 (fun _ h9 => h9) rfl (by decide +kernel) rfl rfl (Nat.le_of_ble_eq_true rfl) dX1_begin_22 (fun H locs hP hD hS => ?_)
  have hP : va_P (dC, dI) vwCl (wT h (p1, p2, p3, 0, 1, zt.2.2.2.2.2.1, zt.2.2.2.2.2.2)) H := hP
  have hD : va_D A (wT h (p1, p2, p3, 0, 1, zt.2.2.2.2.2.1, zt.2.2.2.2.2.2)) := hD
  refine lv_aload_n hx hb dX1_begin_25 rfl (lv_at hl 0 rfl) ?_
  refine lv_lconst (v := 1) hx hb dX1_begin_26 (by decide) ?_
  refine va_put (D := (dC, dI)) (ci := 1) (v := .long 1) (ty := .long) (C := RX1) (T := TX1) (N := 7) hx hb hts ziX1 tyX1 tyX1_ok nmX1 hown hK hP hD hS 0 rfl rfl 5 (by decide) zw5 (fun _ h9 => h9) rfl (by decide +kernel) rfl rfl (Nat.le_of_ble_eq_true rfl) dX1_begin_27 (fun H locs hP hD hS => ?_)
  have hP : va_P (dC, dI) vwCl (wT h (p1, p2, p3, 0, 1, 1, zt.2.2.2.2.2.2)) H := hP
  have hD : va_D A (wT h (p1, p2, p3, 0, 1, 1, zt.2.2.2.2.2.2)) := hD
  refine lv_aload_n hx hb dX1_begin_30 rfl (lv_at hl 0 rfl) ?_
  refine lv_lconst (v := 0) hx hb dX1_begin_31 (by decide) ?_
  refine va_put (D := (dC, dI)) (ci := 1) (v := .long 0) (ty := .long) (C := RX1) (T := TX1) (N := 7) hx hb hts ziX1 tyX1 tyX1_ok nmX1 hown hK hP hD hS 0 rfl rfl 6 (by decide) zw6 (fun _ h9 => h9) rfl (by decide +kernel) rfl rfl (Nat.le_of_ble_eq_true rfl) dX1_begin_32 (fun H locs hP hD hS => ?_)
  have hP : va_P (dC, dI) vwCl (wT h (p1, p2, p3, 0, 1, 1, 0)) H := hP
  have hD : va_D A (wT h (p1, p2, p3, 0, 1, 1, 0)) := hD
  cases o2 hm
  exact W.vret hx hb hr (fun t ht hW => ⟨⟨(), rfl, trivial, by rw [ht]; exact hP, va_K.moved hW.alike hK, hD⟩, hS.F ht⟩) hS.2.2 dX1_begin_35
set_option maxHeartbeats 4000000 in
set_option maxRecDepth 100000 in
theorem c_X1_take (l : Launch) (dC : Nat → ClassId) (dI : Nat → Nat → Nat) (h : Nat) (zt : zT) (F : Nat) (p1 : Int32) (p2 : Int32) (sz : Nat) (r : Int32) (u_zt : zT) (hm : X1_take F zt p1 p2 = some (r, u_zt)) : Met l yX1_take wsX1_take ({ frames := 0, cells := 0, slots := 0, locals := 0 }) (va_Pc [.ref h, .int p1, .int p2] (zW (dC, dI) (wT h zt) [] sz)) (zQi (dC, dI) (wT h u_zt) [] (va_A (wT h zt) sz) r) 0 0 (va_A (wT h zt) sz) := by
  refine Met.ofW (cc := cX1_take) (maxL := 11) (ret := (some .boolean)) (by decide) rfl ?_
  intro p e s m args below meth c s₁ B hml hv
  obtain ⟨rfl, hsz, hP, hK, hD0⟩ := hv
  have hx := B.exec
  have hb := B.bytes
  have hr := B.returns
  have hts := atoms_spec (ws := wsX1_take) B.pre
  have hown : s.vm.findClass RX1 = some m.cls := findClass_of_methodNamed B.named
  have hlocks := B.notSynchronized
  subst hsz
  have hD := hD0.self (sz := s.heap.size)
  generalize hAe : va_A (wT h zt) s.heap.size = A at hD ⊢
  have hA : ∀ q : Nat, s.heap.size ≤ q → A q := fun q h => by rw [← hAe]; exact Or.inr h
  have hS : va_S A s.heap s.heap [] := va_S.rf
  generalize eL : ([] : List Loc) = locs at hS ⊢
  obtain ⟨H, eH⟩ : ∃ z : Heap, z = s.heap := ⟨_, rfl⟩
  have hP : va_P (dC, dI) vwCl (wT h zt) H := by rw [eH]; exact hP
  have hS : va_S A s.heap H locs := by rw [eH]; exact hS
  refine z_heap eH ?_
  have hl := lv_entry ([.ref h, .int p1, .int p2]) (n := 11) (Nat.le_of_ble_eq_true rfl)
  rw [lg_entry_eq]
  generalize (lg_sl ([.ref h, .int p1, .int p2]) ++ List.replicate (11 - (lg_sl ([.ref h, .int p1, .int p2])).length) Slot.unset).toArray = ls at hl ⊢
  have hl : lv_has ls 11 [(0, .ref h), (1, .int p1), (2, .int p2)] := hl
  have zw0 := hts (.fieldLink RX1 24 "LearnedLedge$SlopeRange" "originKey" "I") (List.mem_cons_of_mem _ (List.mem_append_left _ (List.mem_of_getElem? (i := 0) rfl)))
  have zw1 := hts (.fieldLink RX1 28 "LearnedLedge$SlopeRange" "originPlace" "I") (List.mem_cons_of_mem _ (List.mem_append_left _ (List.mem_of_getElem? (i := 1) rfl)))
  have zw2 := hts (.fieldLink RX1 31 "LearnedLedge$SlopeRange" "error" "I") (List.mem_cons_of_mem _ (List.mem_append_left _ (List.mem_of_getElem? (i := 2) rfl)))
  have zw3 := hts (.constantLong RX1 34 (2)) (List.mem_cons_of_mem _ (List.mem_append_left _ (List.mem_of_getElem? (i := 3) rfl)))
  have zw4 := hts (.fieldLink RX1 15 "LearnedLedge$SlopeRange" "leastRun" "J") (List.mem_cons_of_mem _ (List.mem_append_left _ (List.mem_of_getElem? (i := 4) rfl)))
  have zw5 := hts (.fieldLink RX1 9 "LearnedLedge$SlopeRange" "leastRise" "J") (List.mem_cons_of_mem _ (List.mem_append_left _ (List.mem_of_getElem? (i := 5) rfl)))
  have zw6 := hts (.fieldLink RX1 21 "LearnedLedge$SlopeRange" "mostRun" "J") (List.mem_cons_of_mem _ (List.mem_append_left _ (List.mem_of_getElem? (i := 6) rfl)))
  have zw7 := hts (.fieldLink RX1 18 "LearnedLedge$SlopeRange" "mostRise" "J") (List.mem_cons_of_mem _ (List.mem_append_left _ (List.mem_of_getElem? (i := 7) rfl)))
  have ziX1 : ∀ w ∈ u_ws RX1 TX1 7, w ∈ wsX1_take := (fun _ h9 => (List.mem_cons_of_mem _ (List.mem_append_right _ h9)))
  refine lv_iload_n hx hb dX1_take_0 rfl (lv_at hl 1 rfl) ?_
  refine lv_i2l hx hb dX1_take_1 rfl ?_
  refine lv_aload_n hx hb dX1_take_2 rfl (lv_at hl 0 rfl) ?_
  refine va_get (D := (dC, dI)) (ci := 1) (v := .int zt.1) (C := RX1) (T := TX1) (N := 7) hx hb hts ziX1 hown hK hP 0 rfl rfl 0 (by decide) zw0 (fun _ h9 => h9) rfl dX1_take_3 ?_
  refine lv_i2l hx hb dX1_take_6 rfl ?_
  refine lv_lsub hx hb dX1_take_7 ?_
  refine lv_topl (fun x3 e_x3 => ?_)
  have hm := bnd_e hm e_x3
  refine lv_lstore_n (lv' := [(3, .long x3), (0, .ref h), (1, .int p1), (2, .int p2)]) hx hb dX1_take_8 rfl hl (by decide) rfl (fun ls hl => ?_)
  refine lv_iload_n hx hb dX1_take_9 rfl (lv_at hl 3 rfl) ?_
  refine lv_i2l hx hb dX1_take_10 rfl ?_
  refine lv_aload_n hx hb dX1_take_11 rfl (lv_at hl 1 rfl) ?_
  refine va_get (D := (dC, dI)) (ci := 1) (v := .int zt.2.1) (C := RX1) (T := TX1) (N := 7) hx hb hts ziX1 hown hK hP 0 rfl rfl 1 (by decide) zw1 (fun _ h9 => h9) rfl dX1_take_12 ?_
  refine lv_i2l hx hb dX1_take_15 rfl ?_
  refine lv_lsub hx hb dX1_take_16 ?_
  refine lv_aload_n hx hb dX1_take_17 rfl (lv_at hl 1 rfl) ?_
  refine va_get (D := (dC, dI)) (ci := 1) (v := .int zt.2.2.1) (C := RX1) (T := TX1) (N := 7) hx hb hts ziX1 hown hK hP 0 rfl rfl 2 (by decide) zw2 (fun _ h9 => h9) rfl dX1_take_18 ?_
  refine lv_i2l hx hb dX1_take_21 rfl ?_
  refine lv_lsub hx hb dX1_take_22 ?_
  refine lv_topl (fun x5 e_x5 => ?_)
  have hm := bnd_e hm e_x5
  refine lv_lstore (lv' := [(5, .long x5), (3, .long x3), (0, .ref h), (1, .int p1), (2, .int p2)]) hx hb dX1_take_23 hl (by decide) rfl (fun ls hl => ?_)
  refine lv_lload hx hb dX1_take_25 (lv_at hl 0 rfl) ?_
  refine lv_ldc2 hx hb hown zw3 dX1_take_27 ?_
  refine lv_aload_n hx hb dX1_take_30 rfl (lv_at hl 2 rfl) ?_
  refine va_get (D := (dC, dI)) (ci := 1) (v := .int zt.2.2.1) (C := RX1) (T := TX1) (N := 7) hx hb hts ziX1 hown hK hP 0 rfl rfl 2 (by decide) zw2 (fun _ h9 => h9) rfl dX1_take_31 ?_
  refine lv_i2l hx hb dX1_take_34 rfl ?_
  refine lv_lmul hx hb dX1_take_35 ?_
  refine lv_ladd hx hb dX1_take_36 ?_
  refine lv_topl (fun x7 e_x7 => ?_)
  have hm := bnd_e hm e_x7
  refine lv_lstore (lv' := [(7, .long x7), (5, .long x5), (3, .long x3), (0, .ref h), (1, .int p1), (2, .int p2)]) hx hb dX1_take_37 hl (by decide) rfl (fun ls hl => ?_)
  refine lv_lload hx hb dX1_take_39 (lv_at hl 1 rfl) ?_
  refine lv_aload_n hx hb dX1_take_41 rfl (lv_at hl 3 rfl) ?_
  refine va_get (D := (dC, dI)) (ci := 1) (v := .long zt.2.2.2.2.1) (C := RX1) (T := TX1) (N := 7) hx hb hts ziX1 hown hK hP 0 rfl rfl 4 (by decide) zw4 (fun _ h9 => h9) rfl dX1_take_42 ?_
  refine lv_lmul hx hb dX1_take_45 ?_
  refine lv_aload_n hx hb dX1_take_46 rfl (lv_at hl 3 rfl) ?_
  refine va_get (D := (dC, dI)) (ci := 1) (v := .long zt.2.2.2.1) (C := RX1) (T := TX1) (N := 7) hx hb hts ziX1 hown hK hP 0 rfl rfl 3 (by decide) zw5 (fun _ h9 => h9) rfl dX1_take_47 ?_
  refine lv_lload_n hx hb dX1_take_50 rfl (lv_at hl 2 rfl) ?_
  refine lv_lmul hx hb dX1_take_51 ?_
  refine W.lcmp hx hb dX1_take_52 ?_
  obtain ⟨y61, e_y61⟩ : ∃ y : Int32, y = (if (x5 * zt.2.2.2.2.1) ≤ (zt.2.2.2.1 * x3) then 0 else 1) := ⟨_, rfl⟩
  have hm := bnd_e hm e_y61
  have J_61 : W p l e (headSpec wsX1_take ({ frames := 0, cells := 0, slots := 0, locals := 0 } : Room)).room s m ([.ref h, .int p1, .int p2] : List Value).toArray below meth c H locs 0 0 (MQ below (zQi (dC, dI) (wT h u_zt) [] A r) ([.ref h, .int p1, .int p2] : List Value).toArray s 0 0 A) (F0 m 61 ls [.int y61]) := by
    refine lv_istore (lv' := [(9, .int y61), (7, .long x7), (5, .long x5), (3, .long x3), (0, .ref h), (1, .int p1), (2, .int p2)]) hx hb dX1_take_61 hl (by decide) rfl (fun ls hl => ?_)
    refine lv_lload hx hb dX1_take_63 (lv_at hl 1 rfl) ?_
    refine lv_aload_n hx hb dX1_take_65 rfl (lv_at hl 4 rfl) ?_
    refine va_get (D := (dC, dI)) (ci := 1) (v := .long zt.2.2.2.2.2.2) (C := RX1) (T := TX1) (N := 7) hx hb hts ziX1 hown hK hP 0 rfl rfl 6 (by decide) zw6 (fun _ h9 => h9) rfl dX1_take_66 ?_
    refine lv_lmul hx hb dX1_take_69 ?_
    refine lv_aload_n hx hb dX1_take_70 rfl (lv_at hl 4 rfl) ?_
    refine va_get (D := (dC, dI)) (ci := 1) (v := .long zt.2.2.2.2.2.1) (C := RX1) (T := TX1) (N := 7) hx hb hts ziX1 hown hK hP 0 rfl rfl 5 (by decide) zw7 (fun _ h9 => h9) rfl dX1_take_71 ?_
    refine lv_lload_n hx hb dX1_take_74 rfl (lv_at hl 3 rfl) ?_
    refine lv_lmul hx hb dX1_take_75 ?_
    refine W.lcmp hx hb dX1_take_76 ?_
    obtain ⟨y85, e_y85⟩ : ∃ y : Int32, y = (if (zt.2.2.2.2.2.1 * x3) ≤ (x7 * zt.2.2.2.2.2.2) then 0 else 1) := ⟨_, rfl⟩
    have hm := bnd_e hm e_y85
    have J_85 : W p l e (headSpec wsX1_take ({ frames := 0, cells := 0, slots := 0, locals := 0 } : Room)).room s m ([.ref h, .int p1, .int p2] : List Value).toArray below meth c H locs 0 0 (MQ below (zQi (dC, dI) (wT h u_zt) [] A r) ([.ref h, .int p1, .int p2] : List Value).toArray s 0 0 A) (F0 m 85 ls [.int y85]) := by
      refine lv_istore (lv' := [(10, .int y85), (9, .int y61), (7, .long x7), (5, .long x5), (3, .long x3), (0, .ref h), (1, .int p1), (2, .int p2)]) hx hb dX1_take_85 hl (by decide) rfl (fun ls hl => ?_)
      refine lv_iload hx hb dX1_take_87 (lv_at hl 1 rfl) ?_
      refine lv_if_eq (tgt := 109) hx hb dX1_take_89 (by decide) (fun c_89 => ?_) (fun c_89 => ?_)
      · have hm := it_t hm c_89
        refine lv_iload hx hb dX1_take_109 (lv_at hl 0 rfl) ?_
        refine lv_if_eq (tgt := 133) hx hb dX1_take_111 (by decide) (fun c_111 => ?_) (fun c_111 => ?_)
        · have hm := it_t hm c_111
          refine lv_iload hx hb dX1_take_133 (lv_at hl 1 rfl) ?_
          obtain ⟨z_149, hq_149, hm⟩ := ob hm
          have J_149 : ∀ (ztj149 : zT), z_149 = ztj149 → ∀ (H : Heap) (locs : List Loc), va_P (dC, dI) vwCl (wT h ztj149) H → va_D A (wT h ztj149) → va_S A s.heap H locs → W p l e (headSpec wsX1_take ({ frames := 0, cells := 0, slots := 0, locals := 0 } : Room)).room s m ([.ref h, .int p1, .int p2] : List Value).toArray below meth c H locs 0 0 (MQ below (zQi (dC, dI) (wT h u_zt) [] A r) ([.ref h, .int p1, .int p2] : List Value).toArray s 0 0 A) (F0 m 149 ls []) := by
            intro ztj149 ez H locs hP hD hS
            rw [ez] at hm
            refine lv_iload hx hb dX1_take_149 (lv_at hl 0 rfl) ?_
            refine lv_if_eq (tgt := 165) hx hb dX1_take_151 (by decide) (fun c_151 => ?_) (fun c_151 => ?_)
            · have hm := it_t hm c_151
              refine lv_iconst (v := 1) hx hb dX1_take_165 (by decide) ?_
              cases o2 hm
              exact W.zret hx hb hr rfl (fun t ht hW => ⟨⟨_, (), rfl, rfl, by rw [ht]; exact hP, va_K.moved hW.alike hK, hD⟩, hS.F ht⟩) hS.2.2 dX1_take_166
            · have hm := it_f hm c_151
              refine lv_aload_n hx hb dX1_take_154 rfl (lv_at hl 5 rfl) ?_
              refine lv_lload hx hb dX1_take_155 (lv_at hl 2 rfl) ?_
              refine va_put (D := (dC, dI)) (ci := 1) (v := .long x7) (ty := .long) (C := RX1) (T := TX1) (N := 7) hx hb hts ziX1 tyX1 tyX1_ok nmX1 hown hK hP hD hS 0 rfl rfl 5 (by decide) zw7 (fun _ h9 => h9) rfl (by decide +kernel) rfl rfl (Nat.le_of_ble_eq_true rfl) dX1_take_157 (fun H locs hP hD hS => ?_)
              have hP : va_P (dC, dI) vwCl (wT h (ztj149.1, ztj149.2.1, ztj149.2.2.1, ztj149.2.2.2.1, ztj149.2.2.2.2.1, x7, ztj149.2.2.2.2.2.2)) H := hP
              have hD : va_D A (wT h (ztj149.1, ztj149.2.1, ztj149.2.2.1, ztj149.2.2.2.1, ztj149.2.2.2.2.1, x7, ztj149.2.2.2.2.2.2)) := hD
              refine lv_aload_n hx hb dX1_take_160 rfl (lv_at hl 5 rfl) ?_
              refine lv_lload_n hx hb dX1_take_161 rfl (lv_at hl 4 rfl) ?_
              refine va_put (D := (dC, dI)) (ci := 1) (v := .long x3) (ty := .long) (C := RX1) (T := TX1) (N := 7) hx hb hts ziX1 tyX1 tyX1_ok nmX1 hown hK hP hD hS 0 rfl rfl 6 (by decide) zw6 (fun _ h9 => h9) rfl (by decide +kernel) rfl rfl (Nat.le_of_ble_eq_true rfl) dX1_take_162 (fun H locs hP hD hS => ?_)
              have hP : va_P (dC, dI) vwCl (wT h (ztj149.1, ztj149.2.1, ztj149.2.2.1, ztj149.2.2.2.1, ztj149.2.2.2.2.1, x7, x3)) H := hP
              have hD : va_D A (wT h (ztj149.1, ztj149.2.1, ztj149.2.2.1, ztj149.2.2.2.1, ztj149.2.2.2.2.1, x7, x3)) := hD
              refine lv_iconst (v := 1) hx hb dX1_take_165 (by decide) ?_
              cases o2 hm
              exact W.zret hx hb hr rfl (fun t ht hW => ⟨⟨_, (), rfl, rfl, by rw [ht]; exact hP, va_K.moved hW.alike hK, hD⟩, hS.F ht⟩) hS.2.2 dX1_take_166
          have hm := hq_149
          refine lv_if_eq (tgt := 149) hx hb dX1_take_135 (by decide) (fun c_135 => ?_) (fun c_135 => ?_)
          · have hm := it_t hm c_135
            exact J_149 zt (o2 hm) _ _ hP hD hS
          · have hm := it_f hm c_135
            refine lv_aload_n hx hb dX1_take_138 rfl (lv_at hl 5 rfl) ?_
            refine lv_lload hx hb dX1_take_139 (lv_at hl 3 rfl) ?_
            refine va_put (D := (dC, dI)) (ci := 1) (v := .long x5) (ty := .long) (C := RX1) (T := TX1) (N := 7) hx hb hts ziX1 tyX1 tyX1_ok nmX1 hown hK hP hD hS 0 rfl rfl 3 (by decide) zw5 (fun _ h9 => h9) rfl (by decide +kernel) rfl rfl (Nat.le_of_ble_eq_true rfl) dX1_take_141 (fun H locs hP hD hS => ?_)
            have hP : va_P (dC, dI) vwCl (wT h (zt.1, zt.2.1, zt.2.2.1, x5, zt.2.2.2.2.1, zt.2.2.2.2.2.1, zt.2.2.2.2.2.2)) H := hP
            have hD : va_D A (wT h (zt.1, zt.2.1, zt.2.2.1, x5, zt.2.2.2.2.1, zt.2.2.2.2.2.1, zt.2.2.2.2.2.2)) := hD
            refine lv_aload_n hx hb dX1_take_144 rfl (lv_at hl 5 rfl) ?_
            refine lv_lload_n hx hb dX1_take_145 rfl (lv_at hl 4 rfl) ?_
            refine va_put (D := (dC, dI)) (ci := 1) (v := .long x3) (ty := .long) (C := RX1) (T := TX1) (N := 7) hx hb hts ziX1 tyX1 tyX1_ok nmX1 hown hK hP hD hS 0 rfl rfl 4 (by decide) zw4 (fun _ h9 => h9) rfl (by decide +kernel) rfl rfl (Nat.le_of_ble_eq_true rfl) dX1_take_146 (fun H locs hP hD hS => ?_)
            have hP : va_P (dC, dI) vwCl (wT h (zt.1, zt.2.1, zt.2.2.1, x5, x3, zt.2.2.2.2.2.1, zt.2.2.2.2.2.2)) H := hP
            have hD : va_D A (wT h (zt.1, zt.2.1, zt.2.2.1, x5, x3, zt.2.2.2.2.2.1, zt.2.2.2.2.2.2)) := hD
            exact J_149 (zt.1, zt.2.1, zt.2.2.1, x5, x3, zt.2.2.2.2.2.1, zt.2.2.2.2.2.2) (o2 hm) _ _ hP hD hS
        · have hm := it_f hm c_111
          refine lv_lload hx hb dX1_take_114 (lv_at hl 2 rfl) ?_
          refine lv_aload_n hx hb dX1_take_116 rfl (lv_at hl 5 rfl) ?_
          refine va_get (D := (dC, dI)) (ci := 1) (v := .long zt.2.2.2.2.1) (C := RX1) (T := TX1) (N := 7) hx hb hts ziX1 hown hK hP 0 rfl rfl 4 (by decide) zw4 (fun _ h9 => h9) rfl dX1_take_117 ?_
          refine lv_lmul hx hb dX1_take_120 ?_
          refine lv_aload_n hx hb dX1_take_121 rfl (lv_at hl 5 rfl) ?_
          refine va_get (D := (dC, dI)) (ci := 1) (v := .long zt.2.2.2.1) (C := RX1) (T := TX1) (N := 7) hx hb hts ziX1 hown hK hP 0 rfl rfl 3 (by decide) zw5 (fun _ h9 => h9) rfl dX1_take_122 ?_
          refine lv_lload_n hx hb dX1_take_125 rfl (lv_at hl 4 rfl) ?_
          refine lv_lmul hx hb dX1_take_126 ?_
          refine W.lcmp hx hb dX1_take_127 ?_
          refine lv_if_ge (tgt := 133) hx hb dX1_take_128 (by decide) (fun c_128 => ?_) (fun c_128 => ?_)
          · have c_128 : (zt.2.2.2.1 * x3) ≤ (x7 * zt.2.2.2.2.1) := (lg_cmp_ge _ _).mp c_128
            have hm := it_t hm c_128
            refine lv_iload hx hb dX1_take_133 (lv_at hl 1 rfl) ?_
            obtain ⟨z_149, hq_149, hm⟩ := ob hm
            have J_149 : ∀ (ztj149_1 : zT), z_149 = ztj149_1 → ∀ (H : Heap) (locs : List Loc), va_P (dC, dI) vwCl (wT h ztj149_1) H → va_D A (wT h ztj149_1) → va_S A s.heap H locs → W p l e (headSpec wsX1_take ({ frames := 0, cells := 0, slots := 0, locals := 0 } : Room)).room s m ([.ref h, .int p1, .int p2] : List Value).toArray below meth c H locs 0 0 (MQ below (zQi (dC, dI) (wT h u_zt) [] A r) ([.ref h, .int p1, .int p2] : List Value).toArray s 0 0 A) (F0 m 149 ls []) := by
              intro ztj149_1 ez H locs hP hD hS
              rw [ez] at hm
              refine lv_iload hx hb dX1_take_149 (lv_at hl 0 rfl) ?_
              refine lv_if_eq (tgt := 165) hx hb dX1_take_151 (by decide) (fun c_151 => ?_) (fun c_151 => ?_)
              · have hm := it_t hm c_151
                refine lv_iconst (v := 1) hx hb dX1_take_165 (by decide) ?_
                cases o2 hm
                exact W.zret hx hb hr rfl (fun t ht hW => ⟨⟨_, (), rfl, rfl, by rw [ht]; exact hP, va_K.moved hW.alike hK, hD⟩, hS.F ht⟩) hS.2.2 dX1_take_166
              · have hm := it_f hm c_151
                refine lv_aload_n hx hb dX1_take_154 rfl (lv_at hl 5 rfl) ?_
                refine lv_lload hx hb dX1_take_155 (lv_at hl 2 rfl) ?_
                refine va_put (D := (dC, dI)) (ci := 1) (v := .long x7) (ty := .long) (C := RX1) (T := TX1) (N := 7) hx hb hts ziX1 tyX1 tyX1_ok nmX1 hown hK hP hD hS 0 rfl rfl 5 (by decide) zw7 (fun _ h9 => h9) rfl (by decide +kernel) rfl rfl (Nat.le_of_ble_eq_true rfl) dX1_take_157 (fun H locs hP hD hS => ?_)
                have hP : va_P (dC, dI) vwCl (wT h (ztj149_1.1, ztj149_1.2.1, ztj149_1.2.2.1, ztj149_1.2.2.2.1, ztj149_1.2.2.2.2.1, x7, ztj149_1.2.2.2.2.2.2)) H := hP
                have hD : va_D A (wT h (ztj149_1.1, ztj149_1.2.1, ztj149_1.2.2.1, ztj149_1.2.2.2.1, ztj149_1.2.2.2.2.1, x7, ztj149_1.2.2.2.2.2.2)) := hD
                refine lv_aload_n hx hb dX1_take_160 rfl (lv_at hl 5 rfl) ?_
                refine lv_lload_n hx hb dX1_take_161 rfl (lv_at hl 4 rfl) ?_
                refine va_put (D := (dC, dI)) (ci := 1) (v := .long x3) (ty := .long) (C := RX1) (T := TX1) (N := 7) hx hb hts ziX1 tyX1 tyX1_ok nmX1 hown hK hP hD hS 0 rfl rfl 6 (by decide) zw6 (fun _ h9 => h9) rfl (by decide +kernel) rfl rfl (Nat.le_of_ble_eq_true rfl) dX1_take_162 (fun H locs hP hD hS => ?_)
                have hP : va_P (dC, dI) vwCl (wT h (ztj149_1.1, ztj149_1.2.1, ztj149_1.2.2.1, ztj149_1.2.2.2.1, ztj149_1.2.2.2.2.1, x7, x3)) H := hP
                have hD : va_D A (wT h (ztj149_1.1, ztj149_1.2.1, ztj149_1.2.2.1, ztj149_1.2.2.2.1, ztj149_1.2.2.2.2.1, x7, x3)) := hD
                refine lv_iconst (v := 1) hx hb dX1_take_165 (by decide) ?_
                cases o2 hm
                exact W.zret hx hb hr rfl (fun t ht hW => ⟨⟨_, (), rfl, rfl, by rw [ht]; exact hP, va_K.moved hW.alike hK, hD⟩, hS.F ht⟩) hS.2.2 dX1_take_166
            have hm := hq_149
            refine lv_if_eq (tgt := 149) hx hb dX1_take_135 (by decide) (fun c_135 => ?_) (fun c_135 => ?_)
            · have hm := it_t hm c_135
              exact J_149 zt (o2 hm) _ _ hP hD hS
            · have hm := it_f hm c_135
              refine lv_aload_n hx hb dX1_take_138 rfl (lv_at hl 5 rfl) ?_
              refine lv_lload hx hb dX1_take_139 (lv_at hl 3 rfl) ?_
              refine va_put (D := (dC, dI)) (ci := 1) (v := .long x5) (ty := .long) (C := RX1) (T := TX1) (N := 7) hx hb hts ziX1 tyX1 tyX1_ok nmX1 hown hK hP hD hS 0 rfl rfl 3 (by decide) zw5 (fun _ h9 => h9) rfl (by decide +kernel) rfl rfl (Nat.le_of_ble_eq_true rfl) dX1_take_141 (fun H locs hP hD hS => ?_)
              have hP : va_P (dC, dI) vwCl (wT h (zt.1, zt.2.1, zt.2.2.1, x5, zt.2.2.2.2.1, zt.2.2.2.2.2.1, zt.2.2.2.2.2.2)) H := hP
              have hD : va_D A (wT h (zt.1, zt.2.1, zt.2.2.1, x5, zt.2.2.2.2.1, zt.2.2.2.2.2.1, zt.2.2.2.2.2.2)) := hD
              refine lv_aload_n hx hb dX1_take_144 rfl (lv_at hl 5 rfl) ?_
              refine lv_lload_n hx hb dX1_take_145 rfl (lv_at hl 4 rfl) ?_
              refine va_put (D := (dC, dI)) (ci := 1) (v := .long x3) (ty := .long) (C := RX1) (T := TX1) (N := 7) hx hb hts ziX1 tyX1 tyX1_ok nmX1 hown hK hP hD hS 0 rfl rfl 4 (by decide) zw4 (fun _ h9 => h9) rfl (by decide +kernel) rfl rfl (Nat.le_of_ble_eq_true rfl) dX1_take_146 (fun H locs hP hD hS => ?_)
              have hP : va_P (dC, dI) vwCl (wT h (zt.1, zt.2.1, zt.2.2.1, x5, x3, zt.2.2.2.2.2.1, zt.2.2.2.2.2.2)) H := hP
              have hD : va_D A (wT h (zt.1, zt.2.1, zt.2.2.1, x5, x3, zt.2.2.2.2.2.1, zt.2.2.2.2.2.2)) := hD
              exact J_149 (zt.1, zt.2.1, zt.2.2.1, x5, x3, zt.2.2.2.2.2.1, zt.2.2.2.2.2.2) (o2 hm) _ _ hP hD hS
          · have c_128 : ¬ ((zt.2.2.2.1 * x3) ≤ (x7 * zt.2.2.2.2.1)) := fun h => c_128 ((lg_cmp_ge _ _).mpr h)
            have hm := it_f hm c_128
            refine lv_iconst (v := 0) hx hb dX1_take_131 (by decide) ?_
            cases o2 hm
            exact W.zret hx hb hr rfl (fun t ht hW => ⟨⟨_, (), rfl, rfl, by rw [ht]; exact hP, va_K.moved hW.alike hK, hD⟩, hS.F ht⟩) hS.2.2 dX1_take_132
      · have hm := it_f hm c_89
        refine lv_lload hx hb dX1_take_92 (lv_at hl 3 rfl) ?_
        refine lv_aload_n hx hb dX1_take_94 rfl (lv_at hl 5 rfl) ?_
        refine va_get (D := (dC, dI)) (ci := 1) (v := .long zt.2.2.2.2.2.2) (C := RX1) (T := TX1) (N := 7) hx hb hts ziX1 hown hK hP 0 rfl rfl 6 (by decide) zw6 (fun _ h9 => h9) rfl dX1_take_95 ?_
        refine lv_lmul hx hb dX1_take_98 ?_
        refine lv_aload_n hx hb dX1_take_99 rfl (lv_at hl 5 rfl) ?_
        refine va_get (D := (dC, dI)) (ci := 1) (v := .long zt.2.2.2.2.2.1) (C := RX1) (T := TX1) (N := 7) hx hb hts ziX1 hown hK hP 0 rfl rfl 5 (by decide) zw7 (fun _ h9 => h9) rfl dX1_take_100 ?_
        refine lv_lload_n hx hb dX1_take_103 rfl (lv_at hl 4 rfl) ?_
        refine lv_lmul hx hb dX1_take_104 ?_
        refine W.lcmp hx hb dX1_take_105 ?_
        refine lv_if_gt (tgt := 131) hx hb dX1_take_106 (by decide) (fun c_106 => ?_) (fun c_106 => ?_)
        · have c_106 : (zt.2.2.2.2.2.1 * x3) < (x5 * zt.2.2.2.2.2.2) := (lg_cmp_gt _ _).mp c_106
          have hm := it_t hm c_106
          refine lv_iconst (v := 0) hx hb dX1_take_131 (by decide) ?_
          cases o2 hm
          exact W.zret hx hb hr rfl (fun t ht hW => ⟨⟨_, (), rfl, rfl, by rw [ht]; exact hP, va_K.moved hW.alike hK, hD⟩, hS.F ht⟩) hS.2.2 dX1_take_132
        · have c_106 : ¬ ((zt.2.2.2.2.2.1 * x3) < (x5 * zt.2.2.2.2.2.2)) := fun h => c_106 ((lg_cmp_gt _ _).mpr h)
          have hm := it_f hm c_106
          refine lv_iload hx hb dX1_take_109 (lv_at hl 0 rfl) ?_
          refine lv_if_eq (tgt := 133) hx hb dX1_take_111 (by decide) (fun c_111 => ?_) (fun c_111 => ?_)
          · have hm := it_t hm c_111
            refine lv_iload hx hb dX1_take_133 (lv_at hl 1 rfl) ?_
            obtain ⟨z_149, hq_149, hm⟩ := ob hm
            have J_149 : ∀ (ztj149_2 : zT), z_149 = ztj149_2 → ∀ (H : Heap) (locs : List Loc), va_P (dC, dI) vwCl (wT h ztj149_2) H → va_D A (wT h ztj149_2) → va_S A s.heap H locs → W p l e (headSpec wsX1_take ({ frames := 0, cells := 0, slots := 0, locals := 0 } : Room)).room s m ([.ref h, .int p1, .int p2] : List Value).toArray below meth c H locs 0 0 (MQ below (zQi (dC, dI) (wT h u_zt) [] A r) ([.ref h, .int p1, .int p2] : List Value).toArray s 0 0 A) (F0 m 149 ls []) := by
              intro ztj149_2 ez H locs hP hD hS
              rw [ez] at hm
              refine lv_iload hx hb dX1_take_149 (lv_at hl 0 rfl) ?_
              refine lv_if_eq (tgt := 165) hx hb dX1_take_151 (by decide) (fun c_151 => ?_) (fun c_151 => ?_)
              · have hm := it_t hm c_151
                refine lv_iconst (v := 1) hx hb dX1_take_165 (by decide) ?_
                cases o2 hm
                exact W.zret hx hb hr rfl (fun t ht hW => ⟨⟨_, (), rfl, rfl, by rw [ht]; exact hP, va_K.moved hW.alike hK, hD⟩, hS.F ht⟩) hS.2.2 dX1_take_166
              · have hm := it_f hm c_151
                refine lv_aload_n hx hb dX1_take_154 rfl (lv_at hl 5 rfl) ?_
                refine lv_lload hx hb dX1_take_155 (lv_at hl 2 rfl) ?_
                refine va_put (D := (dC, dI)) (ci := 1) (v := .long x7) (ty := .long) (C := RX1) (T := TX1) (N := 7) hx hb hts ziX1 tyX1 tyX1_ok nmX1 hown hK hP hD hS 0 rfl rfl 5 (by decide) zw7 (fun _ h9 => h9) rfl (by decide +kernel) rfl rfl (Nat.le_of_ble_eq_true rfl) dX1_take_157 (fun H locs hP hD hS => ?_)
                have hP : va_P (dC, dI) vwCl (wT h (ztj149_2.1, ztj149_2.2.1, ztj149_2.2.2.1, ztj149_2.2.2.2.1, ztj149_2.2.2.2.2.1, x7, ztj149_2.2.2.2.2.2.2)) H := hP
                have hD : va_D A (wT h (ztj149_2.1, ztj149_2.2.1, ztj149_2.2.2.1, ztj149_2.2.2.2.1, ztj149_2.2.2.2.2.1, x7, ztj149_2.2.2.2.2.2.2)) := hD
                refine lv_aload_n hx hb dX1_take_160 rfl (lv_at hl 5 rfl) ?_
                refine lv_lload_n hx hb dX1_take_161 rfl (lv_at hl 4 rfl) ?_
                refine va_put (D := (dC, dI)) (ci := 1) (v := .long x3) (ty := .long) (C := RX1) (T := TX1) (N := 7) hx hb hts ziX1 tyX1 tyX1_ok nmX1 hown hK hP hD hS 0 rfl rfl 6 (by decide) zw6 (fun _ h9 => h9) rfl (by decide +kernel) rfl rfl (Nat.le_of_ble_eq_true rfl) dX1_take_162 (fun H locs hP hD hS => ?_)
                have hP : va_P (dC, dI) vwCl (wT h (ztj149_2.1, ztj149_2.2.1, ztj149_2.2.2.1, ztj149_2.2.2.2.1, ztj149_2.2.2.2.2.1, x7, x3)) H := hP
                have hD : va_D A (wT h (ztj149_2.1, ztj149_2.2.1, ztj149_2.2.2.1, ztj149_2.2.2.2.1, ztj149_2.2.2.2.2.1, x7, x3)) := hD
                refine lv_iconst (v := 1) hx hb dX1_take_165 (by decide) ?_
                cases o2 hm
                exact W.zret hx hb hr rfl (fun t ht hW => ⟨⟨_, (), rfl, rfl, by rw [ht]; exact hP, va_K.moved hW.alike hK, hD⟩, hS.F ht⟩) hS.2.2 dX1_take_166
            have hm := hq_149
            refine lv_if_eq (tgt := 149) hx hb dX1_take_135 (by decide) (fun c_135 => ?_) (fun c_135 => ?_)
            · have hm := it_t hm c_135
              exact J_149 zt (o2 hm) _ _ hP hD hS
            · have hm := it_f hm c_135
              refine lv_aload_n hx hb dX1_take_138 rfl (lv_at hl 5 rfl) ?_
              refine lv_lload hx hb dX1_take_139 (lv_at hl 3 rfl) ?_
              refine va_put (D := (dC, dI)) (ci := 1) (v := .long x5) (ty := .long) (C := RX1) (T := TX1) (N := 7) hx hb hts ziX1 tyX1 tyX1_ok nmX1 hown hK hP hD hS 0 rfl rfl 3 (by decide) zw5 (fun _ h9 => h9) rfl (by decide +kernel) rfl rfl (Nat.le_of_ble_eq_true rfl) dX1_take_141 (fun H locs hP hD hS => ?_)
              have hP : va_P (dC, dI) vwCl (wT h (zt.1, zt.2.1, zt.2.2.1, x5, zt.2.2.2.2.1, zt.2.2.2.2.2.1, zt.2.2.2.2.2.2)) H := hP
              have hD : va_D A (wT h (zt.1, zt.2.1, zt.2.2.1, x5, zt.2.2.2.2.1, zt.2.2.2.2.2.1, zt.2.2.2.2.2.2)) := hD
              refine lv_aload_n hx hb dX1_take_144 rfl (lv_at hl 5 rfl) ?_
              refine lv_lload_n hx hb dX1_take_145 rfl (lv_at hl 4 rfl) ?_
              refine va_put (D := (dC, dI)) (ci := 1) (v := .long x3) (ty := .long) (C := RX1) (T := TX1) (N := 7) hx hb hts ziX1 tyX1 tyX1_ok nmX1 hown hK hP hD hS 0 rfl rfl 4 (by decide) zw4 (fun _ h9 => h9) rfl (by decide +kernel) rfl rfl (Nat.le_of_ble_eq_true rfl) dX1_take_146 (fun H locs hP hD hS => ?_)
              have hP : va_P (dC, dI) vwCl (wT h (zt.1, zt.2.1, zt.2.2.1, x5, x3, zt.2.2.2.2.2.1, zt.2.2.2.2.2.2)) H := hP
              have hD : va_D A (wT h (zt.1, zt.2.1, zt.2.2.1, x5, x3, zt.2.2.2.2.2.1, zt.2.2.2.2.2.2)) := hD
              exact J_149 (zt.1, zt.2.1, zt.2.2.1, x5, x3, zt.2.2.2.2.2.1, zt.2.2.2.2.2.2) (o2 hm) _ _ hP hD hS
          · have hm := it_f hm c_111
            refine lv_lload hx hb dX1_take_114 (lv_at hl 2 rfl) ?_
            refine lv_aload_n hx hb dX1_take_116 rfl (lv_at hl 5 rfl) ?_
            refine va_get (D := (dC, dI)) (ci := 1) (v := .long zt.2.2.2.2.1) (C := RX1) (T := TX1) (N := 7) hx hb hts ziX1 hown hK hP 0 rfl rfl 4 (by decide) zw4 (fun _ h9 => h9) rfl dX1_take_117 ?_
            refine lv_lmul hx hb dX1_take_120 ?_
            refine lv_aload_n hx hb dX1_take_121 rfl (lv_at hl 5 rfl) ?_
            refine va_get (D := (dC, dI)) (ci := 1) (v := .long zt.2.2.2.1) (C := RX1) (T := TX1) (N := 7) hx hb hts ziX1 hown hK hP 0 rfl rfl 3 (by decide) zw5 (fun _ h9 => h9) rfl dX1_take_122 ?_
            refine lv_lload_n hx hb dX1_take_125 rfl (lv_at hl 4 rfl) ?_
            refine lv_lmul hx hb dX1_take_126 ?_
            refine W.lcmp hx hb dX1_take_127 ?_
            refine lv_if_ge (tgt := 133) hx hb dX1_take_128 (by decide) (fun c_128 => ?_) (fun c_128 => ?_)
            · have c_128 : (zt.2.2.2.1 * x3) ≤ (x7 * zt.2.2.2.2.1) := (lg_cmp_ge _ _).mp c_128
              have hm := it_t hm c_128
              refine lv_iload hx hb dX1_take_133 (lv_at hl 1 rfl) ?_
              obtain ⟨z_149, hq_149, hm⟩ := ob hm
              have J_149 : ∀ (ztj149_3 : zT), z_149 = ztj149_3 → ∀ (H : Heap) (locs : List Loc), va_P (dC, dI) vwCl (wT h ztj149_3) H → va_D A (wT h ztj149_3) → va_S A s.heap H locs → W p l e (headSpec wsX1_take ({ frames := 0, cells := 0, slots := 0, locals := 0 } : Room)).room s m ([.ref h, .int p1, .int p2] : List Value).toArray below meth c H locs 0 0 (MQ below (zQi (dC, dI) (wT h u_zt) [] A r) ([.ref h, .int p1, .int p2] : List Value).toArray s 0 0 A) (F0 m 149 ls []) := by
                intro ztj149_3 ez H locs hP hD hS
                rw [ez] at hm
                refine lv_iload hx hb dX1_take_149 (lv_at hl 0 rfl) ?_
                refine lv_if_eq (tgt := 165) hx hb dX1_take_151 (by decide) (fun c_151 => ?_) (fun c_151 => ?_)
                · have hm := it_t hm c_151
                  refine lv_iconst (v := 1) hx hb dX1_take_165 (by decide) ?_
                  cases o2 hm
                  exact W.zret hx hb hr rfl (fun t ht hW => ⟨⟨_, (), rfl, rfl, by rw [ht]; exact hP, va_K.moved hW.alike hK, hD⟩, hS.F ht⟩) hS.2.2 dX1_take_166
                · have hm := it_f hm c_151
                  refine lv_aload_n hx hb dX1_take_154 rfl (lv_at hl 5 rfl) ?_
                  refine lv_lload hx hb dX1_take_155 (lv_at hl 2 rfl) ?_
                  refine va_put (D := (dC, dI)) (ci := 1) (v := .long x7) (ty := .long) (C := RX1) (T := TX1) (N := 7) hx hb hts ziX1 tyX1 tyX1_ok nmX1 hown hK hP hD hS 0 rfl rfl 5 (by decide) zw7 (fun _ h9 => h9) rfl (by decide +kernel) rfl rfl (Nat.le_of_ble_eq_true rfl) dX1_take_157 (fun H locs hP hD hS => ?_)
                  have hP : va_P (dC, dI) vwCl (wT h (ztj149_3.1, ztj149_3.2.1, ztj149_3.2.2.1, ztj149_3.2.2.2.1, ztj149_3.2.2.2.2.1, x7, ztj149_3.2.2.2.2.2.2)) H := hP
                  have hD : va_D A (wT h (ztj149_3.1, ztj149_3.2.1, ztj149_3.2.2.1, ztj149_3.2.2.2.1, ztj149_3.2.2.2.2.1, x7, ztj149_3.2.2.2.2.2.2)) := hD
                  refine lv_aload_n hx hb dX1_take_160 rfl (lv_at hl 5 rfl) ?_
                  refine lv_lload_n hx hb dX1_take_161 rfl (lv_at hl 4 rfl) ?_
                  refine va_put (D := (dC, dI)) (ci := 1) (v := .long x3) (ty := .long) (C := RX1) (T := TX1) (N := 7) hx hb hts ziX1 tyX1 tyX1_ok nmX1 hown hK hP hD hS 0 rfl rfl 6 (by decide) zw6 (fun _ h9 => h9) rfl (by decide +kernel) rfl rfl (Nat.le_of_ble_eq_true rfl) dX1_take_162 (fun H locs hP hD hS => ?_)
                  have hP : va_P (dC, dI) vwCl (wT h (ztj149_3.1, ztj149_3.2.1, ztj149_3.2.2.1, ztj149_3.2.2.2.1, ztj149_3.2.2.2.2.1, x7, x3)) H := hP
                  have hD : va_D A (wT h (ztj149_3.1, ztj149_3.2.1, ztj149_3.2.2.1, ztj149_3.2.2.2.1, ztj149_3.2.2.2.2.1, x7, x3)) := hD
                  refine lv_iconst (v := 1) hx hb dX1_take_165 (by decide) ?_
                  cases o2 hm
                  exact W.zret hx hb hr rfl (fun t ht hW => ⟨⟨_, (), rfl, rfl, by rw [ht]; exact hP, va_K.moved hW.alike hK, hD⟩, hS.F ht⟩) hS.2.2 dX1_take_166
              have hm := hq_149
              refine lv_if_eq (tgt := 149) hx hb dX1_take_135 (by decide) (fun c_135 => ?_) (fun c_135 => ?_)
              · have hm := it_t hm c_135
                exact J_149 zt (o2 hm) _ _ hP hD hS
              · have hm := it_f hm c_135
                refine lv_aload_n hx hb dX1_take_138 rfl (lv_at hl 5 rfl) ?_
                refine lv_lload hx hb dX1_take_139 (lv_at hl 3 rfl) ?_
                refine va_put (D := (dC, dI)) (ci := 1) (v := .long x5) (ty := .long) (C := RX1) (T := TX1) (N := 7) hx hb hts ziX1 tyX1 tyX1_ok nmX1 hown hK hP hD hS 0 rfl rfl 3 (by decide) zw5 (fun _ h9 => h9) rfl (by decide +kernel) rfl rfl (Nat.le_of_ble_eq_true rfl) dX1_take_141 (fun H locs hP hD hS => ?_)
                have hP : va_P (dC, dI) vwCl (wT h (zt.1, zt.2.1, zt.2.2.1, x5, zt.2.2.2.2.1, zt.2.2.2.2.2.1, zt.2.2.2.2.2.2)) H := hP
                have hD : va_D A (wT h (zt.1, zt.2.1, zt.2.2.1, x5, zt.2.2.2.2.1, zt.2.2.2.2.2.1, zt.2.2.2.2.2.2)) := hD
                refine lv_aload_n hx hb dX1_take_144 rfl (lv_at hl 5 rfl) ?_
                refine lv_lload_n hx hb dX1_take_145 rfl (lv_at hl 4 rfl) ?_
                refine va_put (D := (dC, dI)) (ci := 1) (v := .long x3) (ty := .long) (C := RX1) (T := TX1) (N := 7) hx hb hts ziX1 tyX1 tyX1_ok nmX1 hown hK hP hD hS 0 rfl rfl 4 (by decide) zw4 (fun _ h9 => h9) rfl (by decide +kernel) rfl rfl (Nat.le_of_ble_eq_true rfl) dX1_take_146 (fun H locs hP hD hS => ?_)
                have hP : va_P (dC, dI) vwCl (wT h (zt.1, zt.2.1, zt.2.2.1, x5, x3, zt.2.2.2.2.2.1, zt.2.2.2.2.2.2)) H := hP
                have hD : va_D A (wT h (zt.1, zt.2.1, zt.2.2.1, x5, x3, zt.2.2.2.2.2.1, zt.2.2.2.2.2.2)) := hD
                exact J_149 (zt.1, zt.2.1, zt.2.2.1, x5, x3, zt.2.2.2.2.2.1, zt.2.2.2.2.2.2) (o2 hm) _ _ hP hD hS
            · have c_128 : ¬ ((zt.2.2.2.1 * x3) ≤ (x7 * zt.2.2.2.2.1)) := fun h => c_128 ((lg_cmp_ge _ _).mpr h)
              have hm := it_f hm c_128
              refine lv_iconst (v := 0) hx hb dX1_take_131 (by decide) ?_
              cases o2 hm
              exact W.zret hx hb hr rfl (fun t ht hW => ⟨⟨_, (), rfl, rfl, by rw [ht]; exact hP, va_K.moved hW.alike hK, hD⟩, hS.F ht⟩) hS.2.2 dX1_take_132
    refine lv_if_ge (tgt := 84) hx hb dX1_take_77 (by decide) (fun c_77 => ?_) (fun c_77 => ?_)
    · have c_77 : (zt.2.2.2.2.2.1 * x3) ≤ (x7 * zt.2.2.2.2.2.2) := (lg_cmp_ge _ _).mp c_77
      refine lv_iconst (v := 0) hx hb dX1_take_84 (by decide) ?_
      have e9 : y85 = 0 := by rw [e_y85, if_pos c_77]
      rw [e9] at J_85
      exact J_85
    · have c_77 : ¬ ((zt.2.2.2.2.2.1 * x3) ≤ (x7 * zt.2.2.2.2.2.2)) := fun h => c_77 ((lg_cmp_ge _ _).mpr h)
      refine lv_iconst (v := 1) hx hb dX1_take_80 (by decide) ?_
      refine lv_goto (tgt := 85) hx hb dX1_take_81 (by decide) ?_
      have e9 : y85 = 1 := by rw [e_y85, if_neg c_77]
      rw [e9] at J_85
      exact J_85
  refine lv_if_le (tgt := 60) hx hb dX1_take_53 (by decide) (fun c_53 => ?_) (fun c_53 => ?_)
  · have c_53 : (x5 * zt.2.2.2.2.1) ≤ (zt.2.2.2.1 * x3) := (lg_cmp_le _ _).mp c_53
    refine lv_iconst (v := 0) hx hb dX1_take_60 (by decide) ?_
    have e9 : y61 = 0 := by rw [e_y61, if_pos c_53]
    rw [e9] at J_61
    exact J_61
  · have c_53 : ¬ ((x5 * zt.2.2.2.2.1) ≤ (zt.2.2.2.1 * x3)) := fun h => c_53 ((lg_cmp_le _ _).mpr h)
    refine lv_iconst (v := 1) hx hb dX1_take_56 (by decide) ?_
    refine lv_goto (tgt := 61) hx hb dX1_take_57 (by decide) ?_
    have e9 : y61 = 1 := by rw [e_y61, if_neg c_53]
    rw [e9] at J_61
    exact J_61
set_option maxHeartbeats 4000000 in
set_option maxRecDepth 100000 in
theorem c_X1_divisor (l : Launch) (dC : Nat → ClassId) (dI : Nat → Nat → Nat) (h : Nat) (zt : zT) (F : Nat) (r : Int64) (hm : X1_divisor F zt = some r) : Met l yX1_divisor wsX1_divisor ({ frames := 0, cells := 0, slots := 0, locals := 0 }) (va_Pc [.ref h] (zR (dC, dI) (wT h zt) [])) (vp_Sl (fun v => v = r)) 0 0 (fun _ => False) := by
  refine Met.ofW (cc := cX1_divisor) (maxL := 8) (ret := (some .long)) (by decide) rfl ?_
  intro p e s m args below meth c s₁ B hml hv
  obtain ⟨rfl, hP, hK⟩ := hv
  have hx := B.exec
  have hb := B.bytes
  have hr := B.returns
  have hts := atoms_spec (ws := wsX1_divisor) B.pre
  have hown : s.vm.findClass RX1 = some m.cls := findClass_of_methodNamed B.named
  have hlocks := B.notSynchronized
  have hl := lv_entry ([.ref h]) (n := 8) (Nat.le_of_ble_eq_true rfl)
  rw [lg_entry_eq]
  generalize (lg_sl ([.ref h]) ++ List.replicate (8 - (lg_sl ([.ref h])).length) Slot.unset).toArray = ls at hl ⊢
  have hl : lv_has ls 8 [(0, .ref h)] := hl
  have zw0 := hts (.fieldLink RX1 15 "LearnedLedge$SlopeRange" "leastRun" "J") (List.mem_cons_of_mem _ (List.mem_append_left _ (List.mem_of_getElem? (i := 0) rfl)))
  have zw1 := hts (.fieldLink RX1 9 "LearnedLedge$SlopeRange" "leastRise" "J") (List.mem_cons_of_mem _ (List.mem_append_left _ (List.mem_of_getElem? (i := 1) rfl)))
  have ziX1 : ∀ w ∈ u_ws RX1 TX1 7, w ∈ wsX1_divisor := (fun _ h9 => (List.mem_cons_of_mem _ (List.mem_append_right _ h9)))
  refine lv_aload_n hx hb dX1_divisor_0 rfl (lv_at hl 0 rfl) ?_
  refine va_get (D := (dC, dI)) (ci := 1) (v := .long zt.2.2.2.2.1) (C := RX1) (T := TX1) (N := 7) hx hb hts ziX1 hown hK hP 0 rfl rfl 4 (by decide) zw0 (fun _ h9 => h9) rfl dX1_divisor_1 ?_
  refine lv_lstore_n (lv' := [(1, .long zt.2.2.2.2.1), (0, .ref h)]) hx hb dX1_divisor_4 rfl hl (by decide) rfl (fun ls hl => ?_)
  refine lv_aload_n hx hb dX1_divisor_5 rfl (lv_at hl 1 rfl) ?_
  refine va_get (D := (dC, dI)) (ci := 1) (v := .long zt.2.2.2.1) (C := RX1) (T := TX1) (N := 7) hx hb hts ziX1 hown hK hP 0 rfl rfl 3 (by decide) zw1 (fun _ h9 => h9) rfl dX1_divisor_6 ?_
  refine lv_lstore_n (lv' := [(3, .long zt.2.2.2.1), (1, .long zt.2.2.2.2.1), (0, .ref h)]) hx hb dX1_divisor_9 rfl hl (by decide) rfl (fun ls hl => ?_)
  refine lv_iconst (v := 0) hx hb dX1_divisor_10 (by decide) ?_
  refine lv_istore (lv' := [(5, .int 0), (3, .long zt.2.2.2.1), (1, .long zt.2.2.2.2.1), (0, .ref h)]) hx hb dX1_divisor_11 hl (by decide) rfl (fun ls hl => ?_)
  obtain ⟨z_13, hq_13, hm⟩ := ob hm
  have K_13 : ∀ (x1_1 : Int64), z_13 = x1_1 → ∀ (ls : Array Slot), lv_has ls 8 [(1, .long x1_1)] → W p l e (headSpec wsX1_divisor ({ frames := 0, cells := 0, slots := 0, locals := 0 } : Room)).room s m ([.ref h] : List Value).toArray below meth c s.heap [] 0 0 (MQ below (vp_Sl (fun v => v = r)) ([.ref h] : List Value).toArray s 0 0 (fun _ => False)) (F0 m 42 ls []) := by
    intro x1_1 ez ls hl
    rw [ez] at hm
    refine lv_lload_n hx hb dX1_divisor_42 rfl (lv_at hl 0 rfl) ?_
    refine lv_lconst (v := 1) hx hb dX1_divisor_43 (by decide) ?_
    refine W.lcmp hx hb dX1_divisor_44 ?_
    refine lv_if_ge (tgt := 52) hx hb dX1_divisor_45 (by decide) (fun c_45 => ?_) (fun c_45 => ?_)
    · have c_45 : 1 ≤ x1_1 := (lg_cmp_ge _ _).mp c_45
      have hm := it_t hm c_45
      refine lv_lload_n hx hb dX1_divisor_52 rfl (lv_at hl 0 rfl) ?_
      exact W.lret hx hb hr (fun t ht hW => ⟨_, rfl, (o2 hm).symm, ht⟩) (fun q h => absurd h List.not_mem_nil) dX1_divisor_53
    · have c_45 : ¬ (1 ≤ x1_1) := fun h => c_45 ((lg_cmp_ge _ _).mpr h)
      have hm := it_f hm c_45
      refine lv_lconst (v := 1) hx hb dX1_divisor_48 (by decide) ?_
      refine lv_goto (tgt := 53) hx hb dX1_divisor_49 (by decide) ?_
      exact W.lret hx hb hr (fun t ht hW => ⟨_, rfl, (o2 hm).symm, ht⟩) (fun q h => absurd h List.not_mem_nil) dX1_divisor_53
  have L_13 : ∀ (n : Nat) (x5 : Int32) (x3 : Int64) (x1 : Int64), X1_divisor_L13 n x5 x3 x1 = some z_13 → ∀ (ls : Array Slot), lv_has ls 8 [(5, .int x5), (3, .long x3), (1, .long x1)] → W p l e (headSpec wsX1_divisor ({ frames := 0, cells := 0, slots := 0, locals := 0 } : Room)).room s m ([.ref h] : List Value).toArray below meth c s.heap [] 0 0 (MQ below (vp_Sl (fun v => v = r)) ([.ref h] : List Value).toArray s 0 0 (fun _ => False)) (F0 m 13 ls []) := by
    intro n
    induction n with
    | zero => intro x5 x3 x1 hm; cases hm
    | succ n ih_13 =>
      intro x5 x3 x1 hm ls hl
      refine lv_iload hx hb dX1_divisor_13 (lv_at hl 0 rfl) ?_
      refine lv_bipush (v := 64) hx hb dX1_divisor_15 (by decide) ?_
      refine lv_icmp_ge (tgt := 42) hx hb dX1_divisor_17 (by decide) (fun c_17 => ?_) (fun c_17 => ?_)
      · have hm := it_t hm c_17
        exact K_13 x1 (o2 hm) _ (lv_sub hl [2] rfl)
      · have hm := it_f hm c_17
        refine lv_lload_n hx hb dX1_divisor_20 rfl (lv_at hl 1 rfl) ?_
        refine lv_lconst (v := 0) hx hb dX1_divisor_21 (by decide) ?_
        refine W.lcmp hx hb dX1_divisor_22 ?_
        refine lv_if_eq (tgt := 42) hx hb dX1_divisor_23 (by decide) (fun c_23 => ?_) (fun c_23 => ?_)
        · have c_23 : x3 = 0 := (lg_cmp_eq _ _).mp c_23
          have hm := it_t hm c_23
          exact K_13 x1 (o2 hm) _ (lv_sub hl [2] rfl)
        · have c_23 : ¬ (x3 = 0) := fun h => c_23 ((lg_cmp_eq _ _).mpr h)
          have hm := it_f hm c_23
          refine lv_lload_n hx hb dX1_divisor_26 rfl (lv_at hl 2 rfl) ?_
          refine lv_lload_n hx hb dX1_divisor_27 rfl (lv_at hl 1 rfl) ?_
          obtain ⟨c_28, hm⟩ := ck hm
          refine lv_lrem hx hb dX1_divisor_28 c_28 ?_
          refine lv_topl (fun x6 e_x6 => ?_)
          have hm := bnd_e hm e_x6
          refine lv_lstore (lv' := [(6, .long x6), (5, .int x5), (3, .long x3), (1, .long x1)]) hx hb dX1_divisor_29 hl (by decide) rfl (fun ls hl => ?_)
          refine lv_lload_n hx hb dX1_divisor_31 rfl (lv_at hl 2 rfl) ?_
          refine lv_lstore_n (lv' := [(1, .long x3), (6, .long x6), (5, .int x5), (3, .long x3)]) hx hb dX1_divisor_32 rfl hl (by decide) rfl (fun ls hl => ?_)
          refine lv_lload hx hb dX1_divisor_33 (lv_at hl 1 rfl) ?_
          refine lv_lstore_n (lv' := [(3, .long x6), (1, .long x3), (6, .long x6), (5, .int x5)]) hx hb dX1_divisor_35 rfl hl (by decide) rfl (fun ls hl => ?_)
          obtain ⟨x5_1, e_x5_1⟩ : ∃ y : Int32, y = x5 + 1 := ⟨_, rfl⟩
          have hm := bnd_e hm e_x5_1
          refine lv_iinc (v := x5_1) (lv' := [(5, .int x5_1), (3, .long x6), (1, .long x3), (6, .long x6)]) hx hb dX1_divisor_36 hl (k := 3) rfl (by rw [e_x5_1]; rfl) (by decide) rfl (fun ls hl => ?_)
          refine lv_goto (tgt := 13) hx hb dX1_divisor_39 (by decide) ?_
          exact ih_13 x5_1 x6 x3 hm _ (lv_sub hl [0, 1, 2] rfl)
  exact L_13 F 0 zt.2.2.2.1 zt.2.2.2.2.1 hq_13 _ (lv_sub hl [0, 1, 2] rfl)
set_option maxHeartbeats 4000000 in
set_option maxRecDepth 100000 in
theorem c_X1_leastRise (l : Launch) (dC : Nat → ClassId) (dI : Nat → Nat → Nat) (h : Nat) (zt : zT) (F : Nat) (r : Int32) (hm : X1_leastRise F zt = some r) : Met l yX1_leastRise wsX1_leastRise ({ frames := 1, cells := 0, slots := 0, locals := 27 }) (va_Pc [.ref h] (zR (dC, dI) (wT h zt) [])) (vp_Si (fun v => v = r)) 0 0 (fun _ => False) := by
  refine Met.ofW (cc := cX1_leastRise) (maxL := 1) (ret := (some .int)) (by decide) rfl ?_
  intro p e s m args below meth c s₁ B hml hv
  obtain ⟨rfl, hP, hK⟩ := hv
  have hx := B.exec
  have hb := B.bytes
  have hr := B.returns
  have hts := atoms_spec (ws := wsX1_leastRise) B.pre
  have hown : s.vm.findClass RX1 = some m.cls := findClass_of_methodNamed B.named
  have hlocks := B.notSynchronized
  have hl := lv_entry ([.ref h]) (n := 1) (Nat.le_of_ble_eq_true rfl)
  rw [lg_entry_eq]
  generalize (lg_sl ([.ref h]) ++ List.replicate (1 - (lg_sl ([.ref h])).length) Slot.unset).toArray = ls at hl ⊢
  have hl : lv_has ls 1 [(0, .ref h)] := hl
  have zw0 := hts (.fieldLink RX1 9 "LearnedLedge$SlopeRange" "leastRise" "J") (List.mem_cons_of_mem _ (List.mem_append_left _ (List.mem_of_getElem? (i := 0) rfl)))
  have ziX1 : ∀ w ∈ u_ws RX1 TX1 7, w ∈ wsX1_leastRise := (fun _ h9 => (List.mem_cons_of_mem _ (List.mem_append_right _ h9)))
  refine lv_aload_n hx hb dX1_leastRise_0 rfl (lv_at hl 0 rfl) ?_
  refine va_get (D := (dC, dI)) (ci := 1) (v := .long zt.2.2.2.1) (C := RX1) (T := TX1) (N := 7) hx hb hts ziX1 hown hK hP 0 rfl rfl 3 (by decide) zw0 (fun _ h9 => h9) rfl dX1_leastRise_1 ?_
  refine lv_aload_n hx hb dX1_leastRise_4 rfl (lv_at hl 0 rfl) ?_
  obtain ⟨r5, h_5, hm⟩ := ob hm
  refine z_callRl (As := []) (rest := [.long zt.2.2.2.1]) (ci := 1) (q := (RX1, TX1, 7)) ⟨hx, hb, hml, hown, hts⟩ (c_X1_divisor l dC dI h zt F r5 h_5) (cwV 0 hts gX1_leastRise_X1_divisor rfl rfl rfl kv_X1_divisor ⟨Nat.le_of_ble_eq_true rfl, Nat.le_of_ble_eq_true rfl⟩) hK hP rfl rfl rfl rfl hl.1 rfl (Nat.le_of_ble_eq_true rfl) dX1_leastRise_5 ⟨Nat.zero_le _, Nat.zero_le _⟩ ?_
  obtain ⟨c_8, hm⟩ := ck hm
  refine lv_ldiv hx hb dX1_leastRise_8 c_8 ?_
  refine lv_l2i hx hb dX1_leastRise_9 rfl ?_
  exact W.iret hx hb hr (fun t ht hW => ⟨_, rfl, (o2 hm).symm, ht⟩) (fun q h => absurd h List.not_mem_nil) dX1_leastRise_10
set_option maxHeartbeats 4000000 in
set_option maxRecDepth 100000 in
theorem c_X1_leastRun (l : Launch) (dC : Nat → ClassId) (dI : Nat → Nat → Nat) (h : Nat) (zt : zT) (F : Nat) (r : Int32) (hm : X1_leastRun F zt = some r) : Met l yX1_leastRun wsX1_leastRun ({ frames := 1, cells := 0, slots := 0, locals := 27 }) (va_Pc [.ref h] (zR (dC, dI) (wT h zt) [])) (vp_Si (fun v => v = r)) 0 0 (fun _ => False) := by
  refine Met.ofW (cc := cX1_leastRun) (maxL := 1) (ret := (some .int)) (by decide) rfl ?_
  intro p e s m args below meth c s₁ B hml hv
  obtain ⟨rfl, hP, hK⟩ := hv
  have hx := B.exec
  have hb := B.bytes
  have hr := B.returns
  have hts := atoms_spec (ws := wsX1_leastRun) B.pre
  have hown : s.vm.findClass RX1 = some m.cls := findClass_of_methodNamed B.named
  have hlocks := B.notSynchronized
  have hl := lv_entry ([.ref h]) (n := 1) (Nat.le_of_ble_eq_true rfl)
  rw [lg_entry_eq]
  generalize (lg_sl ([.ref h]) ++ List.replicate (1 - (lg_sl ([.ref h])).length) Slot.unset).toArray = ls at hl ⊢
  have hl : lv_has ls 1 [(0, .ref h)] := hl
  have zw0 := hts (.fieldLink RX1 15 "LearnedLedge$SlopeRange" "leastRun" "J") (List.mem_cons_of_mem _ (List.mem_append_left _ (List.mem_of_getElem? (i := 0) rfl)))
  have ziX1 : ∀ w ∈ u_ws RX1 TX1 7, w ∈ wsX1_leastRun := (fun _ h9 => (List.mem_cons_of_mem _ (List.mem_append_right _ h9)))
  refine lv_aload_n hx hb dX1_leastRun_0 rfl (lv_at hl 0 rfl) ?_
  refine va_get (D := (dC, dI)) (ci := 1) (v := .long zt.2.2.2.2.1) (C := RX1) (T := TX1) (N := 7) hx hb hts ziX1 hown hK hP 0 rfl rfl 4 (by decide) zw0 (fun _ h9 => h9) rfl dX1_leastRun_1 ?_
  refine lv_aload_n hx hb dX1_leastRun_4 rfl (lv_at hl 0 rfl) ?_
  obtain ⟨r5, h_5, hm⟩ := ob hm
  refine z_callRl (As := []) (rest := [.long zt.2.2.2.2.1]) (ci := 1) (q := (RX1, TX1, 7)) ⟨hx, hb, hml, hown, hts⟩ (c_X1_divisor l dC dI h zt F r5 h_5) (cwV 0 hts gX1_leastRun_X1_divisor rfl rfl rfl kv_X1_divisor ⟨Nat.le_of_ble_eq_true rfl, Nat.le_of_ble_eq_true rfl⟩) hK hP rfl rfl rfl rfl hl.1 rfl (Nat.le_of_ble_eq_true rfl) dX1_leastRun_5 ⟨Nat.zero_le _, Nat.zero_le _⟩ ?_
  obtain ⟨c_8, hm⟩ := ck hm
  refine lv_ldiv hx hb dX1_leastRun_8 c_8 ?_
  refine lv_l2i hx hb dX1_leastRun_9 rfl ?_
  exact W.iret hx hb hr (fun t ht hW => ⟨_, rfl, (o2 hm).symm, ht⟩) (fun q h => absurd h List.not_mem_nil) dX1_leastRun_10
