set_option maxHeartbeats 4000000 in
set_option maxRecDepth 100000 in
theorem c_X0_length (l : Launch) (dC : Nat → ClassId) (dI : Nat → Nat → Nat) (cI : ClassId) (h : Nat) (a : Nat) (N : Nat) (zn : zN) (F : Nat) (r : Int32) (hm : X0_length F zn = some r) : Met l yX0_length wsX0_length ({ frames := 0, cells := 0, slots := 0, locals := 0 }) (va_Pc [.ref h] (zR (dC, dI) (wN cI h a N zn) [(cI, .int)])) (vp_Si (fun v => v = r)) 0 0 (fun _ => False) := by
  refine Met.ofW (cc := cX0_length) (maxL := 1) (ret := (some .int)) (by decide) rfl ?_
  intro p e s m args below meth c s₁ B hml hv
  obtain ⟨rfl, hP, hK⟩ := hv
  have hx := B.exec
  have hb := B.bytes
  have hr := B.returns
  have hts := atoms_spec (ws := wsX0_length) B.pre
  have hown : s.vm.findClass RX0 = some m.cls := findClass_of_methodNamed B.named
  have hlocks := B.notSynchronized
  have hl := lv_entry ([.ref h]) (n := 1) (Nat.le_of_ble_eq_true rfl)
  rw [lg_entry_eq]
  generalize (lg_sl ([.ref h]) ++ List.replicate (1 - (lg_sl ([.ref h])).length) Slot.unset).toArray = ls at hl ⊢
  have hl : lv_has ls 1 [(0, .ref h)] := hl
  have zw0 := hts (.fieldLink RX0 21 "LearnedLedge$Numbers" "length" "I") (List.mem_cons_of_mem _ (List.mem_append_left _ (List.mem_of_getElem? (i := 0) rfl)))
  have ziX0 : ∀ w ∈ u_ws RX0 TX0 2, w ∈ wsX0_length := (fun _ h9 => (List.mem_cons_of_mem _ (List.mem_append_right _ h9)))
  refine lv_aload_n hx hb dX0_length_0 rfl (lv_at hl 0 rfl) ?_
  refine va_get (D := (dC, dI)) (ci := 0) (v := .int zn.2) (C := RX0) (T := TX0) (N := 2) hx hb hts ziX0 hown hK hP 0 rfl rfl 1 (by decide) zw0 (fun _ h9 => h9) rfl dX0_length_1 ?_
  exact W.iret hx hb hr (fun t ht hW => ⟨_, rfl, (o2 hm).symm, ht⟩) (fun q h => absurd h List.not_mem_nil) dX0_length_4
set_option maxHeartbeats 4000000 in
set_option maxRecDepth 100000 in
theorem c_X0_has (l : Launch) (dC : Nat → ClassId) (dI : Nat → Nat → Nat) (cI : ClassId) (h : Nat) (a : Nat) (N : Nat) (zn : zN) (F : Nat) (p1 : Int32) (r : Int32) (hm : X0_has F N zn p1 = some r) : Met l yX0_has wsX0_has ({ frames := 0, cells := 0, slots := 0, locals := 0 }) (va_Pc [.ref h, .int p1] (zR (dC, dI) (wN cI h a N zn) [(cI, .int)])) (vp_Si (fun v => v = r)) 0 0 (fun _ => False) := by
  refine Met.ofW (cc := cX0_has) (maxL := 2) (ret := (some .boolean)) (by decide) rfl ?_
  intro p e s m args below meth c s₁ B hml hv
  obtain ⟨rfl, hP, hK⟩ := hv
  have hx := B.exec
  have hb := B.bytes
  have hr := B.returns
  have hts := atoms_spec (ws := wsX0_has) B.pre
  have hown : s.vm.findClass RX0 = some m.cls := findClass_of_methodNamed B.named
  have hlocks := B.notSynchronized
  have hl := lv_entry ([.ref h, .int p1]) (n := 2) (Nat.le_of_ble_eq_true rfl)
  rw [lg_entry_eq]
  generalize (lg_sl ([.ref h, .int p1]) ++ List.replicate (2 - (lg_sl ([.ref h, .int p1])).length) Slot.unset).toArray = ls at hl ⊢
  have hl : lv_has ls 2 [(0, .ref h), (1, .int p1)] := hl
  have zw0 := hts (.fieldLink RX0 21 "LearnedLedge$Numbers" "length" "I") (List.mem_cons_of_mem _ (List.mem_append_left _ (List.mem_of_getElem? (i := 0) rfl)))
  have zw1 := hts (.fieldLink RX0 15 "LearnedLedge$Numbers" "items" "[I") (List.mem_cons_of_mem _ (List.mem_append_left _ (List.mem_of_getElem? (i := 1) rfl)))
  have ziX0 : ∀ w ∈ u_ws RX0 TX0 2, w ∈ wsX0_has := (fun _ h9 => (List.mem_cons_of_mem _ (List.mem_append_right _ h9)))
  refine lv_iload_n hx hb dX0_has_0 rfl (lv_at hl 1 rfl) ?_
  refine lv_if_lt (tgt := 25) hx hb dX0_has_1 (by decide) (fun c_1 => ?_) (fun c_1 => ?_)
  · have hm := it_t hm c_1
    refine lv_iconst (v := 0) hx hb dX0_has_25 (by decide) ?_
    exact W.zret hx hb hr rfl (fun t ht hW => ⟨_, rfl, (o2 hm).symm, ht⟩) (fun q h => absurd h List.not_mem_nil) dX0_has_26
  · have hm := it_f hm c_1
    refine lv_iload_n hx hb dX0_has_4 rfl (lv_at hl 1 rfl) ?_
    refine lv_aload_n hx hb dX0_has_5 rfl (lv_at hl 0 rfl) ?_
    refine va_get (D := (dC, dI)) (ci := 0) (v := .int zn.2) (C := RX0) (T := TX0) (N := 2) hx hb hts ziX0 hown hK hP 0 rfl rfl 1 (by decide) zw0 (fun _ h9 => h9) rfl dX0_has_6 ?_
    refine lv_icmp_ge (tgt := 25) hx hb dX0_has_9 (by decide) (fun c_9 => ?_) (fun c_9 => ?_)
    · have hm := it_t hm c_9
      refine lv_iconst (v := 0) hx hb dX0_has_25 (by decide) ?_
      exact W.zret hx hb hr rfl (fun t ht hW => ⟨_, rfl, (o2 hm).symm, ht⟩) (fun q h => absurd h List.not_mem_nil) dX0_has_26
    · have hm := it_f hm c_9
      refine lv_iload_n hx hb dX0_has_12 rfl (lv_at hl 1 rfl) ?_
      refine lv_aload_n hx hb dX0_has_13 rfl (lv_at hl 0 rfl) ?_
      refine va_get (D := (dC, dI)) (ci := 0) (v := .ref a) (C := RX0) (T := TX0) (N := 2) hx hb hts ziX0 hown hK hP 0 rfl rfl 0 (by decide) zw1 (fun _ h9 => h9) rfl dX0_has_14 ?_
      refine va_alen hx hb hK hP 1 0 rfl rfl (v := nI N) rfl dX0_has_17 ?_
      refine lv_icmp_ge (tgt := 25) hx hb dX0_has_18 (by decide) (fun c_18 => ?_) (fun c_18 => ?_)
      · have hm := it_t hm c_18
        refine lv_iconst (v := 0) hx hb dX0_has_25 (by decide) ?_
        exact W.zret hx hb hr rfl (fun t ht hW => ⟨_, rfl, (o2 hm).symm, ht⟩) (fun q h => absurd h List.not_mem_nil) dX0_has_26
      · have hm := it_f hm c_18
        refine lv_iconst (v := 1) hx hb dX0_has_21 (by decide) ?_
        refine lv_goto (tgt := 26) hx hb dX0_has_22 (by decide) ?_
        exact W.zret hx hb hr rfl (fun t ht hW => ⟨_, rfl, (o2 hm).symm, ht⟩) (fun q h => absurd h List.not_mem_nil) dX0_has_26
set_option maxHeartbeats 4000000 in
set_option maxRecDepth 100000 in
theorem c_X0_at (l : Launch) (dC : Nat → ClassId) (dI : Nat → Nat → Nat) (cI : ClassId) (h : Nat) (a : Nat) (N : Nat) (zn : zN) (F : Nat) (p1 : Int32) (r : Int32) (hm : X0_at F N zn p1 = some r) : Met l yX0_at wsX0_at ({ frames := 1, cells := 0, slots := 0, locals := 21 }) (va_Pc [.ref h, .int p1] (zR (dC, dI) (wN cI h a N zn) [(cI, .int)])) (vp_Si (fun v => v = r)) 0 0 (fun _ => False) := by
  refine Met.ofW (cc := cX0_at) (maxL := 2) (ret := (some .int)) (by decide) rfl ?_
  intro p e s m args below meth c s₁ B hml hv
  obtain ⟨rfl, hP, hK⟩ := hv
  have hx := B.exec
  have hb := B.bytes
  have hr := B.returns
  have hts := atoms_spec (ws := wsX0_at) B.pre
  have hown : s.vm.findClass RX0 = some m.cls := findClass_of_methodNamed B.named
  have hlocks := B.notSynchronized
  have hl := lv_entry ([.ref h, .int p1]) (n := 2) (Nat.le_of_ble_eq_true rfl)
  rw [lg_entry_eq]
  generalize (lg_sl ([.ref h, .int p1]) ++ List.replicate (2 - (lg_sl ([.ref h, .int p1])).length) Slot.unset).toArray = ls at hl ⊢
  have hl : lv_has ls 2 [(0, .ref h), (1, .int p1)] := hl
  have zw0 := hts (.fieldLink RX0 15 "LearnedLedge$Numbers" "items" "[I") (List.mem_cons_of_mem _ (List.mem_append_left _ (List.mem_of_getElem? (i := 0) rfl)))
  have ziX0 : ∀ w ∈ u_ws RX0 TX0 2, w ∈ wsX0_at := (fun _ h9 => (List.mem_cons_of_mem _ (List.mem_append_right _ h9)))
  refine lv_aload_n hx hb dX0_at_0 rfl (lv_at hl 0 rfl) ?_
  refine lv_iload_n hx hb dX0_at_1 rfl (lv_at hl 1 rfl) ?_
  obtain ⟨r2, h_2, hm⟩ := ob hm
  refine z_callRi (As := [.int p1]) (rest := []) (ci := 0) (q := (RX0, TX0, 2)) ⟨hx, hb, hml, hown, hts⟩ (c_X0_has l dC dI cI h a N zn F p1 r2 h_2) (cwV 1 hts gX0_at_X0_has rfl rfl rfl kv_X0_has ⟨Nat.le_of_ble_eq_true rfl, Nat.le_of_ble_eq_true rfl⟩) hK hP rfl rfl rfl rfl hl.1 rfl (Nat.le_of_ble_eq_true rfl) dX0_at_2 ⟨Nat.zero_le _, Nat.zero_le _⟩ ?_
  refine lv_if_eq (tgt := 17) hx hb dX0_at_5 (by decide) (fun c_5 => ?_) (fun c_5 => ?_)
  · have hm := it_t hm c_5
    refine lv_iconst (v := 0) hx hb dX0_at_17 (by decide) ?_
    exact W.iret hx hb hr (fun t ht hW => ⟨_, rfl, (o2 hm).symm, ht⟩) (fun q h => absurd h List.not_mem_nil) dX0_at_18
  · have hm := it_f hm c_5
    refine lv_aload_n hx hb dX0_at_8 rfl (lv_at hl 0 rfl) ?_
    refine va_get (D := (dC, dI)) (ci := 0) (v := .ref a) (C := RX0) (T := TX0) (N := 2) hx hb hts ziX0 hown hK hP 0 rfl rfl 0 (by decide) zw0 (fun _ h9 => h9) rfl dX0_at_9 ?_
    refine lv_iload_n hx hb dX0_at_12 rfl (lv_at hl 1 rfl) ?_
    obtain ⟨c_13, hm⟩ := ck hm
    refine va_iald hx hb hK hP 1 0 rfl rfl c_13 dX0_at_13 ?_
    refine lv_goto (tgt := 18) hx hb dX0_at_14 (by decide) ?_
    exact W.iret hx hb hr (fun t ht hW => ⟨_, rfl, (o2 hm).symm, ht⟩) (fun q h => absurd h List.not_mem_nil) dX0_at_18
set_option maxHeartbeats 4000000 in
set_option maxRecDepth 100000 in
theorem c_X0_put (l : Launch) (dC : Nat → ClassId) (dI : Nat → Nat → Nat) (cI : ClassId) (h : Nat) (a : Nat) (N : Nat) (zn : zN) (F : Nat) (p1 : Int32) (p2 : Int32) (sz : Nat) (u_zn : zN) (hm : X0_put F N zn p1 p2 = some u_zn) : Met l yX0_put wsX0_put ({ frames := 1, cells := 0, slots := 0, locals := 21 }) (va_Pc [.ref h, .int p1, .int p2] (zW (dC, dI) (wN cI h a N zn) [(cI, .int)] sz)) (zQv (dC, dI) (wN cI h a N u_zn) [(cI, .int)] (va_A (wN cI h a N zn) sz)) 0 0 (va_A (wN cI h a N zn) sz) := by
  refine Met.ofW (cc := cX0_put) (maxL := 3) (ret := none) (by decide) rfl ?_
  intro p e s m args below meth c s₁ B hml hv
  obtain ⟨rfl, hsz, hP, hK, hD0⟩ := hv
  have hx := B.exec
  have hb := B.bytes
  have hr := B.returns
  have hts := atoms_spec (ws := wsX0_put) B.pre
  have hown : s.vm.findClass RX0 = some m.cls := findClass_of_methodNamed B.named
  have hlocks := B.notSynchronized
  subst hsz
  have hD := hD0.self (sz := s.heap.size)
  generalize hAe : va_A (wN cI h a N zn) s.heap.size = A at hD ⊢
  have hA : ∀ q : Nat, s.heap.size ≤ q → A q := fun q h => by rw [← hAe]; exact Or.inr h
  have hS : va_S A s.heap s.heap [] := va_S.rf
  generalize eL : ([] : List Loc) = locs at hS ⊢
  obtain ⟨H, eH⟩ : ∃ z : Heap, z = s.heap := ⟨_, rfl⟩
  have hP : va_P (dC, dI) vwCl (wN cI h a N zn) H := by rw [eH]; exact hP
  have hS : va_S A s.heap H locs := by rw [eH]; exact hS
  refine z_heap eH ?_
  have hl := lv_entry ([.ref h, .int p1, .int p2]) (n := 3) (Nat.le_of_ble_eq_true rfl)
  rw [lg_entry_eq]
  generalize (lg_sl ([.ref h, .int p1, .int p2]) ++ List.replicate (3 - (lg_sl ([.ref h, .int p1, .int p2])).length) Slot.unset).toArray = ls at hl ⊢
  have hl : lv_has ls 3 [(0, .ref h), (1, .int p1), (2, .int p2)] := hl
  have zw0 := hts (.fieldLink RX0 15 "LearnedLedge$Numbers" "items" "[I") (List.mem_cons_of_mem _ (List.mem_append_left _ (List.mem_of_getElem? (i := 0) rfl)))
  have ziX0 : ∀ w ∈ u_ws RX0 TX0 2, w ∈ wsX0_put := (fun _ h9 => (List.mem_cons_of_mem _ (List.mem_append_right _ h9)))
  refine lv_aload_n hx hb dX0_put_0 rfl (lv_at hl 0 rfl) ?_
  refine lv_iload_n hx hb dX0_put_1 rfl (lv_at hl 1 rfl) ?_
  obtain ⟨r2, h_2, hm⟩ := ob hm
  refine z_callRi (As := [.int p1]) (rest := []) (ci := 0) (q := (RX0, TX0, 2)) ⟨hx, hb, hml, hown, hts⟩ (c_X0_has l dC dI cI h a N zn F p1 r2 h_2) (cwV 1 hts gX0_put_X0_has rfl rfl rfl kv_X0_has ⟨Nat.le_of_ble_eq_true rfl, Nat.le_of_ble_eq_true rfl⟩) hK hP rfl rfl rfl rfl hl.1 rfl (Nat.le_of_ble_eq_true rfl) dX0_put_2 ⟨Nat.zero_le _, Nat.zero_le _⟩ ?_
  refine lv_if_eq (tgt := 15) hx hb dX0_put_5 (by decide) (fun c_5 => ?_) (fun c_5 => ?_)
  · have hm := it_t hm c_5
    cases o2 hm
    exact W.vret hx hb hr (fun t ht hW => ⟨⟨(), rfl, trivial, by rw [ht]; exact hP, va_K.moved hW.alike hK, hD⟩, hS.F ht⟩) hS.2.2 dX0_put_15
  · have hm := it_f hm c_5
    refine lv_aload_n hx hb dX0_put_8 rfl (lv_at hl 0 rfl) ?_
    refine va_get (D := (dC, dI)) (ci := 0) (v := .ref a) (C := RX0) (T := TX0) (N := 2) hx hb hts ziX0 hown hK hP 0 rfl rfl 0 (by decide) zw0 (fun _ h9 => h9) rfl dX0_put_9 ?_
    refine lv_iload_n hx hb dX0_put_12 rfl (lv_at hl 1 rfl) ?_
    refine lv_iload_n hx hb dX0_put_13 rfl (lv_at hl 2 rfl) ?_
    obtain ⟨c_14, hm⟩ := ck hm
    refine va_iast hx hb hK hP hD hS 1 0 rfl rfl c_14 dX0_put_14 (fun H locs hP hD hS => ?_)
    have hP : va_P (dC, dI) vwCl (wN cI h a N ((upd zn.1 (Int32.toNatClampNeg p1) p2), zn.2)) H := hP
    have hD : va_D A (wN cI h a N ((upd zn.1 (Int32.toNatClampNeg p1) p2), zn.2)) := hD
    cases o2 hm
    exact W.vret hx hb hr (fun t ht hW => ⟨⟨(), rfl, trivial, by rw [ht]; exact hP, va_K.moved hW.alike hK, hD⟩, hS.F ht⟩) hS.2.2 dX0_put_15
set_option maxHeartbeats 4000000 in
set_option maxRecDepth 100000 in
theorem c_X0_push (l : Launch) (dC : Nat → ClassId) (dI : Nat → Nat → Nat) (cI : ClassId) (h : Nat) (a : Nat) (N : Nat) (zn : zN) (F : Nat) (p1 : Int32) (sz : Nat) (u_zn : zN) (hm : X0_push F N zn p1 = some u_zn) : Met l yX0_push wsX0_push ({ frames := 0, cells := 0, slots := 0, locals := 0 }) (va_Pc [.ref h, .int p1] (zW (dC, dI) (wN cI h a N zn) [(cI, .int)] sz)) (zQv (dC, dI) (wN cI h a N u_zn) [(cI, .int)] (va_A (wN cI h a N zn) sz)) 0 0 (va_A (wN cI h a N zn) sz) := by
  refine Met.ofW (cc := cX0_push) (maxL := 2) (ret := none) (by decide) rfl ?_
  intro p e s m args below meth c s₁ B hml hv
  obtain ⟨rfl, hsz, hP, hK, hD0⟩ := hv
  have hx := B.exec
  have hb := B.bytes
  have hr := B.returns
  have hts := atoms_spec (ws := wsX0_push) B.pre
  have hown : s.vm.findClass RX0 = some m.cls := findClass_of_methodNamed B.named
  have hlocks := B.notSynchronized
  subst hsz
  have hD := hD0.self (sz := s.heap.size)
  generalize hAe : va_A (wN cI h a N zn) s.heap.size = A at hD ⊢
  have hA : ∀ q : Nat, s.heap.size ≤ q → A q := fun q h => by rw [← hAe]; exact Or.inr h
  have hS : va_S A s.heap s.heap [] := va_S.rf
  generalize eL : ([] : List Loc) = locs at hS ⊢
  obtain ⟨H, eH⟩ : ∃ z : Heap, z = s.heap := ⟨_, rfl⟩
  have hP : va_P (dC, dI) vwCl (wN cI h a N zn) H := by rw [eH]; exact hP
  have hS : va_S A s.heap H locs := by rw [eH]; exact hS
  refine z_heap eH ?_
  have hl := lv_entry ([.ref h, .int p1]) (n := 2) (Nat.le_of_ble_eq_true rfl)
  rw [lg_entry_eq]
  generalize (lg_sl ([.ref h, .int p1]) ++ List.replicate (2 - (lg_sl ([.ref h, .int p1])).length) Slot.unset).toArray = ls at hl ⊢
  have hl : lv_has ls 2 [(0, .ref h), (1, .int p1)] := hl
  have zw0 := hts (.fieldLink RX0 21 "LearnedLedge$Numbers" "length" "I") (List.mem_cons_of_mem _ (List.mem_append_left _ (List.mem_of_getElem? (i := 0) rfl)))
  have zw1 := hts (.fieldLink RX0 15 "LearnedLedge$Numbers" "items" "[I") (List.mem_cons_of_mem _ (List.mem_append_left _ (List.mem_of_getElem? (i := 1) rfl)))
  have ziX0 : ∀ w ∈ u_ws RX0 TX0 2, w ∈ wsX0_push := (fun _ h9 => (List.mem_cons_of_mem _ (List.mem_append_right _ h9)))
  refine lv_aload_n hx hb dX0_push_0 rfl (lv_at hl 0 rfl) ?_
  refine va_get (D := (dC, dI)) (ci := 0) (v := .int zn.2) (C := RX0) (T := TX0) (N := 2) hx hb hts ziX0 hown hK hP 0 rfl rfl 1 (by decide) zw0 (fun _ h9 => h9) rfl dX0_push_1 ?_
  refine lv_if_lt (tgt := 39) hx hb dX0_push_4 (by decide) (fun c_4 => ?_) (fun c_4 => ?_)
  · have hm := it_t hm c_4
    cases o2 hm
    exact W.vret hx hb hr (fun t ht hW => ⟨⟨(), rfl, trivial, by rw [ht]; exact hP, va_K.moved hW.alike hK, hD⟩, hS.F ht⟩) hS.2.2 dX0_push_39
  · have hm := it_f hm c_4
    refine lv_aload_n hx hb dX0_push_7 rfl (lv_at hl 0 rfl) ?_
    refine va_get (D := (dC, dI)) (ci := 0) (v := .int zn.2) (C := RX0) (T := TX0) (N := 2) hx hb hts ziX0 hown hK hP 0 rfl rfl 1 (by decide) zw0 (fun _ h9 => h9) rfl dX0_push_8 ?_
    refine lv_aload_n hx hb dX0_push_11 rfl (lv_at hl 0 rfl) ?_
    refine va_get (D := (dC, dI)) (ci := 0) (v := .ref a) (C := RX0) (T := TX0) (N := 2) hx hb hts ziX0 hown hK hP 0 rfl rfl 0 (by decide) zw1 (fun _ h9 => h9) rfl dX0_push_12 ?_
    refine va_alen hx hb hK hP 1 0 rfl rfl (v := nI N) rfl dX0_push_15 ?_
    refine lv_icmp_ge (tgt := 39) hx hb dX0_push_16 (by decide) (fun c_16 => ?_) (fun c_16 => ?_)
    · have hm := it_t hm c_16
      cases o2 hm
      exact W.vret hx hb hr (fun t ht hW => ⟨⟨(), rfl, trivial, by rw [ht]; exact hP, va_K.moved hW.alike hK, hD⟩, hS.F ht⟩) hS.2.2 dX0_push_39
    · have hm := it_f hm c_16
      refine lv_aload_n hx hb dX0_push_19 rfl (lv_at hl 0 rfl) ?_
      refine va_get (D := (dC, dI)) (ci := 0) (v := .ref a) (C := RX0) (T := TX0) (N := 2) hx hb hts ziX0 hown hK hP 0 rfl rfl 0 (by decide) zw1 (fun _ h9 => h9) rfl dX0_push_20 ?_
      refine lv_aload_n hx hb dX0_push_23 rfl (lv_at hl 0 rfl) ?_
      refine va_get (D := (dC, dI)) (ci := 0) (v := .int zn.2) (C := RX0) (T := TX0) (N := 2) hx hb hts ziX0 hown hK hP 0 rfl rfl 1 (by decide) zw0 (fun _ h9 => h9) rfl dX0_push_24 ?_
      refine lv_iload_n hx hb dX0_push_27 rfl (lv_at hl 1 rfl) ?_
      obtain ⟨c_28, hm⟩ := ck hm
      refine va_iast hx hb hK hP hD hS 1 0 rfl rfl c_28 dX0_push_28 (fun H locs hP hD hS => ?_)
      have hP : va_P (dC, dI) vwCl (wN cI h a N ((upd zn.1 (Int32.toNatClampNeg zn.2) p1), zn.2)) H := hP
      have hD : va_D A (wN cI h a N ((upd zn.1 (Int32.toNatClampNeg zn.2) p1), zn.2)) := hD
      refine lv_aload_n hx hb dX0_push_29 rfl (lv_at hl 0 rfl) ?_
      refine lv_dup hx hb dX0_push_30 rfl ?_
      refine va_get (D := (dC, dI)) (ci := 0) (v := .int zn.2) (C := RX0) (T := TX0) (N := 2) hx hb hts ziX0 hown hK hP 0 rfl rfl 1 (by decide) zw0 (fun _ h9 => h9) rfl dX0_push_31 ?_
      refine lv_iconst (v := 1) hx hb dX0_push_34 (by decide) ?_
      refine lv_iadd hx hb dX0_push_35 ?_
      refine va_put (D := (dC, dI)) (ci := 0) (v := .int (zn.2 + 1)) (ty := .int) (C := RX0) (T := TX0) (N := 2) hx hb hts ziX0 tyX0 tyX0_ok nmX0 hown hK hP hD hS 0 rfl rfl 1 (by decide) zw0 (fun _ h9 => h9) rfl (by decide +kernel) rfl rfl (Nat.le_of_ble_eq_true rfl) dX0_push_36 (fun H locs hP hD hS => ?_)
      have hP : va_P (dC, dI) vwCl (wN cI h a N ((upd zn.1 (Int32.toNatClampNeg zn.2) p1), (zn.2 + 1))) H := hP
      have hD : va_D A (wN cI h a N ((upd zn.1 (Int32.toNatClampNeg zn.2) p1), (zn.2 + 1))) := hD
      cases o2 hm
      exact W.vret hx hb hr (fun t ht hW => ⟨⟨(), rfl, trivial, by rw [ht]; exact hP, va_K.moved hW.alike hK, hD⟩, hS.F ht⟩) hS.2.2 dX0_push_39
set_option maxHeartbeats 4000000 in
set_option maxRecDepth 100000 in
theorem c_X0_clear (l : Launch) (dC : Nat → ClassId) (dI : Nat → Nat → Nat) (cI : ClassId) (h : Nat) (a : Nat) (N : Nat) (zn : zN) (F : Nat) (sz : Nat) (u_zn : zN) (hm : X0_clear F zn = some u_zn) : Met l yX0_clear wsX0_clear ({ frames := 0, cells := 0, slots := 0, locals := 0 }) (va_Pc [.ref h] (zW (dC, dI) (wN cI h a N zn) [(cI, .int)] sz)) (zQv (dC, dI) (wN cI h a N u_zn) [(cI, .int)] (va_A (wN cI h a N zn) sz)) 0 0 (va_A (wN cI h a N zn) sz) := by
  refine Met.ofW (cc := cX0_clear) (maxL := 1) (ret := none) (by decide) rfl ?_
  intro p e s m args below meth c s₁ B hml hv
  obtain ⟨rfl, hsz, hP, hK, hD0⟩ := hv
  have hx := B.exec
  have hb := B.bytes
  have hr := B.returns
  have hts := atoms_spec (ws := wsX0_clear) B.pre
  have hown : s.vm.findClass RX0 = some m.cls := findClass_of_methodNamed B.named
  have hlocks := B.notSynchronized
  subst hsz
  have hD := hD0.self (sz := s.heap.size)
  generalize hAe : va_A (wN cI h a N zn) s.heap.size = A at hD ⊢
  have hA : ∀ q : Nat, s.heap.size ≤ q → A q := fun q h => by rw [← hAe]; exact Or.inr h
  have hS : va_S A s.heap s.heap [] := va_S.rf
  generalize eL : ([] : List Loc) = locs at hS ⊢
  obtain ⟨H, eH⟩ : ∃ z : Heap, z = s.heap := ⟨_, rfl⟩
  have hP : va_P (dC, dI) vwCl (wN cI h a N zn) H := by rw [eH]; exact hP
  have hS : va_S A s.heap H locs := by rw [eH]; exact hS
  refine z_heap eH ?_
  have hl := lv_entry ([.ref h]) (n := 1) (Nat.le_of_ble_eq_true rfl)
  rw [lg_entry_eq]
  generalize (lg_sl ([.ref h]) ++ List.replicate (1 - (lg_sl ([.ref h])).length) Slot.unset).toArray = ls at hl ⊢
  have hl : lv_has ls 1 [(0, .ref h)] := hl
  have zw0 := hts (.fieldLink RX0 21 "LearnedLedge$Numbers" "length" "I") (List.mem_cons_of_mem _ (List.mem_append_left _ (List.mem_of_getElem? (i := 0) rfl)))
  have ziX0 : ∀ w ∈ u_ws RX0 TX0 2, w ∈ wsX0_clear := (fun _ h9 => (List.mem_cons_of_mem _ (List.mem_append_right _ h9)))
  refine lv_aload_n hx hb dX0_clear_0 rfl (lv_at hl 0 rfl) ?_
  refine lv_iconst (v := 0) hx hb dX0_clear_1 (by decide) ?_
  refine va_put (D := (dC, dI)) (ci := 0) (v := .int 0) (ty := .int) (C := RX0) (T := TX0) (N := 2) hx hb hts ziX0 tyX0 tyX0_ok nmX0 hown hK hP hD hS 0 rfl rfl 1 (by decide) zw0 (fun _ h9 => h9) rfl (by decide +kernel) rfl rfl (Nat.le_of_ble_eq_true rfl) dX0_clear_2 (fun H locs hP hD hS => ?_)
  have hP : va_P (dC, dI) vwCl (wN cI h a N (zn.1, 0)) H := hP
  have hD : va_D A (wN cI h a N (zn.1, 0)) := hD
  cases o2 hm
  exact W.vret hx hb hr (fun t ht hW => ⟨⟨(), rfl, trivial, by rw [ht]; exact hP, va_K.moved hW.alike hK, hD⟩, hS.F ht⟩) hS.2.2 dX0_clear_5
set_option maxHeartbeats 4000000 in
set_option maxRecDepth 100000 in
theorem c_X0_squeezeIn (l : Launch) (dC : Nat → ClassId) (dI : Nat → Nat → Nat) (cI : ClassId) (h : Nat) (a : Nat) (N : Nat) (zn : zN) (F : Nat) (p1 : Int32) (p2 : Int32) (sz : Nat) (u_zn : zN) (hm : X0_squeezeIn F N zn p1 p2 = some u_zn) : Met l yX0_squeezeIn wsX0_squeezeIn ({ frames := 2, cells := 0, slots := 0, locals := 43 }) (va_Pc [.ref h, .int p1, .int p2] (zW (dC, dI) (wN cI h a N zn) [(cI, .int)] sz)) (zQv (dC, dI) (wN cI h a N u_zn) [(cI, .int)] (va_A (wN cI h a N zn) sz)) 0 0 (va_A (wN cI h a N zn) sz) := by
  refine Met.ofW (cc := cX0_squeezeIn) (maxL := 4) (ret := none) (by decide) rfl ?_
  intro p e s m args below meth c s₁ B hml hv
  obtain ⟨rfl, hsz, hP, hK, hD0⟩ := hv
  have hx := B.exec
  have hb := B.bytes
  have hr := B.returns
  have hts := atoms_spec (ws := wsX0_squeezeIn) B.pre
  have hown : s.vm.findClass RX0 = some m.cls := findClass_of_methodNamed B.named
  have hlocks := B.notSynchronized
  subst hsz
  have hD := hD0.self (sz := s.heap.size)
  generalize hAe : va_A (wN cI h a N zn) s.heap.size = A at hD ⊢
  have hA : ∀ q : Nat, s.heap.size ≤ q → A q := fun q h => by rw [← hAe]; exact Or.inr h
  have hS : va_S A s.heap s.heap [] := va_S.rf
  generalize eL : ([] : List Loc) = locs at hS ⊢
  obtain ⟨H, eH⟩ : ∃ z : Heap, z = s.heap := ⟨_, rfl⟩
  have hP : va_P (dC, dI) vwCl (wN cI h a N zn) H := by rw [eH]; exact hP
  have hS : va_S A s.heap H locs := by rw [eH]; exact hS
  refine z_heap eH ?_
  have hl := lv_entry ([.ref h, .int p1, .int p2]) (n := 4) (Nat.le_of_ble_eq_true rfl)
  rw [lg_entry_eq]
  generalize (lg_sl ([.ref h, .int p1, .int p2]) ++ List.replicate (4 - (lg_sl ([.ref h, .int p1, .int p2])).length) Slot.unset).toArray = ls at hl ⊢
  have hl : lv_has ls 4 [(0, .ref h), (1, .int p1), (2, .int p2)] := hl
  have zw0 := hts (.fieldLink RX0 21 "LearnedLedge$Numbers" "length" "I") (List.mem_cons_of_mem _ (List.mem_append_left _ (List.mem_of_getElem? (i := 0) rfl)))
  have ziX0 : ∀ w ∈ u_ws RX0 TX0 2, w ∈ wsX0_squeezeIn := (fun _ h9 => (List.mem_cons_of_mem _ (List.mem_append_right _ h9)))
  refine lv_aload_n hx hb dX0_squeezeIn_0 rfl (lv_at hl 0 rfl) ?_
  refine lv_iload_n hx hb dX0_squeezeIn_1 rfl (lv_at hl 2 rfl) ?_
  obtain ⟨zn2, h_2, hm⟩ := ob hm
  refine z_callWv (wc := (wN cI h a N zn)) (w1 := (wN cI h a N zn2)) (ws := (wN cI h a N zn)) (ws' := (wN cI h a N zn2)) (As := [.int p2]) (rest := []) (ci := 0) (q := (RX0, TX0, 2)) ⟨hx, hb, hml, hown, hts⟩ (c_X0_push l dC dI cI h a N zn F p2 H.size zn2 h_2) (cwV 1 hts gX0_squeezeIn_X0_push rfl rfl rfl kv_X0_push ⟨Nat.le_of_ble_eq_true rfl, Nat.le_of_ble_eq_true rfl⟩) hK hP hD hS hA (z_spAll (wN cI h a N zn) (wN cI h a N zn2)) ((paN cI h a N zn2).trans (paN cI h a N zn).symm) rfl rfl rfl rfl hl.1 rfl (Nat.le_of_ble_eq_true rfl) dX0_squeezeIn_2 ⟨Nat.zero_le _, Nat.zero_le _⟩ (fun H locs hP hD hS => ?_)
  refine lv_aload_n hx hb dX0_squeezeIn_5 rfl (lv_at hl 0 rfl) ?_
  refine va_get (D := (dC, dI)) (ci := 0) (v := .int zn2.2) (C := RX0) (T := TX0) (N := 2) hx hb hts ziX0 hown hK hP 0 rfl rfl 1 (by decide) zw0 (fun _ h9 => h9) rfl dX0_squeezeIn_6 ?_
  refine lv_iconst (v := 1) hx hb dX0_squeezeIn_9 (by decide) ?_
  refine lv_isub hx hb dX0_squeezeIn_10 ?_
  refine lv_topi (fun x3 e_x3 => ?_)
  have hm := bnd_e hm e_x3
  refine lv_istore_n (lv' := [(3, .int x3), (0, .ref h), (1, .int p1), (2, .int p2)]) hx hb dX0_squeezeIn_11 rfl hl (by decide) rfl (fun ls hl => ?_)
  obtain ⟨z_12, hq_12, hm⟩ := ob hm
  have K_12 : ∀ (znx12 : zN), z_12 = znx12 → ∀ (H : Heap) (locs : List Loc), va_P (dC, dI) vwCl (wN cI h a N znx12) H → va_D A (wN cI h a N znx12) → va_S A s.heap H locs → ∀ (ls : Array Slot), lv_has ls 4 [(0, .ref h), (1, .int p1), (2, .int p2)] → W p l e (headSpec wsX0_squeezeIn ({ frames := 2, cells := 0, slots := 0, locals := 43 } : Room)).room s m ([.ref h, .int p1, .int p2] : List Value).toArray below meth c H locs 0 0 (MQ below (zQv (dC, dI) (wN cI h a N u_zn) [(cI, .int)] A) ([.ref h, .int p1, .int p2] : List Value).toArray s 0 0 A) (F0 m 35 ls []) := by
    intro znx12 ez H locs hP hD hS ls hl
    rw [ez] at hm
    refine lv_aload_n hx hb dX0_squeezeIn_35 rfl (lv_at hl 0 rfl) ?_
    refine lv_iload_n hx hb dX0_squeezeIn_36 rfl (lv_at hl 1 rfl) ?_
    refine lv_iload_n hx hb dX0_squeezeIn_37 rfl (lv_at hl 2 rfl) ?_
    obtain ⟨zn38, h_38, hm⟩ := ob hm
    refine z_callWv (wc := (wN cI h a N znx12)) (w1 := (wN cI h a N zn38)) (ws := (wN cI h a N znx12)) (ws' := (wN cI h a N zn38)) (As := [.int p1, .int p2]) (rest := []) (ci := 0) (q := (RX0, TX0, 2)) ⟨hx, hb, hml, hown, hts⟩ (c_X0_put l dC dI cI h a N znx12 F p1 p2 H.size zn38 h_38) (cwV 2 hts gX0_squeezeIn_X0_put rfl rfl rfl kv_X0_put ⟨Nat.le_of_ble_eq_true rfl, Nat.le_of_ble_eq_true rfl⟩) hK hP hD hS hA (z_spAll (wN cI h a N znx12) (wN cI h a N zn38)) ((paN cI h a N zn38).trans (paN cI h a N znx12).symm) rfl rfl rfl rfl hl.1 rfl (Nat.le_of_ble_eq_true rfl) dX0_squeezeIn_38 ⟨Nat.zero_le _, Nat.zero_le _⟩ (fun H locs hP hD hS => ?_)
    cases o2 hm
    exact W.vret hx hb hr (fun t ht hW => ⟨⟨(), rfl, trivial, by rw [ht]; exact hP, va_K.moved hW.alike hK, hD⟩, hS.F ht⟩) hS.2.2 dX0_squeezeIn_41
  have L_12 : ∀ (n : Nat) (x3_1 : Int32) (znl12 : zN), X0_squeezeIn_L12 p1 N F n x3_1 znl12 = some z_12 → ∀ (H : Heap) (locs : List Loc), va_P (dC, dI) vwCl (wN cI h a N znl12) H → va_D A (wN cI h a N znl12) → va_S A s.heap H locs → ∀ (ls : Array Slot), lv_has ls 4 [(3, .int x3_1), (0, .ref h), (1, .int p1), (2, .int p2)] → W p l e (headSpec wsX0_squeezeIn ({ frames := 2, cells := 0, slots := 0, locals := 43 } : Room)).room s m ([.ref h, .int p1, .int p2] : List Value).toArray below meth c H locs 0 0 (MQ below (zQv (dC, dI) (wN cI h a N u_zn) [(cI, .int)] A) ([.ref h, .int p1, .int p2] : List Value).toArray s 0 0 A) (F0 m 12 ls []) := by
    intro n
    induction n with
    | zero => intro x3_1 znl12 hm; cases hm
    | succ n ih_12 =>
      intro x3_1 znl12 hm H locs hP hD hS ls hl
      refine lv_iload_n hx hb dX0_squeezeIn_12 rfl (lv_at hl 0 rfl) ?_
      refine lv_iload_n hx hb dX0_squeezeIn_13 rfl (lv_at hl 2 rfl) ?_
      refine lv_icmp_le (tgt := 35) hx hb dX0_squeezeIn_14 (by decide) (fun c_14 => ?_) (fun c_14 => ?_)
      · have hm := it_t hm c_14
        exact K_12 znl12 (o2 hm) _ _ hP hD hS _ (lv_sub hl [1, 2, 3] rfl)
      · have hm := it_f hm c_14
        refine lv_aload_n hx hb dX0_squeezeIn_17 rfl (lv_at hl 1 rfl) ?_
        refine lv_iload_n hx hb dX0_squeezeIn_18 rfl (lv_at hl 0 rfl) ?_
        refine lv_aload_n hx hb dX0_squeezeIn_19 rfl (lv_at hl 1 rfl) ?_
        refine lv_iload_n hx hb dX0_squeezeIn_20 rfl (lv_at hl 0 rfl) ?_
        refine lv_iconst (v := 1) hx hb dX0_squeezeIn_21 (by decide) ?_
        refine lv_isub hx hb dX0_squeezeIn_22 ?_
        obtain ⟨r23, h_23, hm⟩ := ob hm
        refine z_callRi (As := [.int (x3_1 - 1)]) (rest := [.int x3_1, .ref h]) (ci := 0) (q := (RX0, TX0, 2)) ⟨hx, hb, hml, hown, hts⟩ (c_X0_at l dC dI cI h a N znl12 F (x3_1 - 1) r23 h_23) (cwV 1 hts gX0_squeezeIn_X0_at rfl rfl rfl kv_X0_at ⟨Nat.le_of_ble_eq_true rfl, Nat.le_of_ble_eq_true rfl⟩) hK hP rfl rfl rfl rfl hl.1 rfl (Nat.le_of_ble_eq_true rfl) dX0_squeezeIn_23 ⟨Nat.zero_le _, Nat.zero_le _⟩ ?_
        obtain ⟨zn26, h_26, hm⟩ := ob hm
        refine z_callWv (wc := (wN cI h a N znl12)) (w1 := (wN cI h a N zn26)) (ws := (wN cI h a N znl12)) (ws' := (wN cI h a N zn26)) (As := [.int x3_1, .int r23]) (rest := []) (ci := 0) (q := (RX0, TX0, 2)) ⟨hx, hb, hml, hown, hts⟩ (c_X0_put l dC dI cI h a N znl12 F x3_1 r23 H.size zn26 h_26) (cwV 2 hts gX0_squeezeIn_X0_put rfl rfl rfl kv_X0_put ⟨Nat.le_of_ble_eq_true rfl, Nat.le_of_ble_eq_true rfl⟩) hK hP hD hS hA (z_spAll (wN cI h a N znl12) (wN cI h a N zn26)) ((paN cI h a N zn26).trans (paN cI h a N znl12).symm) rfl rfl rfl rfl hl.1 rfl (Nat.le_of_ble_eq_true rfl) dX0_squeezeIn_26 ⟨Nat.zero_le _, Nat.zero_le _⟩ (fun H locs hP hD hS => ?_)
        obtain ⟨x3_2, e_x3_2⟩ : ∃ y : Int32, y = x3_1 + (-1) := ⟨_, rfl⟩
        have hm := bnd_e hm e_x3_2
        refine lv_iinc (v := x3_2) (lv' := [(3, .int x3_2), (0, .ref h), (1, .int p1), (2, .int p2)]) hx hb dX0_squeezeIn_29 hl (k := 0) rfl (by rw [e_x3_2]; rfl) (by decide) rfl (fun ls hl => ?_)
        refine lv_goto (tgt := 12) hx hb dX0_squeezeIn_32 (by decide) ?_
        exact ih_12 x3_2 zn26 hm _ _ hP hD hS _ (lv_sub hl [0, 1, 2, 3] rfl)
  exact L_12 F x3 zn2 hq_12 _ _ hP hD hS _ (lv_sub hl [0, 1, 2, 3] rfl)
set_option maxHeartbeats 4000000 in
set_option maxRecDepth 100000 in
theorem c_X0_takeOut (l : Launch) (dC : Nat → ClassId) (dI : Nat → Nat → Nat) (cI : ClassId) (h : Nat) (a : Nat) (N : Nat) (zn : zN) (F : Nat) (p1 : Int32) (sz : Nat) (u_zn : zN) (hm : X0_takeOut F N zn p1 = some u_zn) : Met l yX0_takeOut wsX0_takeOut ({ frames := 2, cells := 0, slots := 0, locals := 43 }) (va_Pc [.ref h, .int p1] (zW (dC, dI) (wN cI h a N zn) [(cI, .int)] sz)) (zQv (dC, dI) (wN cI h a N u_zn) [(cI, .int)] (va_A (wN cI h a N zn) sz)) 0 0 (va_A (wN cI h a N zn) sz) := by
  refine Met.ofW (cc := cX0_takeOut) (maxL := 3) (ret := none) (by decide) rfl ?_
  intro p e s m args below meth c s₁ B hml hv
  obtain ⟨rfl, hsz, hP, hK, hD0⟩ := hv
  have hx := B.exec
  have hb := B.bytes
  have hr := B.returns
  have hts := atoms_spec (ws := wsX0_takeOut) B.pre
  have hown : s.vm.findClass RX0 = some m.cls := findClass_of_methodNamed B.named
  have hlocks := B.notSynchronized
  subst hsz
  have hD := hD0.self (sz := s.heap.size)
  generalize hAe : va_A (wN cI h a N zn) s.heap.size = A at hD ⊢
  have hA : ∀ q : Nat, s.heap.size ≤ q → A q := fun q h => by rw [← hAe]; exact Or.inr h
  have hS : va_S A s.heap s.heap [] := va_S.rf
  generalize eL : ([] : List Loc) = locs at hS ⊢
  obtain ⟨H, eH⟩ : ∃ z : Heap, z = s.heap := ⟨_, rfl⟩
  have hP : va_P (dC, dI) vwCl (wN cI h a N zn) H := by rw [eH]; exact hP
  have hS : va_S A s.heap H locs := by rw [eH]; exact hS
  refine z_heap eH ?_
  have hl := lv_entry ([.ref h, .int p1]) (n := 3) (Nat.le_of_ble_eq_true rfl)
  rw [lg_entry_eq]
  generalize (lg_sl ([.ref h, .int p1]) ++ List.replicate (3 - (lg_sl ([.ref h, .int p1])).length) Slot.unset).toArray = ls at hl ⊢
  have hl : lv_has ls 3 [(0, .ref h), (1, .int p1)] := hl
  have zw0 := hts (.fieldLink RX0 21 "LearnedLedge$Numbers" "length" "I") (List.mem_cons_of_mem _ (List.mem_append_left _ (List.mem_of_getElem? (i := 0) rfl)))
  have ziX0 : ∀ w ∈ u_ws RX0 TX0 2, w ∈ wsX0_takeOut := (fun _ h9 => (List.mem_cons_of_mem _ (List.mem_append_right _ h9)))
  refine lv_aload_n hx hb dX0_takeOut_0 rfl (lv_at hl 0 rfl) ?_
  refine lv_iload_n hx hb dX0_takeOut_1 rfl (lv_at hl 1 rfl) ?_
  obtain ⟨r2, h_2, hm⟩ := ob hm
  refine z_callRi (As := [.int p1]) (rest := []) (ci := 0) (q := (RX0, TX0, 2)) ⟨hx, hb, hml, hown, hts⟩ (c_X0_has l dC dI cI h a N zn F p1 r2 h_2) (cwV 1 hts gX0_takeOut_X0_has rfl rfl rfl kv_X0_has ⟨Nat.le_of_ble_eq_true rfl, Nat.le_of_ble_eq_true rfl⟩) hK hP rfl rfl rfl rfl hl.1 rfl (Nat.le_of_ble_eq_true rfl) dX0_takeOut_2 ⟨Nat.zero_le _, Nat.zero_le _⟩ ?_
  refine lv_if_eq (tgt := 48) hx hb dX0_takeOut_5 (by decide) (fun c_5 => ?_) (fun c_5 => ?_)
  · have hm := it_t hm c_5
    cases o2 hm
    exact W.vret hx hb hr (fun t ht hW => ⟨⟨(), rfl, trivial, by rw [ht]; exact hP, va_K.moved hW.alike hK, hD⟩, hS.F ht⟩) hS.2.2 dX0_takeOut_48
  · have hm := it_f hm c_5
    refine lv_iload_n hx hb dX0_takeOut_8 rfl (lv_at hl 1 rfl) ?_
    refine lv_istore_n (lv' := [(2, .int p1), (0, .ref h), (1, .int p1)]) hx hb dX0_takeOut_9 rfl hl (by decide) rfl (fun ls hl => ?_)
    obtain ⟨z_10, hq_10, hm⟩ := ob hm
    have K_10 : ∀ (znx10 : zN), z_10 = znx10 → ∀ (H : Heap) (locs : List Loc), va_P (dC, dI) vwCl (wN cI h a N znx10) H → va_D A (wN cI h a N znx10) → va_S A s.heap H locs → ∀ (ls : Array Slot), lv_has ls 3 [(0, .ref h)] → W p l e (headSpec wsX0_takeOut ({ frames := 2, cells := 0, slots := 0, locals := 43 } : Room)).room s m ([.ref h, .int p1] : List Value).toArray below meth c H locs 0 0 (MQ below (zQv (dC, dI) (wN cI h a N u_zn) [(cI, .int)] A) ([.ref h, .int p1] : List Value).toArray s 0 0 A) (F0 m 38 ls []) := by
      intro znx10 ez H locs hP hD hS ls hl
      rw [ez] at hm
      refine lv_aload_n hx hb dX0_takeOut_38 rfl (lv_at hl 0 rfl) ?_
      refine lv_dup hx hb dX0_takeOut_39 rfl ?_
      refine va_get (D := (dC, dI)) (ci := 0) (v := .int znx10.2) (C := RX0) (T := TX0) (N := 2) hx hb hts ziX0 hown hK hP 0 rfl rfl 1 (by decide) zw0 (fun _ h9 => h9) rfl dX0_takeOut_40 ?_
      refine lv_iconst (v := 1) hx hb dX0_takeOut_43 (by decide) ?_
      refine lv_isub hx hb dX0_takeOut_44 ?_
      refine va_put (D := (dC, dI)) (ci := 0) (v := .int (znx10.2 - 1)) (ty := .int) (C := RX0) (T := TX0) (N := 2) hx hb hts ziX0 tyX0 tyX0_ok nmX0 hown hK hP hD hS 0 rfl rfl 1 (by decide) zw0 (fun _ h9 => h9) rfl (by decide +kernel) rfl rfl (Nat.le_of_ble_eq_true rfl) dX0_takeOut_45 (fun H locs hP hD hS => ?_)
      have hP : va_P (dC, dI) vwCl (wN cI h a N (znx10.1, (znx10.2 - 1))) H := hP
      have hD : va_D A (wN cI h a N (znx10.1, (znx10.2 - 1))) := hD
      cases o2 hm
      exact W.vret hx hb hr (fun t ht hW => ⟨⟨(), rfl, trivial, by rw [ht]; exact hP, va_K.moved hW.alike hK, hD⟩, hS.F ht⟩) hS.2.2 dX0_takeOut_48
    have L_10 : ∀ (n : Nat) (x2 : Int32) (znl10 : zN), X0_takeOut_L10 N F n x2 znl10 = some z_10 → ∀ (H : Heap) (locs : List Loc), va_P (dC, dI) vwCl (wN cI h a N znl10) H → va_D A (wN cI h a N znl10) → va_S A s.heap H locs → ∀ (ls : Array Slot), lv_has ls 3 [(2, .int x2), (0, .ref h)] → W p l e (headSpec wsX0_takeOut ({ frames := 2, cells := 0, slots := 0, locals := 43 } : Room)).room s m ([.ref h, .int p1] : List Value).toArray below meth c H locs 0 0 (MQ below (zQv (dC, dI) (wN cI h a N u_zn) [(cI, .int)] A) ([.ref h, .int p1] : List Value).toArray s 0 0 A) (F0 m 10 ls []) := by
      intro n
      induction n with
      | zero => intro x2 znl10 hm; cases hm
      | succ n ih_10 =>
        intro x2 znl10 hm H locs hP hD hS ls hl
        refine lv_iload_n hx hb dX0_takeOut_10 rfl (lv_at hl 0 rfl) ?_
        refine lv_aload_n hx hb dX0_takeOut_11 rfl (lv_at hl 1 rfl) ?_
        refine va_get (D := (dC, dI)) (ci := 0) (v := .int znl10.2) (C := RX0) (T := TX0) (N := 2) hx hb hts ziX0 hown hK hP 0 rfl rfl 1 (by decide) zw0 (fun _ h9 => h9) rfl dX0_takeOut_12 ?_
        refine lv_iconst (v := 1) hx hb dX0_takeOut_15 (by decide) ?_
        refine lv_isub hx hb dX0_takeOut_16 ?_
        refine lv_icmp_ge (tgt := 38) hx hb dX0_takeOut_17 (by decide) (fun c_17 => ?_) (fun c_17 => ?_)
        · have hm := it_t hm c_17
          exact K_10 znl10 (o2 hm) _ _ hP hD hS _ (lv_sub hl [1] rfl)
        · have hm := it_f hm c_17
          refine lv_aload_n hx hb dX0_takeOut_20 rfl (lv_at hl 1 rfl) ?_
          refine lv_iload_n hx hb dX0_takeOut_21 rfl (lv_at hl 0 rfl) ?_
          refine lv_aload_n hx hb dX0_takeOut_22 rfl (lv_at hl 1 rfl) ?_
          refine lv_iload_n hx hb dX0_takeOut_23 rfl (lv_at hl 0 rfl) ?_
          refine lv_iconst (v := 1) hx hb dX0_takeOut_24 (by decide) ?_
          refine lv_iadd hx hb dX0_takeOut_25 ?_
          obtain ⟨r26, h_26, hm⟩ := ob hm
          refine z_callRi (As := [.int (x2 + 1)]) (rest := [.int x2, .ref h]) (ci := 0) (q := (RX0, TX0, 2)) ⟨hx, hb, hml, hown, hts⟩ (c_X0_at l dC dI cI h a N znl10 F (x2 + 1) r26 h_26) (cwV 1 hts gX0_takeOut_X0_at rfl rfl rfl kv_X0_at ⟨Nat.le_of_ble_eq_true rfl, Nat.le_of_ble_eq_true rfl⟩) hK hP rfl rfl rfl rfl hl.1 rfl (Nat.le_of_ble_eq_true rfl) dX0_takeOut_26 ⟨Nat.zero_le _, Nat.zero_le _⟩ ?_
          obtain ⟨zn29, h_29, hm⟩ := ob hm
          refine z_callWv (wc := (wN cI h a N znl10)) (w1 := (wN cI h a N zn29)) (ws := (wN cI h a N znl10)) (ws' := (wN cI h a N zn29)) (As := [.int x2, .int r26]) (rest := []) (ci := 0) (q := (RX0, TX0, 2)) ⟨hx, hb, hml, hown, hts⟩ (c_X0_put l dC dI cI h a N znl10 F x2 r26 H.size zn29 h_29) (cwV 2 hts gX0_takeOut_X0_put rfl rfl rfl kv_X0_put ⟨Nat.le_of_ble_eq_true rfl, Nat.le_of_ble_eq_true rfl⟩) hK hP hD hS hA (z_spAll (wN cI h a N znl10) (wN cI h a N zn29)) ((paN cI h a N zn29).trans (paN cI h a N znl10).symm) rfl rfl rfl rfl hl.1 rfl (Nat.le_of_ble_eq_true rfl) dX0_takeOut_29 ⟨Nat.zero_le _, Nat.zero_le _⟩ (fun H locs hP hD hS => ?_)
          obtain ⟨x2_1, e_x2_1⟩ : ∃ y : Int32, y = x2 + 1 := ⟨_, rfl⟩
          have hm := bnd_e hm e_x2_1
          refine lv_iinc (v := x2_1) (lv' := [(2, .int x2_1), (0, .ref h)]) hx hb dX0_takeOut_32 hl (k := 0) rfl (by rw [e_x2_1]; rfl) (by decide) rfl (fun ls hl => ?_)
          refine lv_goto (tgt := 10) hx hb dX0_takeOut_35 (by decide) ?_
          exact ih_10 x2_1 zn29 hm _ _ hP hD hS _ (lv_sub hl [0, 1] rfl)
    exact L_10 F p1 zn hq_10 _ _ hP hD hS _ (lv_sub hl [0, 1] rfl)
set_option maxHeartbeats 4000000 in
set_option maxRecDepth 100000 in
theorem c_X0_below (l : Launch) (dC : Nat → ClassId) (dI : Nat → Nat → Nat) (cI : ClassId) (h : Nat) (a : Nat) (N : Nat) (zn : zN) (F : Nat) (p1 : Int32) (r : Int32) (hm : X0_below F N zn p1 = some r) : Met l yX0_below wsX0_below ({ frames := 2, cells := 0, slots := 0, locals := 42 }) (va_Pc [.ref h, .int p1] (zR (dC, dI) (wN cI h a N zn) [(cI, .int)])) (vp_Si (fun v => v = r)) 0 0 (fun _ => False) := by
  refine Met.ofW (cc := cX0_below) (maxL := 6) (ret := (some .int)) (by decide) rfl ?_
  intro p e s m args below meth c s₁ B hml hv
  obtain ⟨rfl, hP, hK⟩ := hv
  have hx := B.exec
  have hb := B.bytes
  have hr := B.returns
  have hts := atoms_spec (ws := wsX0_below) B.pre
  have hown : s.vm.findClass RX0 = some m.cls := findClass_of_methodNamed B.named
  have hlocks := B.notSynchronized
  have hl := lv_entry ([.ref h, .int p1]) (n := 6) (Nat.le_of_ble_eq_true rfl)
  rw [lg_entry_eq]
  generalize (lg_sl ([.ref h, .int p1]) ++ List.replicate (6 - (lg_sl ([.ref h, .int p1])).length) Slot.unset).toArray = ls at hl ⊢
  have hl : lv_has ls 6 [(0, .ref h), (1, .int p1)] := hl
  have zw0 := hts (.fieldLink RX0 21 "LearnedLedge$Numbers" "length" "I") (List.mem_cons_of_mem _ (List.mem_append_left _ (List.mem_of_getElem? (i := 0) rfl)))
  have ziX0 : ∀ w ∈ u_ws RX0 TX0 2, w ∈ wsX0_below := (fun _ h9 => (List.mem_cons_of_mem _ (List.mem_append_right _ h9)))
  refine lv_iconst (v := 0) hx hb dX0_below_0 (by decide) ?_
  refine lv_istore_n (lv' := [(2, .int 0), (0, .ref h), (1, .int p1)]) hx hb dX0_below_1 rfl hl (by decide) rfl (fun ls hl => ?_)
  refine lv_aload_n hx hb dX0_below_2 rfl (lv_at hl 1 rfl) ?_
  refine va_get (D := (dC, dI)) (ci := 0) (v := .int zn.2) (C := RX0) (T := TX0) (N := 2) hx hb hts ziX0 hown hK hP 0 rfl rfl 1 (by decide) zw0 (fun _ h9 => h9) rfl dX0_below_3 ?_
  refine lv_istore_n (lv' := [(3, .int zn.2), (2, .int 0), (0, .ref h), (1, .int p1)]) hx hb dX0_below_6 rfl hl (by decide) rfl (fun ls hl => ?_)
  refine lv_iconst (v := 0) hx hb dX0_below_7 (by decide) ?_
  refine lv_istore (lv' := [(4, .int 0), (3, .int zn.2), (2, .int 0), (0, .ref h), (1, .int p1)]) hx hb dX0_below_8 hl (by decide) rfl (fun ls hl => ?_)
  obtain ⟨z_10, hq_10, hm⟩ := ob hm
  have K_10 : ∀ (x2_2 : Int32), z_10 = x2_2 → ∀ (ls : Array Slot), lv_has ls 6 [(2, .int x2_2)] → W p l e (headSpec wsX0_below ({ frames := 2, cells := 0, slots := 0, locals := 42 } : Room)).room s m ([.ref h, .int p1] : List Value).toArray below meth c s.heap [] 0 0 (MQ below (vp_Si (fun v => v = r)) ([.ref h, .int p1] : List Value).toArray s 0 0 (fun _ => False)) (F0 m 56 ls []) := by
    intro x2_2 ez ls hl
    rw [ez] at hm
    refine lv_iload_n hx hb dX0_below_56 rfl (lv_at hl 0 rfl) ?_
    exact W.iret hx hb hr (fun t ht hW => ⟨_, rfl, (o2 hm).symm, ht⟩) (fun q h => absurd h List.not_mem_nil) dX0_below_57
  have L_10 : ∀ (n : Nat) (x4 : Int32) (x3 : Int32) (x2 : Int32), X0_below_L10 p1 zn N F n x4 x3 x2 = some z_10 → ∀ (ls : Array Slot), lv_has ls 6 [(4, .int x4), (3, .int x3), (2, .int x2), (0, .ref h), (1, .int p1)] → W p l e (headSpec wsX0_below ({ frames := 2, cells := 0, slots := 0, locals := 42 } : Room)).room s m ([.ref h, .int p1] : List Value).toArray below meth c s.heap [] 0 0 (MQ below (vp_Si (fun v => v = r)) ([.ref h, .int p1] : List Value).toArray s 0 0 (fun _ => False)) (F0 m 10 ls []) := by
    intro n
    induction n with
    | zero => intro x4 x3 x2 hm; cases hm
    | succ n ih_10 =>
      intro x4 x3 x2 hm ls hl
      refine lv_iload hx hb dX0_below_10 (lv_at hl 0 rfl) ?_
      refine lv_bipush (v := 64) hx hb dX0_below_12 (by decide) ?_
      refine lv_icmp_ge (tgt := 56) hx hb dX0_below_14 (by decide) (fun c_14 => ?_) (fun c_14 => ?_)
      · have hm := it_t hm c_14
        exact K_10 x2 (o2 hm) _ (lv_sub hl [2] rfl)
      · have hm := it_f hm c_14
        refine lv_iload_n hx hb dX0_below_17 rfl (lv_at hl 2 rfl) ?_
        refine lv_iload_n hx hb dX0_below_18 rfl (lv_at hl 1 rfl) ?_
        refine lv_icmp_ge (tgt := 56) hx hb dX0_below_19 (by decide) (fun c_19 => ?_) (fun c_19 => ?_)
        · have hm := it_t hm c_19
          exact K_10 x2 (o2 hm) _ (lv_sub hl [2] rfl)
        · have hm := it_f hm c_19
          refine lv_iload_n hx hb dX0_below_22 rfl (lv_at hl 2 rfl) ?_
          refine lv_iload_n hx hb dX0_below_23 rfl (lv_at hl 1 rfl) ?_
          refine lv_iadd hx hb dX0_below_24 ?_
          refine lv_iconst (v := 2) hx hb dX0_below_25 (by decide) ?_
          refine lv_idiv hx hb dX0_below_26 (by decide) ?_
          refine lv_topi (fun x5 e_x5 => ?_)
          have hm := bnd_e hm e_x5
          refine lv_istore (lv' := [(5, .int x5), (4, .int x4), (3, .int x3), (2, .int x2), (0, .ref h), (1, .int p1)]) hx hb dX0_below_27 hl (by decide) rfl (fun ls hl => ?_)
          refine lv_aload_n hx hb dX0_below_29 rfl (lv_at hl 4 rfl) ?_
          refine lv_iload hx hb dX0_below_30 (lv_at hl 0 rfl) ?_
          obtain ⟨r32, h_32, hm⟩ := ob hm
          refine z_callRi (As := [.int x5]) (rest := []) (ci := 0) (q := (RX0, TX0, 2)) ⟨hx, hb, hml, hown, hts⟩ (c_X0_at l dC dI cI h a N zn F x5 r32 h_32) (cwV 1 hts gX0_below_X0_at rfl rfl rfl kv_X0_at ⟨Nat.le_of_ble_eq_true rfl, Nat.le_of_ble_eq_true rfl⟩) hK hP rfl rfl rfl rfl hl.1 rfl (Nat.le_of_ble_eq_true rfl) dX0_below_32 ⟨Nat.zero_le _, Nat.zero_le _⟩ ?_
          refine lv_iload_n hx hb dX0_below_35 rfl (lv_at hl 5 rfl) ?_
          refine lv_icmp_ge (tgt := 47) hx hb dX0_below_36 (by decide) (fun c_36 => ?_) (fun c_36 => ?_)
          · have hm := it_t hm c_36
            refine lv_iload hx hb dX0_below_47 (lv_at hl 0 rfl) ?_
            refine lv_istore_n (lv' := [(3, .int x5), (5, .int x5), (4, .int x4), (2, .int x2), (0, .ref h), (1, .int p1)]) hx hb dX0_below_49 rfl hl (by decide) rfl (fun ls hl => ?_)
            obtain ⟨x4_1, e_x4_1⟩ : ∃ y : Int32, y = x4 + 1 := ⟨_, rfl⟩
            have hm := bnd_e hm e_x4_1
            refine lv_iinc (v := x4_1) (lv' := [(4, .int x4_1), (3, .int x5), (5, .int x5), (2, .int x2), (0, .ref h), (1, .int p1)]) hx hb dX0_below_50 hl (k := 2) rfl (by rw [e_x4_1]; rfl) (by decide) rfl (fun ls hl => ?_)
            refine lv_goto (tgt := 10) hx hb dX0_below_53 (by decide) ?_
            exact ih_10 x4_1 x5 x2 hm _ (lv_sub hl [0, 1, 3, 4, 5] rfl)
          · have hm := it_f hm c_36
            refine lv_iload hx hb dX0_below_39 (lv_at hl 0 rfl) ?_
            refine lv_iconst (v := 1) hx hb dX0_below_41 (by decide) ?_
            refine lv_iadd hx hb dX0_below_42 ?_
            refine lv_topi (fun x2_1 e_x2_1 => ?_)
            have hm := bnd_e hm e_x2_1
            refine lv_istore_n (lv' := [(2, .int x2_1), (5, .int x5), (4, .int x4), (3, .int x3), (0, .ref h), (1, .int p1)]) hx hb dX0_below_43 rfl hl (by decide) rfl (fun ls hl => ?_)
            refine lv_goto (tgt := 50) hx hb dX0_below_44 (by decide) ?_
            obtain ⟨x4_2, e_x4_2⟩ : ∃ y : Int32, y = x4 + 1 := ⟨_, rfl⟩
            have hm := bnd_e hm e_x4_2
            refine lv_iinc (v := x4_2) (lv' := [(4, .int x4_2), (2, .int x2_1), (5, .int x5), (3, .int x3), (0, .ref h), (1, .int p1)]) hx hb dX0_below_50 hl (k := 2) rfl (by rw [e_x4_2]; rfl) (by decide) rfl (fun ls hl => ?_)
            refine lv_goto (tgt := 10) hx hb dX0_below_53 (by decide) ?_
            exact ih_10 x4_2 x3 x2_1 hm _ (lv_sub hl [0, 3, 1, 4, 5] rfl)
  exact L_10 F 0 zn.2 0 hq_10 _ (lv_sub hl [0, 1, 2, 3, 4] rfl)
set_option maxHeartbeats 4000000 in
set_option maxRecDepth 100000 in
theorem c_X0_indexOf (l : Launch) (dC : Nat → ClassId) (dI : Nat → Nat → Nat) (cI : ClassId) (h : Nat) (a : Nat) (N : Nat) (zn : zN) (F : Nat) (p1 : Int32) (r : Int32) (hm : X0_indexOf F N zn p1 = some r) : Met l yX0_indexOf wsX0_indexOf ({ frames := 3, cells := 0, slots := 0, locals := 67 }) (va_Pc [.ref h, .int p1] (zR (dC, dI) (wN cI h a N zn) [(cI, .int)])) (vp_Si (fun v => v = r)) 0 0 (fun _ => False) := by
  refine Met.ofW (cc := cX0_indexOf) (maxL := 3) (ret := (some .int)) (by decide) rfl ?_
  intro p e s m args below meth c s₁ B hml hv
  obtain ⟨rfl, hP, hK⟩ := hv
  have hx := B.exec
  have hb := B.bytes
  have hr := B.returns
  have hts := atoms_spec (ws := wsX0_indexOf) B.pre
  have hown : s.vm.findClass RX0 = some m.cls := findClass_of_methodNamed B.named
  have hlocks := B.notSynchronized
  have hl := lv_entry ([.ref h, .int p1]) (n := 3) (Nat.le_of_ble_eq_true rfl)
  rw [lg_entry_eq]
  generalize (lg_sl ([.ref h, .int p1]) ++ List.replicate (3 - (lg_sl ([.ref h, .int p1])).length) Slot.unset).toArray = ls at hl ⊢
  have hl : lv_has ls 3 [(0, .ref h), (1, .int p1)] := hl
  have zw0 := hts (.fieldLink RX0 15 "LearnedLedge$Numbers" "items" "[I") (List.mem_cons_of_mem _ (List.mem_append_left _ (List.mem_of_getElem? (i := 0) rfl)))
  have ziX0 : ∀ w ∈ u_ws RX0 TX0 2, w ∈ wsX0_indexOf := (fun _ h9 => (List.mem_cons_of_mem _ (List.mem_append_right _ h9)))
  refine lv_aload_n hx hb dX0_indexOf_0 rfl (lv_at hl 0 rfl) ?_
  refine lv_iload_n hx hb dX0_indexOf_1 rfl (lv_at hl 1 rfl) ?_
  obtain ⟨r2, h_2, hm⟩ := ob hm
  refine z_callRi (As := [.int p1]) (rest := []) (ci := 0) (q := (RX0, TX0, 2)) ⟨hx, hb, hml, hown, hts⟩ (c_X0_below l dC dI cI h a N zn F p1 r2 h_2) (cwV 1 hts gX0_indexOf_X0_below rfl rfl rfl kv_X0_below ⟨Nat.le_of_ble_eq_true rfl, Nat.le_of_ble_eq_true rfl⟩) hK hP rfl rfl rfl rfl hl.1 rfl (Nat.le_of_ble_eq_true rfl) dX0_indexOf_2 ⟨Nat.zero_le _, Nat.zero_le _⟩ ?_
  refine lv_istore_n (lv' := [(2, .int r2), (0, .ref h), (1, .int p1)]) hx hb dX0_indexOf_5 rfl hl (by decide) rfl (fun ls hl => ?_)
  refine lv_aload_n hx hb dX0_indexOf_6 rfl (lv_at hl 1 rfl) ?_
  refine lv_iload_n hx hb dX0_indexOf_7 rfl (lv_at hl 0 rfl) ?_
  obtain ⟨r8, h_8, hm⟩ := ob hm
  refine z_callRi (As := [.int r2]) (rest := []) (ci := 0) (q := (RX0, TX0, 2)) ⟨hx, hb, hml, hown, hts⟩ (c_X0_has l dC dI cI h a N zn F r2 r8 h_8) (cwV 1 hts gX0_indexOf_X0_has rfl rfl rfl kv_X0_has ⟨Nat.le_of_ble_eq_true rfl, Nat.le_of_ble_eq_true rfl⟩) hK hP rfl rfl rfl rfl hl.1 rfl (Nat.le_of_ble_eq_true rfl) dX0_indexOf_8 ⟨Nat.zero_le _, Nat.zero_le _⟩ ?_
  refine lv_if_eq (tgt := 28) hx hb dX0_indexOf_11 (by decide) (fun c_11 => ?_) (fun c_11 => ?_)
  · have hm := it_t hm c_11
    refine lv_iconst (v := (-1)) hx hb dX0_indexOf_28 (by decide) ?_
    exact W.iret hx hb hr (fun t ht hW => ⟨_, rfl, (o2 hm).symm, ht⟩) (fun q h => absurd h List.not_mem_nil) dX0_indexOf_29
  · have hm := it_f hm c_11
    refine lv_aload_n hx hb dX0_indexOf_14 rfl (lv_at hl 1 rfl) ?_
    refine va_get (D := (dC, dI)) (ci := 0) (v := .ref a) (C := RX0) (T := TX0) (N := 2) hx hb hts ziX0 hown hK hP 0 rfl rfl 0 (by decide) zw0 (fun _ h9 => h9) rfl dX0_indexOf_15 ?_
    refine lv_iload_n hx hb dX0_indexOf_18 rfl (lv_at hl 0 rfl) ?_
    obtain ⟨c_19, hm⟩ := ck hm
    refine va_iald hx hb hK hP 1 0 rfl rfl c_19 dX0_indexOf_19 ?_
    refine lv_iload_n hx hb dX0_indexOf_20 rfl (lv_at hl 2 rfl) ?_
    refine lv_icmp_ne (tgt := 28) hx hb dX0_indexOf_21 (by decide) (fun c_21 => ?_) (fun c_21 => ?_)
    · have hm := it_f hm c_21
      refine lv_iconst (v := (-1)) hx hb dX0_indexOf_28 (by decide) ?_
      exact W.iret hx hb hr (fun t ht hW => ⟨_, rfl, (o2 hm).symm, ht⟩) (fun q h => absurd h List.not_mem_nil) dX0_indexOf_29
    · have hm := it_t hm c_21
      refine lv_iload_n hx hb dX0_indexOf_24 rfl (lv_at hl 0 rfl) ?_
      refine lv_goto (tgt := 29) hx hb dX0_indexOf_25 (by decide) ?_
      exact W.iret hx hb hr (fun t ht hW => ⟨_, rfl, (o2 hm).symm, ht⟩) (fun q h => absurd h List.not_mem_nil) dX0_indexOf_29
