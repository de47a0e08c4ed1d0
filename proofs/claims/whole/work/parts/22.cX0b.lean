set_option maxHeartbeats 4000000 in
set_option maxRecDepth 100000 in
theorem c_X0_indexOf (l : Launch) (dC : Nat → ClassId) (dI : Nat → Nat → Nat) (cI : ClassId) (h : Nat) (a : Nat) (N : Nat) (zn : zN) (F : Nat) (p1 : Int32) (r : Int32) (hm : X0_indexOf F N zn p1 = some r) : Met l yX0_indexOf wsX0_indexOf ({ frames := 3, cells := 0, slots := 0, locals := 67 }) (va_Pc [.ref h, .int p1] (zR (dC, dI) (wN cI h a N zn) [(cI, .int)])) (vp_Si (fun v => v = r)) 0 0 (fun _ => False) := by
  refine Met.ofW (cc := cX0_indexOf) (maxL := 3) (ret := (some .int)) (by decide) rfl ?_
  intro p e s m args below meth c s₁ B hml hv
  obtain ⟨rfl, hP, hK⟩ := hv
  have hx := B.exec
  have hb := B.bytes
  have hr := B.returns
  have hts := atoms_spec (ws := wsX0_indexOf) B.pre
  have hown : s.vm.findClass RX0 = some m.cls := findClass_of_methodNamed B.named
  have hlocks := B.notSynchronized
  have hl := lv_entry ([.ref h, .int p1]) (n := 3) (Nat.le_of_ble_eq_true rfl)
  rw [lg_entry_eq]
  generalize (lg_sl ([.ref h, .int p1]) ++ List.replicate (3 - (lg_sl ([.ref h, .int p1])).length) Slot.unset).toArray = ls at hl ⊢
  have hl : lv_has ls 3 [(0, .ref h), (1, .int p1)] := hl
  have zw0 := hts (.fieldLink RX0 15 "LearnedLedge$Numbers" "items" "[I") (List.mem_cons_of_mem _ (List.mem_append_left _ (List.mem_of_getElem? (i := 0) rfl)))
  have ziX0 : ∀ w ∈ u_ws RX0 TX0 2, w ∈ wsX0_indexOf := (fun _ h9 => (List.mem_cons_of_mem _ (List.mem_append_right _ h9)))
  refine lv_aload_n hx hb dX0_indexOf_0 rfl (lv_at hl 0 rfl) ?_
  refine lv_iload_n hx hb dX0_indexOf_1 rfl (lv_at hl 1 rfl) ?_
  obtain ⟨r2, h_2, hm⟩ := ob hm
  refine z_callRi (As := [.int p1]) (rest := []) (ci := 0) (q := (RX0, TX0, 2)) ⟨hx, hb, hml, hown, hts⟩ (c_X0_below l dC dI cI h a N zn F p1 r2 h_2) (cwV 1 hts gX0_indexOf_X0_below rfl rfl rfl kv_X0_below ⟨Nat.le_of_ble_eq_true rfl, Nat.le_of_ble_eq_true rfl⟩) hK hP rfl rfl rfl rfl hl.1 rfl (Nat.le_of_ble_eq_true rfl) dX0_indexOf_2 ⟨Nat.zero_le _, Nat.zero_le _⟩ ?_
  refine lv_istore_n (lv' := [(2, .int r2), (0, .ref h), (1, .int p1)]) hx hb dX0_indexOf_5 rfl hl (by decide) rfl (fun ls hl => ?_)
  refine lv_aload_n hx hb dX0_indexOf_6 rfl (lv_at hl 1 rfl) ?_
  refine lv_iload_n hx hb dX0_indexOf_7 rfl (lv_at hl 0 rfl) ?_
  obtain ⟨r8, h_8, hm⟩ := ob hm
  refine z_callRi (As := [.int r2]) (rest := []) (ci := 0) (q := (RX0, TX0, 2)) ⟨hx, hb, hml, hown, hts⟩ (c_X0_has l dC dI cI h a N zn F r2 r8 h_8) (cwV 1 hts gX0_indexOf_X0_has rfl rfl rfl kv_X0_has ⟨Nat.le_of_ble_eq_true rfl, Nat.le_of_ble_eq_true rfl⟩) hK hP rfl rfl rfl rfl hl.1 rfl (Nat.le_of_ble_eq_true rfl) dX0_indexOf_8 ⟨Nat.zero_le _, Nat.zero_le _⟩ ?_
  refine lv_if_eq (tgt := 28) hx hb dX0_indexOf_11 (by decide) (fun c_11 => ?_) (fun c_11 => ?_)
  · have hm := it_t hm c_11
    refine lv_iconst (v := (-1)) hx hb dX0_indexOf_28 (by decide) ?_
    exact W.iret hx hb hr (fun t ht hW => ⟨_, rfl, (o2 hm).symm, ht⟩) (fun q h => absurd h List.not_mem_nil) dX0_indexOf_29
  · have hm := it_f hm c_11
    refine lv_aload_n hx hb dX0_indexOf_14 rfl (lv_at hl 1 rfl) ?_
    refine va_get (D := (dC, dI)) (ci := 0) (v := .ref a) (C := RX0) (T := TX0) (N := 2) hx hb hts ziX0 hown hK hP 0 rfl rfl 0 (by decide) zw0 (fun _ h9 => h9) rfl dX0_indexOf_15 ?_
    refine lv_iload_n hx hb dX0_indexOf_18 rfl (lv_at hl 0 rfl) ?_
    obtain ⟨c_19, hm⟩ := ck hm
    refine va_iald hx hb hK hP 1 0 rfl rfl c_19 dX0_indexOf_19 ?_
    refine lv_iload_n hx hb dX0_indexOf_20 rfl (lv_at hl 2 rfl) ?_
    refine lv_icmp_ne (tgt := 28) hx hb dX0_indexOf_21 (by decide) (fun c_21 => ?_) (fun c_21 => ?_)
    · have hm := it_f hm c_21
      refine lv_iconst (v := (-1)) hx hb dX0_indexOf_28 (by decide) ?_
      exact W.iret hx hb hr (fun t ht hW => ⟨_, rfl, (o2 hm).symm, ht⟩) (fun q h => absurd h List.not_mem_nil) dX0_indexOf_29
    · have hm := it_t hm c_21
      refine lv_iload_n hx hb dX0_indexOf_24 rfl (lv_at hl 0 rfl) ?_
      refine lv_goto (tgt := 29) hx hb dX0_indexOf_25 (by decide) ?_
      exact W.iret hx hb hr (fun t ht hW => ⟨_, rfl, (o2 hm).symm, ht⟩) (fun q h => absurd h List.not_mem_nil) dX0_indexOf_29
