set_option maxHeartbeats 4000000 in
set_option maxRecDepth 100000 in
theorem c_X1_divisor (l : Launch) (dC : Nat → ClassId) (dI : Nat → Nat → Nat) (h : Nat) (zt : zT) (F : Nat) (r : Int64) (hm : X1_divisor F zt = some r) : Met l yX1_divisor wsX1_divisor ({ frames := 0, cells := 0, slots := 0, locals := 0 }) (va_Pc [.ref h] (zR (dC, dI) (wT h zt) [])) (vp_Sl (fun v => v = r)) 0 0 (fun _ => False) := by
  refine Met.ofW (cc := cX1_divisor) (maxL := 8) (ret := (some .long)) (by decide) rfl ?_
  intro p e s m args below meth c s₁ B hml hv
  obtain ⟨rfl, hP, hK⟩ := hv
  have hx := B.exec
  have hb := B.bytes
  have hr := B.returns
  have hts := atoms_spec (ws := wsX1_divisor) B.pre
  have hown : s.vm.findClass RX1 = some m.cls := findClass_of_methodNamed B.named
  have hlocks := B.notSynchronized
  have hl := lv_entry ([.ref h]) (n := 8) (Nat.le_of_ble_eq_true rfl)
  rw [lg_entry_eq]
  generalize (lg_sl ([.ref h]) ++ List.replicate (8 - (lg_sl ([.ref h])).length) Slot.unset).toArray = ls at hl ⊢
  have hl : lv_has ls 8 [(0, .ref h)] := hl
  have zw0 := hts (.fieldLink RX1 15 "LearnedLedge$SlopeRange" "leastRun" "J") (List.mem_cons_of_mem _ (List.mem_append_left _ (List.mem_of_getElem? (i := 0) rfl)))
  have zw1 := hts (.fieldLink RX1 9 "LearnedLedge$SlopeRange" "leastRise" "J") (List.mem_cons_of_mem _ (List.mem_append_left _ (List.mem_of_getElem? (i := 1) rfl)))
  have ziX1 : ∀ w ∈ u_ws RX1 TX1 7, w ∈ wsX1_divisor := (fun _ h9 => (List.mem_cons_of_mem _ (List.mem_append_right _ h9)))
  refine lv_aload_n hx hb dX1_divisor_0 rfl (lv_at hl 0 rfl) ?_
  refine va_get (D := (dC, dI)) (ci := 1) (v := .long zt.2.2.2.2.1) (C := RX1) (T := TX1) (N := 7) hx hb hts ziX1 hown hK hP 0 rfl rfl 4 (by decide) zw0 (fun _ h9 => h9) rfl dX1_divisor_1 ?_
  refine lv_lstore_n (lv' := [(1, .long zt.2.2.2.2.1), (0, .ref h)]) hx hb dX1_divisor_4 rfl hl (by decide) rfl (fun ls hl => ?_)
  refine lv_aload_n hx hb dX1_divisor_5 rfl (lv_at hl 1 rfl) ?_
  refine va_get (D := (dC, dI)) (ci := 1) (v := .long zt.2.2.2.1) (C := RX1) (T := TX1) (N := 7) hx hb hts ziX1 hown hK hP 0 rfl rfl 3 (by decide) zw1 (fun _ h9 => h9) rfl dX1_divisor_6 ?_
  refine lv_lstore_n (lv' := [(3, .long zt.2.2.2.1), (1, .long zt.2.2.2.2.1), (0, .ref h)]) hx hb dX1_divisor_9 rfl hl (by decide) rfl (fun ls hl => ?_)
  refine lv_iconst (v := 0) hx hb dX1_divisor_10 (by decide) ?_
  refine lv_istore (lv' := [(5, .int 0), (3, .long zt.2.2.2.1), (1, .long zt.2.2.2.2.1), (0, .ref h)]) hx hb dX1_divisor_11 hl (by decide) rfl (fun ls hl => ?_)
  obtain ⟨z_13, hq_13, hm⟩ := ob hm
  have K_13 : ∀ (x1_1 : Int64), z_13 = x1_1 → ∀ (ls : Array Slot), lv_has ls 8 [(1, .long x1_1)] → W p l e (headSpec wsX1_divisor ({ frames := 0, cells := 0, slots := 0, locals := 0 } : Room)).room s m ([.ref h] : List Value).toArray below meth c s.heap [] 0 0 (MQ below (vp_Sl (fun v => v = r)) ([.ref h] : List Value).toArray s 0 0 (fun _ => False)) (F0 m 42 ls []) := by
    intro x1_1 ez ls hl
    rw [ez] at hm
    refine lv_lload_n hx hb dX1_divisor_42 rfl (lv_at hl 0 rfl) ?_
    refine lv_lconst (v := 1) hx hb dX1_divisor_43 (by decide) ?_
    refine W.lcmp hx hb dX1_divisor_44 ?_
    refine lv_if_ge (tgt := 52) hx hb dX1_divisor_45 (by decide) (fun c_45 => ?_) (fun c_45 => ?_)
    · have c_45 : 1 ≤ x1_1 := (lg_cmp_ge _ _).mp c_45
      have hm := it_t hm c_45
      refine lv_lload_n hx hb dX1_divisor_52 rfl (lv_at hl 0 rfl) ?_
      exact W.lret hx hb hr (fun t ht hW => ⟨_, rfl, (o2 hm).symm, ht⟩) (fun q h => absurd h List.not_mem_nil) dX1_divisor_53
    · have c_45 : ¬ (1 ≤ x1_1) := fun h => c_45 ((lg_cmp_ge _ _).mpr h)
      have hm := it_f hm c_45
      refine lv_lconst (v := 1) hx hb dX1_divisor_48 (by decide) ?_
      refine lv_goto (tgt := 53) hx hb dX1_divisor_49 (by decide) ?_
      exact W.lret hx hb hr (fun t ht hW => ⟨_, rfl, (o2 hm).symm, ht⟩) (fun q h => absurd h List.not_mem_nil) dX1_divisor_53
  have L_13 : ∀ (n : Nat) (x5 : Int32) (x3 : Int64) (x1 : Int64), X1_divisor_L13 n x5 x3 x1 = some z_13 → ∀ (ls : Array Slot), lv_has ls 8 [(5, .int x5), (3, .long x3), (1, .long x1)] → W p l e (headSpec wsX1_divisor ({ frames := 0, cells := 0, slots := 0, locals := 0 } : Room)).room s m ([.ref h] : List Value).toArray below meth c s.heap [] 0 0 (MQ below (vp_Sl (fun v => v = r)) ([.ref h] : List Value).toArray s 0 0 (fun _ => False)) (F0 m 13 ls []) := by
    intro n
    induction n with
    | zero => intro x5 x3 x1 hm; cases hm
    | succ n ih_13 =>
      intro x5 x3 x1 hm ls hl
      refine lv_iload hx hb dX1_divisor_13 (lv_at hl 0 rfl) ?_
      refine lv_bipush (v := 64) hx hb dX1_divisor_15 (by decide) ?_
      refine lv_icmp_ge (tgt := 42) hx hb dX1_divisor_17 (by decide) (fun c_17 => ?_) (fun c_17 => ?_)
      · have hm := it_t hm c_17
        exact K_13 x1 (o2 hm) _ (lv_sub hl [2] rfl)
      · have hm := it_f hm c_17
        refine lv_lload_n hx hb dX1_divisor_20 rfl (lv_at hl 1 rfl) ?_
        refine lv_lconst (v := 0) hx hb dX1_divisor_21 (by decide) ?_
        refine W.lcmp hx hb dX1_divisor_22 ?_
        refine lv_if_eq (tgt := 42) hx hb dX1_divisor_23 (by decide) (fun c_23 => ?_) (fun c_23 => ?_)
        · have c_23 : x3 = 0 := (lg_cmp_eq _ _).mp c_23
          have hm := it_t hm c_23
          exact K_13 x1 (o2 hm) _ (lv_sub hl [2] rfl)
        · have c_23 : ¬ (x3 = 0) := fun h => c_23 ((lg_cmp_eq _ _).mpr h)
          have hm := it_f hm c_23
          refine lv_lload_n hx hb dX1_divisor_26 rfl (lv_at hl 2 rfl) ?_
          refine lv_lload_n hx hb dX1_divisor_27 rfl (lv_at hl 1 rfl) ?_
          obtain ⟨c_28, hm⟩ := ck hm
          refine lv_lrem hx hb dX1_divisor_28 c_28 ?_
          refine lv_topl (fun x6 e_x6 => ?_)
          have hm := bnd_e hm e_x6
          refine lv_lstore (lv' := [(6, .long x6), (5, .int x5), (3, .long x3), (1, .long x1)]) hx hb dX1_divisor_29 hl (by decide) rfl (fun ls hl => ?_)
          refine lv_lload_n hx hb dX1_divisor_31 rfl (lv_at hl 2 rfl) ?_
          refine lv_lstore_n (lv' := [(1, .long x3), (6, .long x6), (5, .int x5), (3, .long x3)]) hx hb dX1_divisor_32 rfl hl (by decide) rfl (fun ls hl => ?_)
          refine lv_lload hx hb dX1_divisor_33 (lv_at hl 1 rfl) ?_
          refine lv_lstore_n (lv' := [(3, .long x6), (1, .long x3), (6, .long x6), (5, .int x5)]) hx hb dX1_divisor_35 rfl hl (by decide) rfl (fun ls hl => ?_)
          obtain ⟨x5_1, e_x5_1⟩ : ∃ y : Int32, y = x5 + 1 := ⟨_, rfl⟩
          have hm := bnd_e hm e_x5_1
          refine lv_iinc (v := x5_1) (lv' := [(5, .int x5_1), (3, .long x6), (1, .long x3), (6, .long x6)]) hx hb dX1_divisor_36 hl (k := 3) rfl (by rw [e_x5_1]; rfl) (by decide) rfl (fun ls hl => ?_)
          refine lv_goto (tgt := 13) hx hb dX1_divisor_39 (by decide) ?_
          exact ih_13 x5_1 x6 x3 hm _ (lv_sub hl [0, 1, 2] rfl)
  exact L_13 F 0 zt.2.2.2.1 zt.2.2.2.2.1 hq_13 _ (lv_sub hl [0, 1, 2] rfl)
set_option maxHeartbeats 4000000 in
set_option maxRecDepth 100000 in
theorem c_X1_leastRise (l : Launch) (dC : Nat → ClassId) (dI : Nat → Nat → Nat) (h : Nat) (zt : zT) (F : Nat) (r : Int32) (hm : X1_leastRise F zt = some r) : Met l yX1_leastRise wsX1_leastRise ({ frames := 1, cells := 0, slots := 0, locals := 27 }) (va_Pc [.ref h] (zR (dC, dI) (wT h zt) [])) (vp_Si (fun v => v = r)) 0 0 (fun _ => False) := by
  refine Met.ofW (cc := cX1_leastRise) (maxL := 1) (ret := (some .int)) (by decide) rfl ?_
  intro p e s m args below meth c s₁ B hml hv
  obtain ⟨rfl, hP, hK⟩ := hv
  have hx := B.exec
  have hb := B.bytes
  have hr := B.returns
  have hts := atoms_spec (ws := wsX1_leastRise) B.pre
  have hown : s.vm.findClass RX1 = some m.cls := findClass_of_methodNamed B.named
  have hlocks := B.notSynchronized
  have hl := lv_entry ([.ref h]) (n := 1) (Nat.le_of_ble_eq_true rfl)
  rw [lg_entry_eq]
  generalize (lg_sl ([.ref h]) ++ List.replicate (1 - (lg_sl ([.ref h])).length) Slot.unset).toArray = ls at hl ⊢
  have hl : lv_has ls 1 [(0, .ref h)] := hl
  have zw0 := hts (.fieldLink RX1 9 "LearnedLedge$SlopeRange" "leastRise" "J") (List.mem_cons_of_mem _ (List.mem_append_left _ (List.mem_of_getElem? (i := 0) rfl)))
  have ziX1 : ∀ w ∈ u_ws RX1 TX1 7, w ∈ wsX1_leastRise := (fun _ h9 => (List.mem_cons_of_mem _ (List.mem_append_right _ h9)))
  refine lv_aload_n hx hb dX1_leastRise_0 rfl (lv_at hl 0 rfl) ?_
  refine va_get (D := (dC, dI)) (ci := 1) (v := .long zt.2.2.2.1) (C := RX1) (T := TX1) (N := 7) hx hb hts ziX1 hown hK hP 0 rfl rfl 3 (by decide) zw0 (fun _ h9 => h9) rfl dX1_leastRise_1 ?_
  refine lv_aload_n hx hb dX1_leastRise_4 rfl (lv_at hl 0 rfl) ?_
  obtain ⟨r5, h_5, hm⟩ := ob hm
  refine z_callRl (As := []) (rest := [.long zt.2.2.2.1]) (ci := 1) (q := (RX1, TX1, 7)) ⟨hx, hb, hml, hown, hts⟩ (c_X1_divisor l dC dI h zt F r5 h_5) (cwV 0 hts gX1_leastRise_X1_divisor rfl rfl rfl kv_X1_divisor ⟨Nat.le_of_ble_eq_true rfl, Nat.le_of_ble_eq_true rfl⟩) hK hP rfl rfl rfl rfl hl.1 rfl (Nat.le_of_ble_eq_true rfl) dX1_leastRise_5 ⟨Nat.zero_le _, Nat.zero_le _⟩ ?_
  obtain ⟨c_8, hm⟩ := ck hm
  refine lv_ldiv hx hb dX1_leastRise_8 c_8 ?_
  refine lv_l2i hx hb dX1_leastRise_9 rfl ?_
  exact W.iret hx hb hr (fun t ht hW => ⟨_, rfl, (o2 hm).symm, ht⟩) (fun q h => absurd h List.not_mem_nil) dX1_leastRise_10
set_option maxHeartbeats 4000000 in
set_option maxRecDepth 100000 in
theorem c_X1_leastRun (l : Launch) (dC : Nat → ClassId) (dI : Nat → Nat → Nat) (h : Nat) (zt : zT) (F : Nat) (r : Int32) (hm : X1_leastRun F zt = some r) : Met l yX1_leastRun wsX1_leastRun ({ frames := 1, cells := 0, slots := 0, locals := 27 }) (va_Pc [.ref h] (zR (dC, dI) (wT h zt) [])) (vp_Si (fun v => v = r)) 0 0 (fun _ => False) := by
  refine Met.ofW (cc := cX1_leastRun) (maxL := 1) (ret := (some .int)) (by decide) rfl ?_
  intro p e s m args below meth c s₁ B hml hv
  obtain ⟨rfl, hP, hK⟩ := hv
  have hx := B.exec
  have hb := B.bytes
  have hr := B.returns
  have hts := atoms_spec (ws := wsX1_leastRun) B.pre
  have hown : s.vm.findClass RX1 = some m.cls := findClass_of_methodNamed B.named
  have hlocks := B.notSynchronized
  have hl := lv_entry ([.ref h]) (n := 1) (Nat.le_of_ble_eq_true rfl)
  rw [lg_entry_eq]
  generalize (lg_sl ([.ref h]) ++ List.replicate (1 - (lg_sl ([.ref h])).length) Slot.unset).toArray = ls at hl ⊢
  have hl : lv_has ls 1 [(0, .ref h)] := hl
  have zw0 := hts (.fieldLink RX1 15 "LearnedLedge$SlopeRange" "leastRun" "J") (List.mem_cons_of_mem _ (List.mem_append_left _ (List.mem_of_getElem? (i := 0) rfl)))
  have ziX1 : ∀ w ∈ u_ws RX1 TX1 7, w ∈ wsX1_leastRun := (fun _ h9 => (List.mem_cons_of_mem _ (List.mem_append_right _ h9)))
  refine lv_aload_n hx hb dX1_leastRun_0 rfl (lv_at hl 0 rfl) ?_
  refine va_get (D := (dC, dI)) (ci := 1) (v := .long zt.2.2.2.2.1) (C := RX1) (T := TX1) (N := 7) hx hb hts ziX1 hown hK hP 0 rfl rfl 4 (by decide) zw0 (fun _ h9 => h9) rfl dX1_leastRun_1 ?_
  refine lv_aload_n hx hb dX1_leastRun_4 rfl (lv_at hl 0 rfl) ?_
  obtain ⟨r5, h_5, hm⟩ := ob hm
  refine z_callRl (As := []) (rest := [.long zt.2.2.2.2.1]) (ci := 1) (q := (RX1, TX1, 7)) ⟨hx, hb, hml, hown, hts⟩ (c_X1_divisor l dC dI h zt F r5 h_5) (cwV 0 hts gX1_leastRun_X1_divisor rfl rfl rfl kv_X1_divisor ⟨Nat.le_of_ble_eq_true rfl, Nat.le_of_ble_eq_true rfl⟩) hK hP rfl rfl rfl rfl hl.1 rfl (Nat.le_of_ble_eq_true rfl) dX1_leastRun_5 ⟨Nat.zero_le _, Nat.zero_le _⟩ ?_
  obtain ⟨c_8, hm⟩ := ck hm
  refine lv_ldiv hx hb dX1_leastRun_8 c_8 ?_
  refine lv_l2i hx hb dX1_leastRun_9 rfl ?_
  exact W.iret hx hb hr (fun t ht hW => ⟨_, rfl, (o2 hm).symm, ht⟩) (fun q h => absurd h List.not_mem_nil) dX1_leastRun_10
