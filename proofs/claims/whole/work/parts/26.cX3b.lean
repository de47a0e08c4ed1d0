set_option maxHeartbeats 4000000 in
set_option maxRecDepth 100000 in
theorem c_X3_placeOf (l : Launch) (dC : Nat → ClassId) (dI : Nat → Nat → Nat) (cI : ClassId) (cZ : ClassId) (md : Nat → Nat) (yth : Int32) (ybd : Int32) (yro : Int32) (yrow : Nat → Int32) (ymk : Nat → Int32) (yrm : Int32) (yst : Nat → Int32) (ypc : Int32) (ybu : Nat → Int32) (ybn : Int32) (ymg : Int32) (ysp : Int32) (yjn : Int32) (ymd : Nat → Int32) (ybg : Nat → Int32) (ymm : Int32) (yup : Int64) (yun : Int64) (F : Nat) (p1 : Int32) (r : Int32) (hm : X3_placeOf F yrow yrm p1 = some r) : Met l yX3_placeOf wsX3_placeOf ({ frames := 0, cells := 0, slots := 0, locals := 0 }) (va_Pc [.ref (md 0), .int p1] (zR (dC, dI) (wM cI cZ md yth ybd yro yrow ymk yrm yst ypc ybu ybn ymg ysp yjn ymd ybg ymm yup yun) [(cI, .int), (cZ, .boolean)])) (vp_Si (fun v => v = r)) 0 0 (fun _ => False) := by
  refine Met.ofW (cc := cX3_placeOf) (maxL := 3) (ret := (some .int)) (by decide) rfl ?_
  intro p e s m args below meth c s₁ B hml hv
  obtain ⟨rfl, hP, hK⟩ := hv
  have hx := B.exec
  have hb := B.bytes
  have hr := B.returns
  have hts := atoms_spec (ws := wsX3_placeOf) B.pre
  have hown : s.vm.findClass RX3 = some m.cls := findClass_of_methodNamed B.named
  have hlocks := B.notSynchronized
  have hl := lv_entry ([.ref (md 0), .int p1]) (n := 3) (Nat.le_of_ble_eq_true rfl)
  rw [lg_entry_eq]
  generalize (lg_sl ([.ref (md 0), .int p1]) ++ List.replicate (3 - (lg_sl ([.ref (md 0), .int p1])).length) Slot.unset).toArray = ls at hl ⊢
  have hl : lv_has ls 3 [(0, .ref (md 0)), (1, .int p1)] := hl
  have zw0 := hts (.fieldLink RX3 51 "LearnedLedgeModel" "rowMany" "I") (List.mem_cons_of_mem _ (List.mem_append_left _ (List.mem_of_getElem? (i := 0) rfl)))
  have zw1 := hts (.fieldLink RX3 16 "LearnedLedgeModel" "row" "[I") (List.mem_cons_of_mem _ (List.mem_append_left _ (List.mem_of_getElem? (i := 1) rfl)))
  have ziX3 : ∀ w ∈ u_ws RX3 TX3 18, w ∈ wsX3_placeOf := (fun _ h9 => (List.mem_cons_of_mem _ (List.mem_append_right _ h9)))
  refine lv_iconst (v := 0) hx hb dX3_placeOf_0 (by decide) ?_
  refine lv_istore_n (lv' := [(2, .int 0), (0, .ref (md 0)), (1, .int p1)]) hx hb dX3_placeOf_1 rfl hl (by decide) rfl (fun ls hl => ?_)
  obtain ⟨z_2, hq_2, hm⟩ := ob hm
  have K_2 : ∀ (x2_2 : Int32), z_2 = x2_2 → ∀ (ls : Array Slot), lv_has ls 3 [(2, .int x2_2)] → W p l e (headSpec wsX3_placeOf ({ frames := 0, cells := 0, slots := 0, locals := 0 } : Room)).room s m ([.ref (md 0), .int p1] : List Value).toArray below meth c s.heap [] 0 0 (MQ below (vp_Si (fun v => v = r)) ([.ref (md 0), .int p1] : List Value).toArray s 0 0 (fun _ => False)) (F0 m 26 ls []) := by
    intro x2_2 ez ls hl
    rw [ez] at hm
    refine lv_iload_n hx hb dX3_placeOf_26 rfl (lv_at hl 0 rfl) ?_
    exact W.iret hx hb hr (fun t ht hW => ⟨_, rfl, (o2 hm).symm, ht⟩) (fun q h => absurd h List.not_mem_nil) dX3_placeOf_27
  have L_2 : ∀ (n : Nat) (x2 : Int32), X3_placeOf_L2 p1 yrow yrm n x2 = some z_2 → ∀ (ls : Array Slot), lv_has ls 3 [(2, .int x2), (0, .ref (md 0)), (1, .int p1)] → W p l e (headSpec wsX3_placeOf ({ frames := 0, cells := 0, slots := 0, locals := 0 } : Room)).room s m ([.ref (md 0), .int p1] : List Value).toArray below meth c s.heap [] 0 0 (MQ below (vp_Si (fun v => v = r)) ([.ref (md 0), .int p1] : List Value).toArray s 0 0 (fun _ => False)) (F0 m 2 ls []) := by
    intro n
    induction n with
    | zero => intro x2 hm; cases hm
    | succ n ih_2 =>
      intro x2 hm ls hl
      refine lv_iload_n hx hb dX3_placeOf_2 rfl (lv_at hl 0 rfl) ?_
      refine lv_aload_n hx hb dX3_placeOf_3 rfl (lv_at hl 1 rfl) ?_
      refine va_get (D := (dC, dI)) (ci := 3) (v := .int yrm) (C := RX3) (T := TX3) (N := 18) hx hb hts ziX3 hown hK hP 0 rfl rfl 5 (by decide) zw0 (fun _ h9 => h9) rfl dX3_placeOf_4 ?_
      refine lv_icmp_ge (tgt := 26) hx hb dX3_placeOf_7 (by decide) (fun c_7 => ?_) (fun c_7 => ?_)
      · have hm := it_t hm c_7
        exact K_2 x2 (o2 hm) _ (lv_sub hl [0] rfl)
      · have hm := it_f hm c_7
        refine lv_aload_n hx hb dX3_placeOf_10 rfl (lv_at hl 1 rfl) ?_
        refine va_get (D := (dC, dI)) (ci := 3) (v := .ref (md 1)) (C := RX3) (T := TX3) (N := 18) hx hb hts ziX3 hown hK hP 0 rfl rfl 3 (by decide) zw1 (fun _ h9 => h9) rfl dX3_placeOf_11 ?_
        refine lv_iload_n hx hb dX3_placeOf_14 rfl (lv_at hl 0 rfl) ?_
        obtain ⟨c_15, hm⟩ := ck hm
        refine va_iald hx hb hK hP 1 0 rfl rfl c_15 dX3_placeOf_15 ?_
        refine lv_iload_n hx hb dX3_placeOf_16 rfl (lv_at hl 2 rfl) ?_
        refine lv_icmp_ge (tgt := 26) hx hb dX3_placeOf_17 (by decide) (fun c_17 => ?_) (fun c_17 => ?_)
        · have hm := it_t hm c_17
          exact K_2 x2 (o2 hm) _ (lv_sub hl [0] rfl)
        · have hm := it_f hm c_17
          obtain ⟨x2_1, e_x2_1⟩ : ∃ y : Int32, y = x2 + 1 := ⟨_, rfl⟩
          have hm := bnd_e hm e_x2_1
          refine lv_iinc (v := x2_1) (lv' := [(2, .int x2_1), (0, .ref (md 0)), (1, .int p1)]) hx hb dX3_placeOf_20 hl (k := 0) rfl (by rw [e_x2_1]; rfl) (by decide) rfl (fun ls hl => ?_)
          refine lv_goto (tgt := 2) hx hb dX3_placeOf_23 (by decide) ?_
          exact ih_2 x2_1 hm _ (lv_sub hl [0, 1, 2] rfl)
  exact L_2 F 0 hq_2 _ (lv_sub hl [0, 1, 2] rfl)
set_option maxHeartbeats 4000000 in
set_option maxRecDepth 100000 in
theorem c_X3_isInRow (l : Launch) (dC : Nat → ClassId) (dI : Nat → Nat → Nat) (cI : ClassId) (cZ : ClassId) (md : Nat → Nat) (yth : Int32) (ybd : Int32) (yro : Int32) (yrow : Nat → Int32) (ymk : Nat → Int32) (yrm : Int32) (yst : Nat → Int32) (ypc : Int32) (ybu : Nat → Int32) (ybn : Int32) (ymg : Int32) (ysp : Int32) (yjn : Int32) (ymd : Nat → Int32) (ybg : Nat → Int32) (ymm : Int32) (yup : Int64) (yun : Int64) (F : Nat) (p1 : Int32) (r : Int32) (hm : X3_isInRow F yrow yrm p1 = some r) : Met l yX3_isInRow wsX3_isInRow ({ frames := 1, cells := 0, slots := 0, locals := 22 }) (va_Pc [.ref (md 0), .int p1] (zR (dC, dI) (wM cI cZ md yth ybd yro yrow ymk yrm yst ypc ybu ybn ymg ysp yjn ymd ybg ymm yup yun) [(cI, .int), (cZ, .boolean)])) (vp_Si (fun v => v = r)) 0 0 (fun _ => False) := by
  refine Met.ofW (cc := cX3_isInRow) (maxL := 3) (ret := (some .boolean)) (by decide) rfl ?_
  intro p e s m args below meth c s₁ B hml hv
  obtain ⟨rfl, hP, hK⟩ := hv
  have hx := B.exec
  have hb := B.bytes
  have hr := B.returns
  have hts := atoms_spec (ws := wsX3_isInRow) B.pre
  have hown : s.vm.findClass RX3 = some m.cls := findClass_of_methodNamed B.named
  have hlocks := B.notSynchronized
  have hl := lv_entry ([.ref (md 0), .int p1]) (n := 3) (Nat.le_of_ble_eq_true rfl)
  rw [lg_entry_eq]
  generalize (lg_sl ([.ref (md 0), .int p1]) ++ List.replicate (3 - (lg_sl ([.ref (md 0), .int p1])).length) Slot.unset).toArray = ls at hl ⊢
  have hl : lv_has ls 3 [(0, .ref (md 0)), (1, .int p1)] := hl
  have zw0 := hts (.fieldLink RX3 51 "LearnedLedgeModel" "rowMany" "I") (List.mem_cons_of_mem _ (List.mem_append_left _ (List.mem_of_getElem? (i := 0) rfl)))
  have zw1 := hts (.fieldLink RX3 16 "LearnedLedgeModel" "row" "[I") (List.mem_cons_of_mem _ (List.mem_append_left _ (List.mem_of_getElem? (i := 1) rfl)))
  have ziX3 : ∀ w ∈ u_ws RX3 TX3 18, w ∈ wsX3_isInRow := (fun _ h9 => (List.mem_cons_of_mem _ (List.mem_append_right _ h9)))
  refine lv_aload_n hx hb dX3_isInRow_0 rfl (lv_at hl 0 rfl) ?_
  refine lv_iload_n hx hb dX3_isInRow_1 rfl (lv_at hl 1 rfl) ?_
  obtain ⟨r2, h_2, hm⟩ := ob hm
  refine z_callRi (As := [.int p1]) (rest := []) (ci := 3) (q := (RX3, TX3, 18)) ⟨hx, hb, hml, hown, hts⟩ (c_X3_placeOf l dC dI cI cZ md yth ybd yro yrow ymk yrm yst ypc ybu ybn ymg ysp yjn ymd ybg ymm yup yun F p1 r2 h_2) (cwV 1 hts gX3_isInRow_X3_placeOf rfl rfl rfl kv_X3_placeOf ⟨Nat.le_of_ble_eq_true rfl, Nat.le_of_ble_eq_true rfl⟩) hK hP rfl rfl rfl rfl hl.1 rfl (Nat.le_of_ble_eq_true rfl) dX3_isInRow_2 ⟨Nat.zero_le _, Nat.zero_le _⟩ ?_
  refine lv_istore_n (lv' := [(2, .int r2), (0, .ref (md 0)), (1, .int p1)]) hx hb dX3_isInRow_5 rfl hl (by decide) rfl (fun ls hl => ?_)
  refine lv_iload_n hx hb dX3_isInRow_6 rfl (lv_at hl 0 rfl) ?_
  refine lv_aload_n hx hb dX3_isInRow_7 rfl (lv_at hl 1 rfl) ?_
  refine va_get (D := (dC, dI)) (ci := 3) (v := .int yrm) (C := RX3) (T := TX3) (N := 18) hx hb hts ziX3 hown hK hP 0 rfl rfl 5 (by decide) zw0 (fun _ h9 => h9) rfl dX3_isInRow_8 ?_
  refine lv_icmp_ge (tgt := 28) hx hb dX3_isInRow_11 (by decide) (fun c_11 => ?_) (fun c_11 => ?_)
  · have hm := it_t hm c_11
    refine lv_iconst (v := 0) hx hb dX3_isInRow_28 (by decide) ?_
    exact W.zret hx hb hr rfl (fun t ht hW => ⟨_, rfl, (o2 hm).symm, ht⟩) (fun q h => absurd h List.not_mem_nil) dX3_isInRow_29
  · have hm := it_f hm c_11
    refine lv_aload_n hx hb dX3_isInRow_14 rfl (lv_at hl 1 rfl) ?_
    refine va_get (D := (dC, dI)) (ci := 3) (v := .ref (md 1)) (C := RX3) (T := TX3) (N := 18) hx hb hts ziX3 hown hK hP 0 rfl rfl 3 (by decide) zw1 (fun _ h9 => h9) rfl dX3_isInRow_15 ?_
    refine lv_iload_n hx hb dX3_isInRow_18 rfl (lv_at hl 0 rfl) ?_
    obtain ⟨c_19, hm⟩ := ck hm
    refine va_iald hx hb hK hP 1 0 rfl rfl c_19 dX3_isInRow_19 ?_
    refine lv_iload_n hx hb dX3_isInRow_20 rfl (lv_at hl 2 rfl) ?_
    refine lv_icmp_ne (tgt := 28) hx hb dX3_isInRow_21 (by decide) (fun c_21 => ?_) (fun c_21 => ?_)
    · have hm := it_f hm c_21
      refine lv_iconst (v := 0) hx hb dX3_isInRow_28 (by decide) ?_
      exact W.zret hx hb hr rfl (fun t ht hW => ⟨_, rfl, (o2 hm).symm, ht⟩) (fun q h => absurd h List.not_mem_nil) dX3_isInRow_29
    · have hm := it_t hm c_21
      refine lv_iconst (v := 1) hx hb dX3_isInRow_24 (by decide) ?_
      refine lv_goto (tgt := 29) hx hb dX3_isInRow_25 (by decide) ?_
      exact W.zret hx hb hr rfl (fun t ht hW => ⟨_, rfl, (o2 hm).symm, ht⟩) (fun q h => absurd h List.not_mem_nil) dX3_isInRow_29
set_option maxHeartbeats 4000000 in
set_option maxRecDepth 100000 in
theorem c_X3_isBuffered (l : Launch) (dC : Nat → ClassId) (dI : Nat → Nat → Nat) (cI : ClassId) (cZ : ClassId) (md : Nat → Nat) (yth : Int32) (ybd : Int32) (yro : Int32) (yrow : Nat → Int32) (ymk : Nat → Int32) (yrm : Int32) (yst : Nat → Int32) (ypc : Int32) (ybu : Nat → Int32) (ybn : Int32) (ymg : Int32) (ysp : Int32) (yjn : Int32) (ymd : Nat → Int32) (ybg : Nat → Int32) (ymm : Int32) (yup : Int64) (yun : Int64) (F : Nat) (p1 : Int32) (r : Int32) (hm : X3_isBuffered F ybu ybn p1 = some r) : Met l yX3_isBuffered wsX3_isBuffered ({ frames := 0, cells := 0, slots := 0, locals := 0 }) (va_Pc [.ref (md 0), .int p1] (zR (dC, dI) (wM cI cZ md yth ybd yro yrow ymk yrm yst ypc ybu ybn ymg ysp yjn ymd ybg ymm yup yun) [(cI, .int), (cZ, .boolean)])) (vp_Si (fun v => v = r)) 0 0 (fun _ => False) := by
  refine Met.ofW (cc := cX3_isBuffered) (maxL := 4) (ret := (some .boolean)) (by decide) rfl ?_
  intro p e s m args below meth c s₁ B hml hv
  obtain ⟨rfl, hP, hK⟩ := hv
  have hx := B.exec
  have hb := B.bytes
  have hr := B.returns
  have hts := atoms_spec (ws := wsX3_isBuffered) B.pre
  have hown : s.vm.findClass RX3 = some m.cls := findClass_of_methodNamed B.named
  have hlocks := B.notSynchronized
  have hl := lv_entry ([.ref (md 0), .int p1]) (n := 4) (Nat.le_of_ble_eq_true rfl)
  rw [lg_entry_eq]
  generalize (lg_sl ([.ref (md 0), .int p1]) ++ List.replicate (4 - (lg_sl ([.ref (md 0), .int p1])).length) Slot.unset).toArray = ls at hl ⊢
  have hl : lv_has ls 4 [(0, .ref (md 0)), (1, .int p1)] := hl
  have zw0 := hts (.fieldLink RX3 69 "LearnedLedgeModel" "buffered" "I") (List.mem_cons_of_mem _ (List.mem_append_left _ (List.mem_of_getElem? (i := 0) rfl)))
  have zw1 := hts (.fieldLink RX3 27 "LearnedLedgeModel" "buffer" "[I") (List.mem_cons_of_mem _ (List.mem_append_left _ (List.mem_of_getElem? (i := 1) rfl)))
  have ziX3 : ∀ w ∈ u_ws RX3 TX3 18, w ∈ wsX3_isBuffered := (fun _ h9 => (List.mem_cons_of_mem _ (List.mem_append_right _ h9)))
  refine lv_iconst (v := 0) hx hb dX3_isBuffered_0 (by decide) ?_
  refine lv_istore_n (lv' := [(2, .int 0), (0, .ref (md 0)), (1, .int p1)]) hx hb dX3_isBuffered_1 rfl hl (by decide) rfl (fun ls hl => ?_)
  refine lv_iconst (v := 0) hx hb dX3_isBuffered_2 (by decide) ?_
  refine lv_istore_n (lv' := [(3, .int 0), (2, .int 0), (0, .ref (md 0)), (1, .int p1)]) hx hb dX3_isBuffered_3 rfl hl (by decide) rfl (fun ls hl => ?_)
  obtain ⟨z_4, hq_4, hm⟩ := ob hm
  have K_4 : ∀ (x2_1 : Int32), z_4 = x2_1 → ∀ (ls : Array Slot), lv_has ls 4 [(2, .int x2_1)] → W p l e (headSpec wsX3_isBuffered ({ frames := 0, cells := 0, slots := 0, locals := 0 } : Room)).room s m ([.ref (md 0), .int p1] : List Value).toArray below meth c s.heap [] 0 0 (MQ below (vp_Si (fun v => v = r)) ([.ref (md 0), .int p1] : List Value).toArray s 0 0 (fun _ => False)) (F0 m 38 ls []) := by
    intro x2_1 ez ls hl
    rw [ez] at hm
    refine lv_iload_n hx hb dX3_isBuffered_38 rfl (lv_at hl 0 rfl) ?_
    obtain ⟨c_39, hm⟩ := ck hm
    exact W.zret hx hb hr (nar_b c_39) (fun t ht hW => ⟨_, rfl, (o2 hm).symm, ht⟩) (fun q h => absurd h List.not_mem_nil) dX3_isBuffered_39
  have L_4 : ∀ (n : Nat) (x3 : Int32) (x2 : Int32), X3_isBuffered_L4 p1 ybu ybn n x3 x2 = some z_4 → ∀ (ls : Array Slot), lv_has ls 4 [(3, .int x3), (2, .int x2), (0, .ref (md 0)), (1, .int p1)] → W p l e (headSpec wsX3_isBuffered ({ frames := 0, cells := 0, slots := 0, locals := 0 } : Room)).room s m ([.ref (md 0), .int p1] : List Value).toArray below meth c s.heap [] 0 0 (MQ below (vp_Si (fun v => v = r)) ([.ref (md 0), .int p1] : List Value).toArray s 0 0 (fun _ => False)) (F0 m 4 ls []) := by
    intro n
    induction n with
    | zero => intro x3 x2 hm; cases hm
    | succ n ih_4 =>
      intro x3 x2 hm ls hl
      refine lv_iload_n hx hb dX3_isBuffered_4 rfl (lv_at hl 0 rfl) ?_
      refine lv_aload_n hx hb dX3_isBuffered_5 rfl (lv_at hl 2 rfl) ?_
      refine va_get (D := (dC, dI)) (ci := 3) (v := .int ybn) (C := RX3) (T := TX3) (N := 18) hx hb hts ziX3 hown hK hP 0 rfl rfl 9 (by decide) zw0 (fun _ h9 => h9) rfl dX3_isBuffered_6 ?_
      refine lv_icmp_ge (tgt := 38) hx hb dX3_isBuffered_9 (by decide) (fun c_9 => ?_) (fun c_9 => ?_)
      · have hm := it_t hm c_9
        exact K_4 x2 (o2 hm) _ (lv_sub hl [1] rfl)
      · have hm := it_f hm c_9
        refine lv_iload_n hx hb dX3_isBuffered_12 rfl (lv_at hl 1 rfl) ?_
        refine lv_if_ne (tgt := 26) hx hb dX3_isBuffered_13 (by decide) (fun c_13 => ?_) (fun c_13 => ?_)
        · have hm := it_f hm c_13
          refine lv_iconst (v := 1) hx hb dX3_isBuffered_26 (by decide) ?_
          refine lv_goto (tgt := 31) hx hb dX3_isBuffered_27 (by decide) ?_
          refine lv_istore_n (lv' := [(2, .int 1), (3, .int x3), (0, .ref (md 0)), (1, .int p1)]) hx hb dX3_isBuffered_31 rfl hl (by decide) rfl (fun ls hl => ?_)
          obtain ⟨x3_1, e_x3_1⟩ : ∃ y : Int32, y = x3 + 1 := ⟨_, rfl⟩
          have hm := bnd_e hm e_x3_1
          refine lv_iinc (v := x3_1) (lv' := [(3, .int x3_1), (2, .int 1), (0, .ref (md 0)), (1, .int p1)]) hx hb dX3_isBuffered_32 hl (k := 1) rfl (by rw [e_x3_1]; rfl) (by decide) rfl (fun ls hl => ?_)
          refine lv_goto (tgt := 4) hx hb dX3_isBuffered_35 (by decide) ?_
          exact ih_4 x3_1 1 hm _ (lv_sub hl [0, 1, 2, 3] rfl)
        · have hm := it_t hm c_13
          refine lv_aload_n hx hb dX3_isBuffered_16 rfl (lv_at hl 2 rfl) ?_
          refine va_get (D := (dC, dI)) (ci := 3) (v := .ref (md 4)) (C := RX3) (T := TX3) (N := 18) hx hb hts ziX3 hown hK hP 0 rfl rfl 8 (by decide) zw1 (fun _ h9 => h9) rfl dX3_isBuffered_17 ?_
          refine lv_iload_n hx hb dX3_isBuffered_20 rfl (lv_at hl 0 rfl) ?_
          obtain ⟨c_21, hm⟩ := ck hm
          refine va_iald hx hb hK hP 4 0 rfl rfl c_21 dX3_isBuffered_21 ?_
          refine lv_iload_n hx hb dX3_isBuffered_22 rfl (lv_at hl 3 rfl) ?_
          refine lv_icmp_ne (tgt := 30) hx hb dX3_isBuffered_23 (by decide) (fun c_23 => ?_) (fun c_23 => ?_)
          · have hm := it_f hm c_23
            refine lv_iconst (v := 0) hx hb dX3_isBuffered_30 (by decide) ?_
            refine lv_istore_n (lv' := [(2, .int 0), (3, .int x3), (0, .ref (md 0)), (1, .int p1)]) hx hb dX3_isBuffered_31 rfl hl (by decide) rfl (fun ls hl => ?_)
            obtain ⟨x3_2, e_x3_2⟩ : ∃ y : Int32, y = x3 + 1 := ⟨_, rfl⟩
            have hm := bnd_e hm e_x3_2
            refine lv_iinc (v := x3_2) (lv' := [(3, .int x3_2), (2, .int 0), (0, .ref (md 0)), (1, .int p1)]) hx hb dX3_isBuffered_32 hl (k := 1) rfl (by rw [e_x3_2]; rfl) (by decide) rfl (fun ls hl => ?_)
            refine lv_goto (tgt := 4) hx hb dX3_isBuffered_35 (by decide) ?_
            exact ih_4 x3_2 0 hm _ (lv_sub hl [0, 1, 2, 3] rfl)
          · have hm := it_t hm c_23
            refine lv_iconst (v := 1) hx hb dX3_isBuffered_26 (by decide) ?_
            refine lv_goto (tgt := 31) hx hb dX3_isBuffered_27 (by decide) ?_
            refine lv_istore_n (lv' := [(2, .int 1), (3, .int x3), (0, .ref (md 0)), (1, .int p1)]) hx hb dX3_isBuffered_31 rfl hl (by decide) rfl (fun ls hl => ?_)
            obtain ⟨x3_3, e_x3_3⟩ : ∃ y : Int32, y = x3 + 1 := ⟨_, rfl⟩
            have hm := bnd_e hm e_x3_3
            refine lv_iinc (v := x3_3) (lv' := [(3, .int x3_3), (2, .int 1), (0, .ref (md 0)), (1, .int p1)]) hx hb dX3_isBuffered_32 hl (k := 1) rfl (by rw [e_x3_3]; rfl) (by decide) rfl (fun ls hl => ?_)
            refine lv_goto (tgt := 4) hx hb dX3_isBuffered_35 (by decide) ?_
            exact ih_4 x3_3 1 hm _ (lv_sub hl [0, 1, 2, 3] rfl)
  exact L_4 F 0 0 hq_4 _ (lv_sub hl [0, 1, 2, 3] rfl)
set_option maxHeartbeats 4000000 in
set_option maxRecDepth 100000 in
theorem c_X3_isThere (l : Launch) (dC : Nat → ClassId) (dI : Nat → Nat → Nat) (cI : ClassId) (cZ : ClassId) (md : Nat → Nat) (yth : Int32) (ybd : Int32) (yro : Int32) (yrow : Nat → Int32) (ymk : Nat → Int32) (yrm : Int32) (yst : Nat → Int32) (ypc : Int32) (ybu : Nat → Int32) (ybn : Int32) (ymg : Int32) (ysp : Int32) (yjn : Int32) (ymd : Nat → Int32) (ybg : Nat → Int32) (ymm : Int32) (yup : Int64) (yun : Int64) (F : Nat) (p1 : Int32) (r : Int32) (hm : X3_isThere F yrow ymk yrm ybu ybn p1 = some r) : Met l yX3_isThere wsX3_isThere ({ frames := 2, cells := 0, slots := 0, locals := 44 }) (va_Pc [.ref (md 0), .int p1] (zR (dC, dI) (wM cI cZ md yth ybd yro yrow ymk yrm yst ypc ybu ybn ymg ysp yjn ymd ybg ymm yup yun) [(cI, .int), (cZ, .boolean)])) (vp_Si (fun v => v = r)) 0 0 (fun _ => False) := by
  refine Met.ofW (cc := cX3_isThere) (maxL := 2) (ret := (some .boolean)) (by decide) rfl ?_
  intro p e s m args below meth c s₁ B hml hv
  obtain ⟨rfl, hP, hK⟩ := hv
  have hx := B.exec
  have hb := B.bytes
  have hr := B.returns
  have hts := atoms_spec (ws := wsX3_isThere) B.pre
  have hown : s.vm.findClass RX3 = some m.cls := findClass_of_methodNamed B.named
  have hlocks := B.notSynchronized
  have hl := lv_entry ([.ref (md 0), .int p1]) (n := 2) (Nat.le_of_ble_eq_true rfl)
  rw [lg_entry_eq]
  generalize (lg_sl ([.ref (md 0), .int p1]) ++ List.replicate (2 - (lg_sl ([.ref (md 0), .int p1])).length) Slot.unset).toArray = ls at hl ⊢
  have hl : lv_has ls 2 [(0, .ref (md 0)), (1, .int p1)] := hl
  have zw0 := hts (.fieldLink RX3 20 "LearnedLedgeModel" "isMarked" "[Z") (List.mem_cons_of_mem _ (List.mem_append_left _ (List.mem_of_getElem? (i := 0) rfl)))
  have ziX3 : ∀ w ∈ u_ws RX3 TX3 18, w ∈ wsX3_isThere := (fun _ h9 => (List.mem_cons_of_mem _ (List.mem_append_right _ h9)))
  refine lv_aload_n hx hb dX3_isThere_0 rfl (lv_at hl 0 rfl) ?_
  refine lv_iload_n hx hb dX3_isThere_1 rfl (lv_at hl 1 rfl) ?_
  obtain ⟨r2, h_2, hm⟩ := ob hm
  refine z_callRi (As := [.int p1]) (rest := []) (ci := 3) (q := (RX3, TX3, 18)) ⟨hx, hb, hml, hown, hts⟩ (c_X3_isBuffered l dC dI cI cZ md yth ybd yro yrow ymk yrm yst ypc ybu ybn ymg ysp yjn ymd ybg ymm yup yun F p1 r2 h_2) (cwV 1 hts gX3_isThere_X3_isBuffered rfl rfl rfl kv_X3_isBuffered ⟨Nat.le_of_ble_eq_true rfl, Nat.le_of_ble_eq_true rfl⟩) hK hP rfl rfl rfl rfl hl.1 rfl (Nat.le_of_ble_eq_true rfl) dX3_isThere_2 ⟨Nat.zero_le _, Nat.zero_le _⟩ ?_
  refine lv_if_ne (tgt := 29) hx hb dX3_isThere_5 (by decide) (fun c_5 => ?_) (fun c_5 => ?_)
  · have hm := it_f hm c_5
    refine lv_iconst (v := 1) hx hb dX3_isThere_29 (by decide) ?_
    refine lv_goto (tgt := 34) hx hb dX3_isThere_30 (by decide) ?_
    exact W.zret hx hb hr rfl (fun t ht hW => ⟨_, rfl, (o2 hm).symm, ht⟩) (fun q h => absurd h List.not_mem_nil) dX3_isThere_34
  · have hm := it_t hm c_5
    refine lv_aload_n hx hb dX3_isThere_8 rfl (lv_at hl 0 rfl) ?_
    refine lv_iload_n hx hb dX3_isThere_9 rfl (lv_at hl 1 rfl) ?_
    obtain ⟨r10, h_10, hm⟩ := ob hm
    refine z_callRi (As := [.int p1]) (rest := []) (ci := 3) (q := (RX3, TX3, 18)) ⟨hx, hb, hml, hown, hts⟩ (c_X3_isInRow l dC dI cI cZ md yth ybd yro yrow ymk yrm yst ypc ybu ybn ymg ysp yjn ymd ybg ymm yup yun F p1 r10 h_10) (cwV 1 hts gX3_isThere_X3_isInRow rfl rfl rfl kv_X3_isInRow ⟨Nat.le_of_ble_eq_true rfl, Nat.le_of_ble_eq_true rfl⟩) hK hP rfl rfl rfl rfl hl.1 rfl (Nat.le_of_ble_eq_true rfl) dX3_isThere_10 ⟨Nat.zero_le _, Nat.zero_le _⟩ ?_
    refine lv_if_eq (tgt := 33) hx hb dX3_isThere_13 (by decide) (fun c_13 => ?_) (fun c_13 => ?_)
    · have hm := it_t hm c_13
      refine lv_iconst (v := 0) hx hb dX3_isThere_33 (by decide) ?_
      exact W.zret hx hb hr rfl (fun t ht hW => ⟨_, rfl, (o2 hm).symm, ht⟩) (fun q h => absurd h List.not_mem_nil) dX3_isThere_34
    · have hm := it_f hm c_13
      refine lv_aload_n hx hb dX3_isThere_16 rfl (lv_at hl 0 rfl) ?_
      refine va_get (D := (dC, dI)) (ci := 3) (v := .ref (md 2)) (C := RX3) (T := TX3) (N := 18) hx hb hts ziX3 hown hK hP 0 rfl rfl 4 (by decide) zw0 (fun _ h9 => h9) rfl dX3_isThere_17 ?_
      refine lv_aload_n hx hb dX3_isThere_20 rfl (lv_at hl 0 rfl) ?_
      refine lv_iload_n hx hb dX3_isThere_21 rfl (lv_at hl 1 rfl) ?_
      obtain ⟨r22, h_22, hm⟩ := ob hm
      refine z_callRi (As := [.int p1]) (rest := [.ref (md 2)]) (ci := 3) (q := (RX3, TX3, 18)) ⟨hx, hb, hml, hown, hts⟩ (c_X3_placeOf l dC dI cI cZ md yth ybd yro yrow ymk yrm yst ypc ybu ybn ymg ysp yjn ymd ybg ymm yup yun F p1 r22 h_22) (cwV 1 hts gX3_isThere_X3_placeOf rfl rfl rfl kv_X3_placeOf ⟨Nat.le_of_ble_eq_true rfl, Nat.le_of_ble_eq_true rfl⟩) hK hP rfl rfl rfl rfl hl.1 rfl (Nat.le_of_ble_eq_true rfl) dX3_isThere_22 ⟨Nat.zero_le _, Nat.zero_le _⟩ ?_
      obtain ⟨c_25, hm⟩ := ck hm
      refine va_zald hx hb hK hP 2 1 rfl rfl c_25 dX3_isThere_25 ?_
      refine lv_if_ne (tgt := 33) hx hb dX3_isThere_26 (by decide) (fun c_26 => ?_) (fun c_26 => ?_)
      · have hm := it_f hm c_26
        refine lv_iconst (v := 0) hx hb dX3_isThere_33 (by decide) ?_
        exact W.zret hx hb hr rfl (fun t ht hW => ⟨_, rfl, (o2 hm).symm, ht⟩) (fun q h => absurd h List.not_mem_nil) dX3_isThere_34
      · have hm := it_t hm c_26
        refine lv_iconst (v := 1) hx hb dX3_isThere_29 (by decide) ?_
        refine lv_goto (tgt := 34) hx hb dX3_isThere_30 (by decide) ?_
        exact W.zret hx hb hr rfl (fun t ht hW => ⟨_, rfl, (o2 hm).symm, ht⟩) (fun q h => absurd h List.not_mem_nil) dX3_isThere_34
set_option maxHeartbeats 4000000 in
set_option maxRecDepth 100000 in
theorem c_X3_pieceOf (l : Launch) (dC : Nat → ClassId) (dI : Nat → Nat → Nat) (cI : ClassId) (cZ : ClassId) (md : Nat → Nat) (yth : Int32) (ybd : Int32) (yro : Int32) (yrow : Nat → Int32) (ymk : Nat → Int32) (yrm : Int32) (yst : Nat → Int32) (ypc : Int32) (ybu : Nat → Int32) (ybn : Int32) (ymg : Int32) (ysp : Int32) (yjn : Int32) (ymd : Nat → Int32) (ybg : Nat → Int32) (ymm : Int32) (yup : Int64) (yun : Int64) (F : Nat) (p1 : Int32) (r : Int32) (hm : X3_pieceOf F yrow yst ypc p1 = some r) : Met l yX3_pieceOf wsX3_pieceOf ({ frames := 0, cells := 0, slots := 0, locals := 0 }) (va_Pc [.ref (md 0), .int p1] (zR (dC, dI) (wM cI cZ md yth ybd yro yrow ymk yrm yst ypc ybu ybn ymg ysp yjn ymd ybg ymm yup yun) [(cI, .int), (cZ, .boolean)])) (vp_Si (fun v => v = r)) 0 0 (fun _ => False) := by
  refine Met.ofW (cc := cX3_pieceOf) (maxL := 4) (ret := (some .int)) (by decide) rfl ?_
  intro p e s m args below meth c s₁ B hml hv
  obtain ⟨rfl, hP, hK⟩ := hv
  have hx := B.exec
  have hb := B.bytes
  have hr := B.returns
  have hts := atoms_spec (ws := wsX3_pieceOf) B.pre
  have hown : s.vm.findClass RX3 = some m.cls := findClass_of_methodNamed B.named
  have hlocks := B.notSynchronized
  have hl := lv_entry ([.ref (md 0), .int p1]) (n := 4) (Nat.le_of_ble_eq_true rfl)
  rw [lg_entry_eq]
  generalize (lg_sl ([.ref (md 0), .int p1]) ++ List.replicate (4 - (lg_sl ([.ref (md 0), .int p1])).length) Slot.unset).toArray = ls at hl ⊢
  have hl : lv_has ls 4 [(0, .ref (md 0)), (1, .int p1)] := hl
  have zw0 := hts (.fieldLink RX3 48 "LearnedLedgeModel" "pieces" "I") (List.mem_cons_of_mem _ (List.mem_append_left _ (List.mem_of_getElem? (i := 0) rfl)))
  have zw1 := hts (.fieldLink RX3 16 "LearnedLedgeModel" "row" "[I") (List.mem_cons_of_mem _ (List.mem_append_left _ (List.mem_of_getElem? (i := 1) rfl)))
  have zw2 := hts (.fieldLink RX3 24 "LearnedLedgeModel" "start" "[I") (List.mem_cons_of_mem _ (List.mem_append_left _ (List.mem_of_getElem? (i := 2) rfl)))
  have ziX3 : ∀ w ∈ u_ws RX3 TX3 18, w ∈ wsX3_pieceOf := (fun _ h9 => (List.mem_cons_of_mem _ (List.mem_append_right _ h9)))
  refine lv_iconst (v := (-1)) hx hb dX3_pieceOf_0 (by decide) ?_
  refine lv_istore_n (lv' := [(2, .int (-1)), (0, .ref (md 0)), (1, .int p1)]) hx hb dX3_pieceOf_1 rfl hl (by decide) rfl (fun ls hl => ?_)
  refine lv_iconst (v := 0) hx hb dX3_pieceOf_2 (by decide) ?_
  refine lv_istore_n (lv' := [(3, .int 0), (2, .int (-1)), (0, .ref (md 0)), (1, .int p1)]) hx hb dX3_pieceOf_3 rfl hl (by decide) rfl (fun ls hl => ?_)
  obtain ⟨z_4, hq_4, hm⟩ := ob hm
  have K_4 : ∀ (x2_1 : Int32), z_4 = x2_1 → ∀ (ls : Array Slot), lv_has ls 4 [(2, .int x2_1)] → W p l e (headSpec wsX3_pieceOf ({ frames := 0, cells := 0, slots := 0, locals := 0 } : Room)).room s m ([.ref (md 0), .int p1] : List Value).toArray below meth c s.heap [] 0 0 (MQ below (vp_Si (fun v => v = r)) ([.ref (md 0), .int p1] : List Value).toArray s 0 0 (fun _ => False)) (F0 m 39 ls []) := by
    intro x2_1 ez ls hl
    rw [ez] at hm
    refine lv_iload_n hx hb dX3_pieceOf_39 rfl (lv_at hl 0 rfl) ?_
    exact W.iret hx hb hr (fun t ht hW => ⟨_, rfl, (o2 hm).symm, ht⟩) (fun q h => absurd h List.not_mem_nil) dX3_pieceOf_40
  have L_4 : ∀ (n : Nat) (x3 : Int32) (x2 : Int32), X3_pieceOf_L4 p1 yrow yst ypc n x3 x2 = some z_4 → ∀ (ls : Array Slot), lv_has ls 4 [(3, .int x3), (2, .int x2), (0, .ref (md 0)), (1, .int p1)] → W p l e (headSpec wsX3_pieceOf ({ frames := 0, cells := 0, slots := 0, locals := 0 } : Room)).room s m ([.ref (md 0), .int p1] : List Value).toArray below meth c s.heap [] 0 0 (MQ below (vp_Si (fun v => v = r)) ([.ref (md 0), .int p1] : List Value).toArray s 0 0 (fun _ => False)) (F0 m 4 ls []) := by
    intro n
    induction n with
    | zero => intro x3 x2 hm; cases hm
    | succ n ih_4 =>
      intro x3 x2 hm ls hl
      refine lv_iload_n hx hb dX3_pieceOf_4 rfl (lv_at hl 0 rfl) ?_
      refine lv_aload_n hx hb dX3_pieceOf_5 rfl (lv_at hl 2 rfl) ?_
      refine va_get (D := (dC, dI)) (ci := 3) (v := .int ypc) (C := RX3) (T := TX3) (N := 18) hx hb hts ziX3 hown hK hP 0 rfl rfl 7 (by decide) zw0 (fun _ h9 => h9) rfl dX3_pieceOf_6 ?_
      refine lv_icmp_ge (tgt := 39) hx hb dX3_pieceOf_9 (by decide) (fun c_9 => ?_) (fun c_9 => ?_)
      · have hm := it_t hm c_9
        exact K_4 x2 (o2 hm) _ (lv_sub hl [1] rfl)
      · have hm := it_f hm c_9
        refine lv_aload_n hx hb dX3_pieceOf_12 rfl (lv_at hl 2 rfl) ?_
        refine va_get (D := (dC, dI)) (ci := 3) (v := .ref (md 1)) (C := RX3) (T := TX3) (N := 18) hx hb hts ziX3 hown hK hP 0 rfl rfl 3 (by decide) zw1 (fun _ h9 => h9) rfl dX3_pieceOf_13 ?_
        refine lv_aload_n hx hb dX3_pieceOf_16 rfl (lv_at hl 2 rfl) ?_
        refine va_get (D := (dC, dI)) (ci := 3) (v := .ref (md 3)) (C := RX3) (T := TX3) (N := 18) hx hb hts ziX3 hown hK hP 0 rfl rfl 6 (by decide) zw2 (fun _ h9 => h9) rfl dX3_pieceOf_17 ?_
        refine lv_iload_n hx hb dX3_pieceOf_20 rfl (lv_at hl 0 rfl) ?_
        obtain ⟨c_21, hm⟩ := ck hm
        refine va_iald hx hb hK hP 3 0 rfl rfl c_21 dX3_pieceOf_21 ?_
        obtain ⟨c_22, hm⟩ := ck hm
        refine va_iald hx hb hK hP 1 0 rfl rfl c_22 dX3_pieceOf_22 ?_
        refine lv_iload_n hx hb dX3_pieceOf_23 rfl (lv_at hl 3 rfl) ?_
        refine lv_icmp_gt (tgt := 31) hx hb dX3_pieceOf_24 (by decide) (fun c_24 => ?_) (fun c_24 => ?_)
        · have hm := it_t hm c_24
          refine lv_iload_n hx hb dX3_pieceOf_31 rfl (lv_at hl 1 rfl) ?_
          refine lv_istore_n (lv' := [(2, .int x2), (3, .int x3), (0, .ref (md 0)), (1, .int p1)]) hx hb dX3_pieceOf_32 rfl hl (by decide) rfl (fun ls hl => ?_)
          obtain ⟨x3_1, e_x3_1⟩ : ∃ y : Int32, y = x3 + 1 := ⟨_, rfl⟩
          have hm := bnd_e hm e_x3_1
          refine lv_iinc (v := x3_1) (lv' := [(3, .int x3_1), (2, .int x2), (0, .ref (md 0)), (1, .int p1)]) hx hb dX3_pieceOf_33 hl (k := 1) rfl (by rw [e_x3_1]; rfl) (by decide) rfl (fun ls hl => ?_)
          refine lv_goto (tgt := 4) hx hb dX3_pieceOf_36 (by decide) ?_
          exact ih_4 x3_1 x2 hm _ (lv_sub hl [0, 1, 2, 3] rfl)
        · have hm := it_f hm c_24
          refine lv_iload_n hx hb dX3_pieceOf_27 rfl (lv_at hl 0 rfl) ?_
          refine lv_goto (tgt := 32) hx hb dX3_pieceOf_28 (by decide) ?_
          refine lv_istore_n (lv' := [(2, .int x3), (3, .int x3), (0, .ref (md 0)), (1, .int p1)]) hx hb dX3_pieceOf_32 rfl hl (by decide) rfl (fun ls hl => ?_)
          obtain ⟨x3_2, e_x3_2⟩ : ∃ y : Int32, y = x3 + 1 := ⟨_, rfl⟩
          have hm := bnd_e hm e_x3_2
          refine lv_iinc (v := x3_2) (lv' := [(3, .int x3_2), (2, .int x3), (0, .ref (md 0)), (1, .int p1)]) hx hb dX3_pieceOf_33 hl (k := 1) rfl (by rw [e_x3_2]; rfl) (by decide) rfl (fun ls hl => ?_)
          refine lv_goto (tgt := 4) hx hb dX3_pieceOf_36 (by decide) ?_
          exact ih_4 x3_2 x3 hm _ (lv_sub hl [0, 1, 2, 3] rfl)
  exact L_4 F 0 (-1) hq_4 _ (lv_sub hl [0, 1, 2, 3] rfl)
set_option maxHeartbeats 4000000 in
set_option maxRecDepth 100000 in
theorem c_X3_many (l : Launch) (dC : Nat → ClassId) (dI : Nat → Nat → Nat) (cI : ClassId) (cZ : ClassId) (md : Nat → Nat) (yth : Int32) (ybd : Int32) (yro : Int32) (yrow : Nat → Int32) (ymk : Nat → Int32) (yrm : Int32) (yst : Nat → Int32) (ypc : Int32) (ybu : Nat → Int32) (ybn : Int32) (ymg : Int32) (ysp : Int32) (yjn : Int32) (ymd : Nat → Int32) (ybg : Nat → Int32) (ymm : Int32) (yup : Int64) (yun : Int64) (F : Nat) (r : Int32) (hm : X3_many F yrm ybn = some r) : Met l yX3_many wsX3_many ({ frames := 0, cells := 0, slots := 0, locals := 0 }) (va_Pc [.ref (md 0)] (zR (dC, dI) (wM cI cZ md yth ybd yro yrow ymk yrm yst ypc ybu ybn ymg ysp yjn ymd ybg ymm yup yun) [(cI, .int), (cZ, .boolean)])) (vp_Si (fun v => v = r)) 0 0 (fun _ => False) := by
  refine Met.ofW (cc := cX3_many) (maxL := 1) (ret := (some .int)) (by decide) rfl ?_
  intro p e s m args below meth c s₁ B hml hv
  obtain ⟨rfl, hP, hK⟩ := hv
  have hx := B.exec
  have hb := B.bytes
  have hr := B.returns
  have hts := atoms_spec (ws := wsX3_many) B.pre
  have hown : s.vm.findClass RX3 = some m.cls := findClass_of_methodNamed B.named
  have hlocks := B.notSynchronized
  have hl := lv_entry ([.ref (md 0)]) (n := 1) (Nat.le_of_ble_eq_true rfl)
  rw [lg_entry_eq]
  generalize (lg_sl ([.ref (md 0)]) ++ List.replicate (1 - (lg_sl ([.ref (md 0)])).length) Slot.unset).toArray = ls at hl ⊢
  have hl : lv_has ls 1 [(0, .ref (md 0))] := hl
  have zw0 := hts (.fieldLink RX3 51 "LearnedLedgeModel" "rowMany" "I") (List.mem_cons_of_mem _ (List.mem_append_left _ (List.mem_of_getElem? (i := 0) rfl)))
  have zw1 := hts (.fieldLink RX3 69 "LearnedLedgeModel" "buffered" "I") (List.mem_cons_of_mem _ (List.mem_append_left _ (List.mem_of_getElem? (i := 1) rfl)))
  have ziX3 : ∀ w ∈ u_ws RX3 TX3 18, w ∈ wsX3_many := (fun _ h9 => (List.mem_cons_of_mem _ (List.mem_append_right _ h9)))
  refine lv_aload_n hx hb dX3_many_0 rfl (lv_at hl 0 rfl) ?_
  refine va_get (D := (dC, dI)) (ci := 3) (v := .int yrm) (C := RX3) (T := TX3) (N := 18) hx hb hts ziX3 hown hK hP 0 rfl rfl 5 (by decide) zw0 (fun _ h9 => h9) rfl dX3_many_1 ?_
  refine lv_aload_n hx hb dX3_many_4 rfl (lv_at hl 0 rfl) ?_
  refine va_get (D := (dC, dI)) (ci := 3) (v := .int ybn) (C := RX3) (T := TX3) (N := 18) hx hb hts ziX3 hown hK hP 0 rfl rfl 9 (by decide) zw1 (fun _ h9 => h9) rfl dX3_many_5 ?_
  refine lv_iadd hx hb dX3_many_8 ?_
  exact W.iret hx hb hr (fun t ht hW => ⟨_, rfl, (o2 hm).symm, ht⟩) (fun q h => absurd h List.not_mem_nil) dX3_many_9
set_option maxHeartbeats 4000000 in
set_option maxRecDepth 100000 in
theorem c_X3_isAbove (l : Launch) (dC : Nat → ClassId) (dI : Nat → Nat → Nat) (cI : ClassId) (cZ : ClassId) (md : Nat → Nat) (yth : Int32) (ybd : Int32) (yro : Int32) (yrow : Nat → Int32) (ymk : Nat → Int32) (yrm : Int32) (yst : Nat → Int32) (ypc : Int32) (ybu : Nat → Int32) (ybn : Int32) (ymg : Int32) (ysp : Int32) (yjn : Int32) (ymd : Nat → Int32) (ybg : Nat → Int32) (ymm : Int32) (yup : Int64) (yun : Int64) (F : Nat) (p1 : Int32) (r : Int32) (hm : X3_isAbove F yrow yrm ybu ybn p1 = some r) : Met l yX3_isAbove wsX3_isAbove ({ frames := 0, cells := 0, slots := 0, locals := 0 }) (va_Pc [.ref (md 0), .int p1] (zR (dC, dI) (wM cI cZ md yth ybd yro yrow ymk yrm yst ypc ybu ybn ymg ysp yjn ymd ybg ymm yup yun) [(cI, .int), (cZ, .boolean)])) (vp_Si (fun v => v = r)) 0 0 (fun _ => False) := by
  refine Met.ofW (cc := cX3_isAbove) (maxL := 3) (ret := (some .boolean)) (by decide) rfl ?_
  intro p e s m args below meth c s₁ B hml hv
  obtain ⟨rfl, hP, hK⟩ := hv
  have hx := B.exec
  have hb := B.bytes
  have hr := B.returns
  have hts := atoms_spec (ws := wsX3_isAbove) B.pre
  have hown : s.vm.findClass RX3 = some m.cls := findClass_of_methodNamed B.named
  have hlocks := B.notSynchronized
  have hl := lv_entry ([.ref (md 0), .int p1]) (n := 3) (Nat.le_of_ble_eq_true rfl)
  rw [lg_entry_eq]
  generalize (lg_sl ([.ref (md 0), .int p1]) ++ List.replicate (3 - (lg_sl ([.ref (md 0), .int p1])).length) Slot.unset).toArray = ls at hl ⊢
  have hl : lv_has ls 3 [(0, .ref (md 0)), (1, .int p1)] := hl
  have zw0 := hts (.fieldLink RX3 51 "LearnedLedgeModel" "rowMany" "I") (List.mem_cons_of_mem _ (List.mem_append_left _ (List.mem_of_getElem? (i := 0) rfl)))
  have zw1 := hts (.fieldLink RX3 16 "LearnedLedgeModel" "row" "[I") (List.mem_cons_of_mem _ (List.mem_append_left _ (List.mem_of_getElem? (i := 1) rfl)))
  have zw2 := hts (.fieldLink RX3 69 "LearnedLedgeModel" "buffered" "I") (List.mem_cons_of_mem _ (List.mem_append_left _ (List.mem_of_getElem? (i := 2) rfl)))
  have zw3 := hts (.fieldLink RX3 27 "LearnedLedgeModel" "buffer" "[I") (List.mem_cons_of_mem _ (List.mem_append_left _ (List.mem_of_getElem? (i := 3) rfl)))
  have ziX3 : ∀ w ∈ u_ws RX3 TX3 18, w ∈ wsX3_isAbove := (fun _ h9 => (List.mem_cons_of_mem _ (List.mem_append_right _ h9)))
  refine lv_aload_n hx hb dX3_isAbove_0 rfl (lv_at hl 0 rfl) ?_
  refine va_get (D := (dC, dI)) (ci := 3) (v := .int yrm) (C := RX3) (T := TX3) (N := 18) hx hb hts ziX3 hown hK hP 0 rfl rfl 5 (by decide) zw0 (fun _ h9 => h9) rfl dX3_isAbove_1 ?_
  obtain ⟨z_27, hq_27, hm⟩ := ob hm
  have J_27 : ∀ (y27 : Int32), z_27 = y27 → W p l e (headSpec wsX3_isAbove ({ frames := 0, cells := 0, slots := 0, locals := 0 } : Room)).room s m ([.ref (md 0), .int p1] : List Value).toArray below meth c s.heap [] 0 0 (MQ below (vp_Si (fun v => v = r)) ([.ref (md 0), .int p1] : List Value).toArray s 0 0 (fun _ => False)) (F0 m 27 ls [.int y27]) := by
    intro y27 ez
    rw [ez] at hm
    refine lv_istore_n (lv' := [(2, .int y27), (0, .ref (md 0)), (1, .int p1)]) hx hb dX3_isAbove_27 rfl hl (by decide) rfl (fun ls hl => ?_)
    refine lv_iload_n hx hb dX3_isAbove_28 rfl (lv_at hl 0 rfl) ?_
    refine lv_if_eq (tgt := 58) hx hb dX3_isAbove_29 (by decide) (fun c_29 => ?_) (fun c_29 => ?_)
    · have hm := it_t hm c_29
      refine lv_iconst (v := 0) hx hb dX3_isAbove_58 (by decide) ?_
      exact W.zret hx hb hr rfl (fun t ht hW => ⟨_, rfl, (o2 hm).symm, ht⟩) (fun q h => absurd h List.not_mem_nil) dX3_isAbove_59
    · have hm := it_f hm c_29
      refine lv_aload_n hx hb dX3_isAbove_32 rfl (lv_at hl 1 rfl) ?_
      refine va_get (D := (dC, dI)) (ci := 3) (v := .int ybn) (C := RX3) (T := TX3) (N := 18) hx hb hts ziX3 hown hK hP 0 rfl rfl 9 (by decide) zw2 (fun _ h9 => h9) rfl dX3_isAbove_33 ?_
      refine lv_if_eq (tgt := 54) hx hb dX3_isAbove_36 (by decide) (fun c_36 => ?_) (fun c_36 => ?_)
      · have hm := it_t hm c_36
        refine lv_iconst (v := 1) hx hb dX3_isAbove_54 (by decide) ?_
        refine lv_goto (tgt := 59) hx hb dX3_isAbove_55 (by decide) ?_
        exact W.zret hx hb hr rfl (fun t ht hW => ⟨_, rfl, (o2 hm).symm, ht⟩) (fun q h => absurd h List.not_mem_nil) dX3_isAbove_59
      · have hm := it_f hm c_36
        refine lv_aload_n hx hb dX3_isAbove_39 rfl (lv_at hl 1 rfl) ?_
        refine va_get (D := (dC, dI)) (ci := 3) (v := .ref (md 4)) (C := RX3) (T := TX3) (N := 18) hx hb hts ziX3 hown hK hP 0 rfl rfl 8 (by decide) zw3 (fun _ h9 => h9) rfl dX3_isAbove_40 ?_
        refine lv_aload_n hx hb dX3_isAbove_43 rfl (lv_at hl 1 rfl) ?_
        refine va_get (D := (dC, dI)) (ci := 3) (v := .int ybn) (C := RX3) (T := TX3) (N := 18) hx hb hts ziX3 hown hK hP 0 rfl rfl 9 (by decide) zw2 (fun _ h9 => h9) rfl dX3_isAbove_44 ?_
        refine lv_iconst (v := 1) hx hb dX3_isAbove_47 (by decide) ?_
        refine lv_isub hx hb dX3_isAbove_48 ?_
        obtain ⟨c_49, hm⟩ := ck hm
        refine va_iald hx hb hK hP 4 0 rfl rfl c_49 dX3_isAbove_49 ?_
        refine lv_iload_n hx hb dX3_isAbove_50 rfl (lv_at hl 2 rfl) ?_
        refine lv_icmp_ge (tgt := 58) hx hb dX3_isAbove_51 (by decide) (fun c_51 => ?_) (fun c_51 => ?_)
        · have hm := it_t hm c_51
          refine lv_iconst (v := 0) hx hb dX3_isAbove_58 (by decide) ?_
          exact W.zret hx hb hr rfl (fun t ht hW => ⟨_, rfl, (o2 hm).symm, ht⟩) (fun q h => absurd h List.not_mem_nil) dX3_isAbove_59
        · have hm := it_f hm c_51
          refine lv_iconst (v := 1) hx hb dX3_isAbove_54 (by decide) ?_
          refine lv_goto (tgt := 59) hx hb dX3_isAbove_55 (by decide) ?_
          exact W.zret hx hb hr rfl (fun t ht hW => ⟨_, rfl, (o2 hm).symm, ht⟩) (fun q h => absurd h List.not_mem_nil) dX3_isAbove_59
  have hm := hq_27
  refine lv_if_eq (tgt := 22) hx hb dX3_isAbove_4 (by decide) (fun c_4 => ?_) (fun c_4 => ?_)
  · have hm := it_t hm c_4
    refine lv_iconst (v := 1) hx hb dX3_isAbove_22 (by decide) ?_
    refine lv_goto (tgt := 27) hx hb dX3_isAbove_23 (by decide) ?_
    exact J_27 1 (o2 hm)
  · have hm := it_f hm c_4
    refine lv_aload_n hx hb dX3_isAbove_7 rfl (lv_at hl 0 rfl) ?_
    refine va_get (D := (dC, dI)) (ci := 3) (v := .ref (md 1)) (C := RX3) (T := TX3) (N := 18) hx hb hts ziX3 hown hK hP 0 rfl rfl 3 (by decide) zw1 (fun _ h9 => h9) rfl dX3_isAbove_8 ?_
    refine lv_aload_n hx hb dX3_isAbove_11 rfl (lv_at hl 0 rfl) ?_
    refine va_get (D := (dC, dI)) (ci := 3) (v := .int yrm) (C := RX3) (T := TX3) (N := 18) hx hb hts ziX3 hown hK hP 0 rfl rfl 5 (by decide) zw0 (fun _ h9 => h9) rfl dX3_isAbove_12 ?_
    refine lv_iconst (v := 1) hx hb dX3_isAbove_15 (by decide) ?_
    refine lv_isub hx hb dX3_isAbove_16 ?_
    obtain ⟨c_17, hm⟩ := ck hm
    refine va_iald hx hb hK hP 1 0 rfl rfl c_17 dX3_isAbove_17 ?_
    refine lv_iload_n hx hb dX3_isAbove_18 rfl (lv_at hl 1 rfl) ?_
    refine lv_icmp_ge (tgt := 26) hx hb dX3_isAbove_19 (by decide) (fun c_19 => ?_) (fun c_19 => ?_)
    · have hm := it_t hm c_19
      refine lv_iconst (v := 0) hx hb dX3_isAbove_26 (by decide) ?_
      exact J_27 0 (o2 hm)
    · have hm := it_f hm c_19
      refine lv_iconst (v := 1) hx hb dX3_isAbove_22 (by decide) ?_
      refine lv_goto (tgt := 27) hx hb dX3_isAbove_23 (by decide) ?_
      exact J_27 1 (o2 hm)
