set_option maxHeartbeats 4000000 in
set_option maxRecDepth 100000 in
theorem c_X3_behindSo (l : Launch) (dC : Nat → ClassId) (dI : Nat → Nat → Nat) (cI : ClassId) (cZ : ClassId) (md : Nat → Nat) (yth : Int32) (ybd : Int32) (yro : Int32) (yrow : Nat → Int32) (ymk : Nat → Int32) (yrm : Int32) (yst : Nat → Int32) (ypc : Int32) (ybu : Nat → Int32) (ybn : Int32) (ymg : Int32) (ysp : Int32) (yjn : Int32) (ymd : Nat → Int32) (ybg : Nat → Int32) (ymm : Int32) (yup : Int64) (yun : Int64) (F : Nat) (p1 : Int32) (r : Int32) (hm : X3_behindSo F yrow ymk yrm ybu ybn p1 = some r) : Met l yX3_behindSo wsX3_behindSo ({ frames := 1, cells := 0, slots := 0, locals := 24 }) (va_Pc [.ref (md 0), .int p1] (zR (dC, dI) (wM cI cZ md yth ybd yro yrow ymk yrm yst ypc ybu ybn ymg ysp yjn ymd ybg ymm yup yun) [(cI, .int), (cZ, .boolean)])) (vp_Si (fun v => v = r)) 0 0 (fun _ => False) := by
  refine Met.ofW (cc := cX3_behindSo) (maxL := 4) (ret := (some .int)) (by decide) rfl ?_
  intro p e s m args below meth c s₁ B hml hv
  obtain ⟨rfl, hP, hK⟩ := hv
  have hx := B.exec
  have hb := B.bytes
  have hr := B.returns
  have hts := atoms_spec (ws := wsX3_behindSo) B.pre
  have hown : s.vm.findClass RX3 = some m.cls := findClass_of_methodNamed B.named
  have hlocks := B.notSynchronized
  have hl := lv_entry ([.ref (md 0), .int p1]) (n := 4) (Nat.le_of_ble_eq_true rfl)
  rw [lg_entry_eq]
  generalize (lg_sl ([.ref (md 0), .int p1]) ++ List.replicate (4 - (lg_sl ([.ref (md 0), .int p1])).length) Slot.unset).toArray = ls at hl ⊢
  have hl : lv_has ls 4 [(0, .ref (md 0)), (1, .int p1)] := hl
  have zw0 := hts (.fieldLink RX3 51 "LearnedLedgeModel" "rowMany" "I") (List.mem_cons_of_mem _ (List.mem_append_left _ (List.mem_of_getElem? (i := 0) rfl)))
  have zw1 := hts (.fieldLink RX3 20 "LearnedLedgeModel" "isMarked" "[Z") (List.mem_cons_of_mem _ (List.mem_append_left _ (List.mem_of_getElem? (i := 1) rfl)))
  have zw2 := hts (.fieldLink RX3 16 "LearnedLedgeModel" "row" "[I") (List.mem_cons_of_mem _ (List.mem_append_left _ (List.mem_of_getElem? (i := 2) rfl)))
  have zw3 := hts (.fieldLink RX3 69 "LearnedLedgeModel" "buffered" "I") (List.mem_cons_of_mem _ (List.mem_append_left _ (List.mem_of_getElem? (i := 3) rfl)))
  have zw4 := hts (.fieldLink RX3 27 "LearnedLedgeModel" "buffer" "[I") (List.mem_cons_of_mem _ (List.mem_append_left _ (List.mem_of_getElem? (i := 4) rfl)))
  have ziX3 : ∀ w ∈ u_ws RX3 TX3 18, w ∈ wsX3_behindSo := (fun _ h9 => (List.mem_cons_of_mem _ (List.mem_append_right _ h9)))
  refine lv_iconst (v := 0) hx hb dX3_behindSo_0 (by decide) ?_
  refine lv_istore_n (lv' := [(2, .int 0), (0, .ref (md 0)), (1, .int p1)]) hx hb dX3_behindSo_1 rfl hl (by decide) rfl (fun ls hl => ?_)
  refine lv_iconst (v := 0) hx hb dX3_behindSo_2 (by decide) ?_
  refine lv_istore_n (lv' := [(3, .int 0), (2, .int 0), (0, .ref (md 0)), (1, .int p1)]) hx hb dX3_behindSo_3 rfl hl (by decide) rfl (fun ls hl => ?_)
  obtain ⟨z_4, hq_4, hm⟩ := ob hm
  have K_4 : ∀ (x2_2 : Int32), z_4 = x2_2 → ∀ (ls : Array Slot), lv_has ls 4 [(2, .int x2_2), (0, .ref (md 0)), (1, .int p1)] → W p l e (headSpec wsX3_behindSo ({ frames := 1, cells := 0, slots := 0, locals := 24 } : Room)).room s m ([.ref (md 0), .int p1] : List Value).toArray below meth c s.heap [] 0 0 (MQ below (vp_Si (fun v => v = r)) ([.ref (md 0), .int p1] : List Value).toArray s 0 0 (fun _ => False)) (F0 m 53 ls []) := by
    intro x2_2 ez ls hl
    rw [ez] at hm
    refine lv_iconst (v := 0) hx hb dX3_behindSo_53 (by decide) ?_
    refine lv_istore_n (lv' := [(3, .int 0), (2, .int x2_2), (0, .ref (md 0)), (1, .int p1)]) hx hb dX3_behindSo_54 rfl hl (by decide) rfl (fun ls hl => ?_)
    obtain ⟨z_55, hq_55, hm⟩ := ob hm
    have K_55 : ∀ (x2_5 : Int32), z_55 = x2_5 → ∀ (ls : Array Slot), lv_has ls 4 [(2, .int x2_5)] → W p l e (headSpec wsX3_behindSo ({ frames := 1, cells := 0, slots := 0, locals := 24 } : Room)).room s m ([.ref (md 0), .int p1] : List Value).toArray below meth c s.heap [] 0 0 (MQ below (vp_Si (fun v => v = r)) ([.ref (md 0), .int p1] : List Value).toArray s 0 0 (fun _ => False)) (F0 m 95 ls []) := by
      intro x2_5 ez ls hl
      rw [ez] at hm
      refine lv_iload_n hx hb dX3_behindSo_95 rfl (lv_at hl 0 rfl) ?_
      exact W.iret hx hb hr (fun t ht hW => ⟨_, rfl, (o2 hm).symm, ht⟩) (fun q h => absurd h List.not_mem_nil) dX3_behindSo_96
    have L_55 : ∀ (n : Nat) (x3_4 : Int32) (x2_3 : Int32), X3_behindSo_L55 p1 yrow ymk yrm ybu ybn F n x3_4 x2_3 = some z_55 → ∀ (ls : Array Slot), lv_has ls 4 [(3, .int x3_4), (2, .int x2_3), (0, .ref (md 0)), (1, .int p1)] → W p l e (headSpec wsX3_behindSo ({ frames := 1, cells := 0, slots := 0, locals := 24 } : Room)).room s m ([.ref (md 0), .int p1] : List Value).toArray below meth c s.heap [] 0 0 (MQ below (vp_Si (fun v => v = r)) ([.ref (md 0), .int p1] : List Value).toArray s 0 0 (fun _ => False)) (F0 m 55 ls []) := by
      intro n
      induction n with
      | zero => intro x3_4 x2_3 hm; cases hm
      | succ n ih_55 =>
        intro x3_4 x2_3 hm ls hl
        refine lv_iload_n hx hb dX3_behindSo_55 rfl (lv_at hl 0 rfl) ?_
        refine lv_aload_n hx hb dX3_behindSo_56 rfl (lv_at hl 2 rfl) ?_
        refine va_get (D := (dC, dI)) (ci := 3) (v := .int ybn) (C := RX3) (T := TX3) (N := 18) hx hb hts ziX3 hown hK hP 0 rfl rfl 9 (by decide) zw3 (fun _ h9 => h9) rfl dX3_behindSo_57 ?_
        refine lv_icmp_ge (tgt := 95) hx hb dX3_behindSo_60 (by decide) (fun c_60 => ?_) (fun c_60 => ?_)
        · have hm := it_t hm c_60
          exact K_55 x2_3 (o2 hm) _ (lv_sub hl [1] rfl)
        · have hm := it_f hm c_60
          refine lv_aload_n hx hb dX3_behindSo_63 rfl (lv_at hl 2 rfl) ?_
          refine lv_aload_n hx hb dX3_behindSo_64 rfl (lv_at hl 2 rfl) ?_
          refine va_get (D := (dC, dI)) (ci := 3) (v := .ref (md 4)) (C := RX3) (T := TX3) (N := 18) hx hb hts ziX3 hown hK hP 0 rfl rfl 8 (by decide) zw4 (fun _ h9 => h9) rfl dX3_behindSo_65 ?_
          refine lv_iload_n hx hb dX3_behindSo_68 rfl (lv_at hl 0 rfl) ?_
          obtain ⟨c_69, hm⟩ := ck hm
          refine va_iald hx hb hK hP 4 0 rfl rfl c_69 dX3_behindSo_69 ?_
          refine lv_i2l hx hb dX3_behindSo_70 rfl ?_
          obtain ⟨r71, h_71, hm⟩ := ob hm
          refine z_callRi (As := [.long (Int32.toInt64 (ybu (Int32.toNatClampNeg x3_4)))]) (rest := []) (ci := 3) (q := (RX3, TX3, 18)) ⟨hx, hb, hml, hown, hts⟩ (c_X3_below l dC dI cI cZ md yth ybd yro yrow ymk yrm yst ypc ybu ybn ymg ysp yjn ymd ybg ymm yup yun F (Int32.toInt64 (ybu (Int32.toNatClampNeg x3_4))) r71 h_71) (cwV 1 hts gX3_behindSo_X3_below rfl rfl rfl kv_X3_below ⟨Nat.le_of_ble_eq_true rfl, Nat.le_of_ble_eq_true rfl⟩) hK hP rfl rfl rfl rfl hl.1 rfl (Nat.le_of_ble_eq_true rfl) dX3_behindSo_71 ⟨Nat.zero_le _, Nat.zero_le _⟩ ?_
          refine lv_iload_n hx hb dX3_behindSo_74 rfl (lv_at hl 3 rfl) ?_
          refine lv_icmp_ne (tgt := 87) hx hb dX3_behindSo_75 (by decide) (fun c_75 => ?_) (fun c_75 => ?_)
          · have hm := it_f hm c_75
            refine lv_iload_n hx hb dX3_behindSo_87 rfl (lv_at hl 1 rfl) ?_
            refine lv_istore_n (lv' := [(2, .int x2_3), (3, .int x3_4), (0, .ref (md 0)), (1, .int p1)]) hx hb dX3_behindSo_88 rfl hl (by decide) rfl (fun ls hl => ?_)
            obtain ⟨x3_5, e_x3_5⟩ : ∃ y : Int32, y = x3_4 + 1 := ⟨_, rfl⟩
            have hm := bnd_e hm e_x3_5
            refine lv_iinc (v := x3_5) (lv' := [(3, .int x3_5), (2, .int x2_3), (0, .ref (md 0)), (1, .int p1)]) hx hb dX3_behindSo_89 hl (k := 1) rfl (by rw [e_x3_5]; rfl) (by decide) rfl (fun ls hl => ?_)
            refine lv_goto (tgt := 55) hx hb dX3_behindSo_92 (by decide) ?_
            exact ih_55 x3_5 x2_3 hm _ (lv_sub hl [0, 1, 2, 3] rfl)
          · have hm := it_t hm c_75
            refine lv_aload_n hx hb dX3_behindSo_78 rfl (lv_at hl 2 rfl) ?_
            refine va_get (D := (dC, dI)) (ci := 3) (v := .ref (md 4)) (C := RX3) (T := TX3) (N := 18) hx hb hts ziX3 hown hK hP 0 rfl rfl 8 (by decide) zw4 (fun _ h9 => h9) rfl dX3_behindSo_79 ?_
            refine lv_iload_n hx hb dX3_behindSo_82 rfl (lv_at hl 0 rfl) ?_
            obtain ⟨c_83, hm⟩ := ck hm
            refine va_iald hx hb hK hP 4 0 rfl rfl c_83 dX3_behindSo_83 ?_
            refine lv_goto (tgt := 88) hx hb dX3_behindSo_84 (by decide) ?_
            refine lv_topi (fun x2_4 e_x2_4 => ?_)
            have hm := bnd_e hm e_x2_4
            refine lv_istore_n (lv' := [(2, .int x2_4), (3, .int x3_4), (0, .ref (md 0)), (1, .int p1)]) hx hb dX3_behindSo_88 rfl hl (by decide) rfl (fun ls hl => ?_)
            obtain ⟨x3_6, e_x3_6⟩ : ∃ y : Int32, y = x3_4 + 1 := ⟨_, rfl⟩
            have hm := bnd_e hm e_x3_6
            refine lv_iinc (v := x3_6) (lv' := [(3, .int x3_6), (2, .int x2_4), (0, .ref (md 0)), (1, .int p1)]) hx hb dX3_behindSo_89 hl (k := 1) rfl (by rw [e_x3_6]; rfl) (by decide) rfl (fun ls hl => ?_)
            refine lv_goto (tgt := 55) hx hb dX3_behindSo_92 (by decide) ?_
            exact ih_55 x3_6 x2_4 hm _ (lv_sub hl [0, 1, 2, 3] rfl)
    exact L_55 F 0 x2_2 hq_55 _ (lv_sub hl [0, 1, 2, 3] rfl)
  have L_4 : ∀ (n : Nat) (x3 : Int32) (x2 : Int32), X3_behindSo_L4 p1 yrow ymk yrm ybu ybn F n x3 x2 = some z_4 → ∀ (ls : Array Slot), lv_has ls 4 [(3, .int x3), (2, .int x2), (0, .ref (md 0)), (1, .int p1)] → W p l e (headSpec wsX3_behindSo ({ frames := 1, cells := 0, slots := 0, locals := 24 } : Room)).room s m ([.ref (md 0), .int p1] : List Value).toArray below meth c s.heap [] 0 0 (MQ below (vp_Si (fun v => v = r)) ([.ref (md 0), .int p1] : List Value).toArray s 0 0 (fun _ => False)) (F0 m 4 ls []) := by
    intro n
    induction n with
    | zero => intro x3 x2 hm; cases hm
    | succ n ih_4 =>
      intro x3 x2 hm ls hl
      refine lv_iload_n hx hb dX3_behindSo_4 rfl (lv_at hl 0 rfl) ?_
      refine lv_aload_n hx hb dX3_behindSo_5 rfl (lv_at hl 2 rfl) ?_
      refine va_get (D := (dC, dI)) (ci := 3) (v := .int yrm) (C := RX3) (T := TX3) (N := 18) hx hb hts ziX3 hown hK hP 0 rfl rfl 5 (by decide) zw0 (fun _ h9 => h9) rfl dX3_behindSo_6 ?_
      refine lv_icmp_ge (tgt := 53) hx hb dX3_behindSo_9 (by decide) (fun c_9 => ?_) (fun c_9 => ?_)
      · have hm := it_t hm c_9
        exact K_4 x2 (o2 hm) _ (lv_sub hl [1, 2, 3] rfl)
      · have hm := it_f hm c_9
        refine lv_aload_n hx hb dX3_behindSo_12 rfl (lv_at hl 2 rfl) ?_
        refine va_get (D := (dC, dI)) (ci := 3) (v := .ref (md 2)) (C := RX3) (T := TX3) (N := 18) hx hb hts ziX3 hown hK hP 0 rfl rfl 4 (by decide) zw1 (fun _ h9 => h9) rfl dX3_behindSo_13 ?_
        refine lv_iload_n hx hb dX3_behindSo_16 rfl (lv_at hl 0 rfl) ?_
        obtain ⟨c_17, hm⟩ := ck hm
        refine va_zald hx hb hK hP 2 1 rfl rfl c_17 dX3_behindSo_17 ?_
        refine lv_if_ne (tgt := 45) hx hb dX3_behindSo_18 (by decide) (fun c_18 => ?_) (fun c_18 => ?_)
        · have hm := it_f hm c_18
          refine lv_iload_n hx hb dX3_behindSo_45 rfl (lv_at hl 1 rfl) ?_
          refine lv_istore_n (lv' := [(2, .int x2), (3, .int x3), (0, .ref (md 0)), (1, .int p1)]) hx hb dX3_behindSo_46 rfl hl (by decide) rfl (fun ls hl => ?_)
          obtain ⟨x3_1, e_x3_1⟩ : ∃ y : Int32, y = x3 + 1 := ⟨_, rfl⟩
          have hm := bnd_e hm e_x3_1
          refine lv_iinc (v := x3_1) (lv' := [(3, .int x3_1), (2, .int x2), (0, .ref (md 0)), (1, .int p1)]) hx hb dX3_behindSo_47 hl (k := 1) rfl (by rw [e_x3_1]; rfl) (by decide) rfl (fun ls hl => ?_)
          refine lv_goto (tgt := 4) hx hb dX3_behindSo_50 (by decide) ?_
          exact ih_4 x3_1 x2 hm _ (lv_sub hl [0, 1, 2, 3] rfl)
        · have hm := it_t hm c_18
          refine lv_aload_n hx hb dX3_behindSo_21 rfl (lv_at hl 2 rfl) ?_
          refine lv_aload_n hx hb dX3_behindSo_22 rfl (lv_at hl 2 rfl) ?_
          refine va_get (D := (dC, dI)) (ci := 3) (v := .ref (md 1)) (C := RX3) (T := TX3) (N := 18) hx hb hts ziX3 hown hK hP 0 rfl rfl 3 (by decide) zw2 (fun _ h9 => h9) rfl dX3_behindSo_23 ?_
          refine lv_iload_n hx hb dX3_behindSo_26 rfl (lv_at hl 0 rfl) ?_
          obtain ⟨c_27, hm⟩ := ck hm
          refine va_iald hx hb hK hP 1 0 rfl rfl c_27 dX3_behindSo_27 ?_
          refine lv_i2l hx hb dX3_behindSo_28 rfl ?_
          obtain ⟨r29, h_29, hm⟩ := ob hm
          refine z_callRi (As := [.long (Int32.toInt64 (yrow (Int32.toNatClampNeg x3)))]) (rest := []) (ci := 3) (q := (RX3, TX3, 18)) ⟨hx, hb, hml, hown, hts⟩ (c_X3_below l dC dI cI cZ md yth ybd yro yrow ymk yrm yst ypc ybu ybn ymg ysp yjn ymd ybg ymm yup yun F (Int32.toInt64 (yrow (Int32.toNatClampNeg x3))) r29 h_29) (cwV 1 hts gX3_behindSo_X3_below rfl rfl rfl kv_X3_below ⟨Nat.le_of_ble_eq_true rfl, Nat.le_of_ble_eq_true rfl⟩) hK hP rfl rfl rfl rfl hl.1 rfl (Nat.le_of_ble_eq_true rfl) dX3_behindSo_29 ⟨Nat.zero_le _, Nat.zero_le _⟩ ?_
          refine lv_iload_n hx hb dX3_behindSo_32 rfl (lv_at hl 3 rfl) ?_
          refine lv_icmp_ne (tgt := 45) hx hb dX3_behindSo_33 (by decide) (fun c_33 => ?_) (fun c_33 => ?_)
          · have hm := it_f hm c_33
            refine lv_iload_n hx hb dX3_behindSo_45 rfl (lv_at hl 1 rfl) ?_
            refine lv_istore_n (lv' := [(2, .int x2), (3, .int x3), (0, .ref (md 0)), (1, .int p1)]) hx hb dX3_behindSo_46 rfl hl (by decide) rfl (fun ls hl => ?_)
            obtain ⟨x3_2, e_x3_2⟩ : ∃ y : Int32, y = x3 + 1 := ⟨_, rfl⟩
            have hm := bnd_e hm e_x3_2
            refine lv_iinc (v := x3_2) (lv' := [(3, .int x3_2), (2, .int x2), (0, .ref (md 0)), (1, .int p1)]) hx hb dX3_behindSo_47 hl (k := 1) rfl (by rw [e_x3_2]; rfl) (by decide) rfl (fun ls hl => ?_)
            refine lv_goto (tgt := 4) hx hb dX3_behindSo_50 (by decide) ?_
            exact ih_4 x3_2 x2 hm _ (lv_sub hl [0, 1, 2, 3] rfl)
          · have hm := it_t hm c_33
            refine lv_aload_n hx hb dX3_behindSo_36 rfl (lv_at hl 2 rfl) ?_
            refine va_get (D := (dC, dI)) (ci := 3) (v := .ref (md 1)) (C := RX3) (T := TX3) (N := 18) hx hb hts ziX3 hown hK hP 0 rfl rfl 3 (by decide) zw2 (fun _ h9 => h9) rfl dX3_behindSo_37 ?_
            refine lv_iload_n hx hb dX3_behindSo_40 rfl (lv_at hl 0 rfl) ?_
            obtain ⟨c_41, hm⟩ := ck hm
            refine va_iald hx hb hK hP 1 0 rfl rfl c_41 dX3_behindSo_41 ?_
            refine lv_goto (tgt := 46) hx hb dX3_behindSo_42 (by decide) ?_
            refine lv_topi (fun x2_1 e_x2_1 => ?_)
            have hm := bnd_e hm e_x2_1
            refine lv_istore_n (lv' := [(2, .int x2_1), (3, .int x3), (0, .ref (md 0)), (1, .int p1)]) hx hb dX3_behindSo_46 rfl hl (by decide) rfl (fun ls hl => ?_)
            obtain ⟨x3_3, e_x3_3⟩ : ∃ y : Int32, y = x3 + 1 := ⟨_, rfl⟩
            have hm := bnd_e hm e_x3_3
            refine lv_iinc (v := x3_3) (lv' := [(3, .int x3_3), (2, .int x2_1), (0, .ref (md 0)), (1, .int p1)]) hx hb dX3_behindSo_47 hl (k := 1) rfl (by rw [e_x3_3]; rfl) (by decide) rfl (fun ls hl => ?_)
            refine lv_goto (tgt := 4) hx hb dX3_behindSo_50 (by decide) ?_
            exact ih_4 x3_3 x2_1 hm _ (lv_sub hl [0, 1, 2, 3] rfl)
  exact L_4 F 0 0 hq_4 _ (lv_sub hl [0, 1, 2, 3] rfl)
set_option maxHeartbeats 4000000 in
set_option maxRecDepth 100000 in
theorem c_X3_select (l : Launch) (dC : Nat → ClassId) (dI : Nat → Nat → Nat) (cI : ClassId) (cZ : ClassId) (md : Nat → Nat) (yth : Int32) (ybd : Int32) (yro : Int32) (yrow : Nat → Int32) (ymk : Nat → Int32) (yrm : Int32) (yst : Nat → Int32) (ypc : Int32) (ybu : Nat → Int32) (ybn : Int32) (ymg : Int32) (ysp : Int32) (yjn : Int32) (ymd : Nat → Int32) (ybg : Nat → Int32) (ymm : Int32) (yup : Int64) (yun : Int64) (F : Nat) (p1 : Int32) (sz : Nat) (r : Int32) (u_yth : Int32) (hm : X3_select F yth yrow ymk yrm ybu ybn p1 = some (r, u_yth)) : Met l yX3_select wsX3_select ({ frames := 2, cells := 0, slots := 0, locals := 47 }) (va_Pc [.ref (md 0), .int p1] (zW (dC, dI) (wM cI cZ md yth ybd yro yrow ymk yrm yst ypc ybu ybn ymg ysp yjn ymd ybg ymm yup yun) [(cI, .int), (cZ, .boolean)] sz)) (zQi (dC, dI) (wM cI cZ md u_yth ybd yro yrow ymk yrm yst ypc ybu ybn ymg ysp yjn ymd ybg ymm yup yun) [(cI, .int), (cZ, .boolean)] (va_A (wM cI cZ md yth ybd yro yrow ymk yrm yst ypc ybu ybn ymg ysp yjn ymd ybg ymm yup yun) sz) r) 0 0 (va_A (wM cI cZ md yth ybd yro yrow ymk yrm yst ypc ybu ybn ymg ysp yjn ymd ybg ymm yup yun) sz) := by
  refine Met.ofW (cc := cX3_select) (maxL := 2) (ret := (some .int)) (by decide) rfl ?_
  intro p e s m args below meth c s₁ B hml hv
  obtain ⟨rfl, hsz, hP, hK, hD0⟩ := hv
  have hx := B.exec
  have hb := B.bytes
  have hr := B.returns
  have hts := atoms_spec (ws := wsX3_select) B.pre
  have hown : s.vm.findClass RX3 = some m.cls := findClass_of_methodNamed B.named
  have hlocks := B.notSynchronized
  subst hsz
  have hD := hD0.self (sz := s.heap.size)
  generalize hAe : va_A (wM cI cZ md yth ybd yro yrow ymk yrm yst ypc ybu ybn ymg ysp yjn ymd ybg ymm yup yun) s.heap.size = A at hD ⊢
  have hA : ∀ q : Nat, s.heap.size ≤ q → A q := fun q h => by rw [← hAe]; exact Or.inr h
  have hS : va_S A s.heap s.heap [] := va_S.rf
  generalize eL : ([] : List Loc) = locs at hS ⊢
  obtain ⟨H, eH⟩ : ∃ z : Heap, z = s.heap := ⟨_, rfl⟩
  have hP : va_P (dC, dI) vwCl (wM cI cZ md yth ybd yro yrow ymk yrm yst ypc ybu ybn ymg ysp yjn ymd ybg ymm yup yun) H := by rw [eH]; exact hP
  have hS : va_S A s.heap H locs := by rw [eH]; exact hS
  refine z_heap eH ?_
  have hl := lv_entry ([.ref (md 0), .int p1]) (n := 2) (Nat.le_of_ble_eq_true rfl)
  rw [lg_entry_eq]
  generalize (lg_sl ([.ref (md 0), .int p1]) ++ List.replicate (2 - (lg_sl ([.ref (md 0), .int p1])).length) Slot.unset).toArray = ls at hl ⊢
  have hl : lv_has ls 2 [(0, .ref (md 0)), (1, .int p1)] := hl
  have zw0 := hts (.fieldLink RX3 36 "LearnedLedgeModel" "thrown" "I") (List.mem_cons_of_mem _ (List.mem_append_left _ (List.mem_of_getElem? (i := 0) rfl)))
  have ziX3 : ∀ w ∈ u_ws RX3 TX3 18, w ∈ wsX3_select := (fun _ h9 => (List.mem_cons_of_mem _ (List.mem_append_right _ h9)))
  refine lv_aload_n hx hb dX3_select_0 rfl (lv_at hl 0 rfl) ?_
  refine lv_iload_n hx hb dX3_select_1 rfl (lv_at hl 1 rfl) ?_
  obtain ⟨z_18, hq_18, hm⟩ := ob hm
  have J_18 : ∀ (y18 : Int32), z_18 = y18 → W p l e (headSpec wsX3_select ({ frames := 2, cells := 0, slots := 0, locals := 47 } : Room)).room s m ([.ref (md 0), .int p1] : List Value).toArray below meth c H locs 0 0 (MQ below (zQi (dC, dI) (wM cI cZ md u_yth ybd yro yrow ymk yrm yst ypc ybu ybn ymg ysp yjn ymd ybg ymm yup yun) [(cI, .int), (cZ, .boolean)] A r) ([.ref (md 0), .int p1] : List Value).toArray s 0 0 A) (F0 m 18 ls [.int y18, .ref (md 0)]) := by
    intro y18 ez
    rw [ez] at hm
    refine va_put (D := (dC, dI)) (ci := 3) (v := .int y18) (ty := .int) (C := RX3) (T := TX3) (N := 18) hx hb hts ziX3 tyX3 tyX3_ok nmX3 hown hK hP hD hS 0 rfl rfl 0 (by decide) zw0 (fun _ h9 => h9) rfl (by decide +kernel) rfl rfl (Nat.le_of_ble_eq_true rfl) dX3_select_18 (fun H locs hP hD hS => ?_)
    have hP : va_P (dC, dI) vwCl (wM cI cZ md y18 ybd yro yrow ymk yrm yst ypc ybu ybn ymg ysp yjn ymd ybg ymm yup yun) H := hP
    have hD : va_D A (wM cI cZ md y18 ybd yro yrow ymk yrm yst ypc ybu ybn ymg ysp yjn ymd ybg ymm yup yun) := hD
    refine lv_aload_n hx hb dX3_select_21 rfl (lv_at hl 0 rfl) ?_
    refine va_get (D := (dC, dI)) (ci := 3) (v := .int y18) (C := RX3) (T := TX3) (N := 18) hx hb hts ziX3 hown hK hP 0 rfl rfl 0 (by decide) zw0 (fun _ h9 => h9) rfl dX3_select_22 ?_
    refine lv_if_le (tgt := 32) hx hb dX3_select_25 (by decide) (fun c_25 => ?_) (fun c_25 => ?_)
    · have hm := it_t hm c_25
      refine lv_aload_n hx hb dX3_select_32 rfl (lv_at hl 0 rfl) ?_
      refine lv_iload_n hx hb dX3_select_33 rfl (lv_at hl 1 rfl) ?_
      obtain ⟨r34, h_34, hm⟩ := ob hm
      refine z_callRi (As := [.int p1]) (rest := []) (ci := 3) (q := (RX3, TX3, 18)) ⟨hx, hb, hml, hown, hts⟩ (c_X3_behindSo l dC dI cI cZ md y18 ybd yro yrow ymk yrm yst ypc ybu ybn ymg ysp yjn ymd ybg ymm yup yun F p1 r34 h_34) (cwV 1 hts gX3_select_X3_behindSo rfl rfl rfl kv_X3_behindSo ⟨Nat.le_of_ble_eq_true rfl, Nat.le_of_ble_eq_true rfl⟩) hK hP rfl rfl rfl rfl hl.1 rfl (Nat.le_of_ble_eq_true rfl) dX3_select_34 ⟨Nat.zero_le _, Nat.zero_le _⟩ ?_
      cases o2 hm
      exact W.iret hx hb hr (fun t ht hW => ⟨⟨_, (), rfl, rfl, by rw [ht]; exact hP, va_K.moved hW.alike hK, hD⟩, hS.F ht⟩) hS.2.2 dX3_select_37
    · have hm := it_f hm c_25
      refine lv_iconst (v := 0) hx hb dX3_select_28 (by decide) ?_
      refine lv_goto (tgt := 37) hx hb dX3_select_29 (by decide) ?_
      cases o2 hm
      exact W.iret hx hb hr (fun t ht hW => ⟨⟨_, (), rfl, rfl, by rw [ht]; exact hP, va_K.moved hW.alike hK, hD⟩, hS.F ht⟩) hS.2.2 dX3_select_37
  have hm := hq_18
  refine lv_if_lt (tgt := 17) hx hb dX3_select_2 (by decide) (fun c_2 => ?_) (fun c_2 => ?_)
  · have hm := it_t hm c_2
    refine lv_iconst (v := 1) hx hb dX3_select_17 (by decide) ?_
    exact J_18 1 (o2 hm)
  · have hm := it_f hm c_2
    refine lv_iload_n hx hb dX3_select_5 rfl (lv_at hl 1 rfl) ?_
    refine lv_aload_n hx hb dX3_select_6 rfl (lv_at hl 0 rfl) ?_
    obtain ⟨r7, h_7, hm⟩ := ob hm
    refine z_callRi (As := []) (rest := [.int p1, .ref (md 0)]) (ci := 3) (q := (RX3, TX3, 18)) ⟨hx, hb, hml, hown, hts⟩ (c_X3_keys l dC dI cI cZ md yth ybd yro yrow ymk yrm yst ypc ybu ybn ymg ysp yjn ymd ybg ymm yup yun F r7 h_7) (cwV 0 hts gX3_select_X3_keys rfl rfl rfl kv_X3_keys ⟨Nat.le_of_ble_eq_true rfl, Nat.le_of_ble_eq_true rfl⟩) hK hP rfl rfl rfl rfl hl.1 rfl (Nat.le_of_ble_eq_true rfl) dX3_select_7 ⟨Nat.zero_le _, Nat.zero_le _⟩ ?_
    refine lv_icmp_ge (tgt := 17) hx hb dX3_select_10 (by decide) (fun c_10 => ?_) (fun c_10 => ?_)
    · have hm := it_t hm c_10
      refine lv_iconst (v := 1) hx hb dX3_select_17 (by decide) ?_
      exact J_18 1 (o2 hm)
    · have hm := it_f hm c_10
      refine lv_iconst (v := 0) hx hb dX3_select_13 (by decide) ?_
      refine lv_goto (tgt := 18) hx hb dX3_select_14 (by decide) ?_
      exact J_18 0 (o2 hm)
set_option maxHeartbeats 4000000 in
set_option maxRecDepth 100000 in
theorem c_X3_ceiling (l : Launch) (dC : Nat → ClassId) (dI : Nat → Nat → Nat) (cI : ClassId) (cZ : ClassId) (md : Nat → Nat) (yth : Int32) (ybd : Int32) (yro : Int32) (yrow : Nat → Int32) (ymk : Nat → Int32) (yrm : Int32) (yst : Nat → Int32) (ypc : Int32) (ybu : Nat → Int32) (ybn : Int32) (ymg : Int32) (ysp : Int32) (yjn : Int32) (ymd : Nat → Int32) (ybg : Nat → Int32) (ymm : Int32) (yup : Int64) (yun : Int64) (F : Nat) (p1 : Int32) (sz : Nat) (r : Int32) (u_yth : Int32) (hm : X3_ceiling F yth yrow ymk yrm ybu ybn p1 = some (r, u_yth)) : Met l yX3_ceiling wsX3_ceiling ({ frames := 2, cells := 0, slots := 0, locals := 47 }) (va_Pc [.ref (md 0), .int p1] (zW (dC, dI) (wM cI cZ md yth ybd yro yrow ymk yrm yst ypc ybu ybn ymg ysp yjn ymd ybg ymm yup yun) [(cI, .int), (cZ, .boolean)] sz)) (zQi (dC, dI) (wM cI cZ md u_yth ybd yro yrow ymk yrm yst ypc ybu ybn ymg ysp yjn ymd ybg ymm yup yun) [(cI, .int), (cZ, .boolean)] (va_A (wM cI cZ md yth ybd yro yrow ymk yrm yst ypc ybu ybn ymg ysp yjn ymd ybg ymm yup yun) sz) r) 0 0 (va_A (wM cI cZ md yth ybd yro yrow ymk yrm yst ypc ybu ybn ymg ysp yjn ymd ybg ymm yup yun) sz) := by
  refine Met.ofW (cc := cX3_ceiling) (maxL := 3) (ret := (some .int)) (by decide) rfl ?_
  intro p e s m args below meth c s₁ B hml hv
  obtain ⟨rfl, hsz, hP, hK, hD0⟩ := hv
  have hx := B.exec
  have hb := B.bytes
  have hr := B.returns
  have hts := atoms_spec (ws := wsX3_ceiling) B.pre
  have hown : s.vm.findClass RX3 = some m.cls := findClass_of_methodNamed B.named
  have hlocks := B.notSynchronized
  subst hsz
  have hD := hD0.self (sz := s.heap.size)
  generalize hAe : va_A (wM cI cZ md yth ybd yro yrow ymk yrm yst ypc ybu ybn ymg ysp yjn ymd ybg ymm yup yun) s.heap.size = A at hD ⊢
  have hA : ∀ q : Nat, s.heap.size ≤ q → A q := fun q h => by rw [← hAe]; exact Or.inr h
  have hS : va_S A s.heap s.heap [] := va_S.rf
  generalize eL : ([] : List Loc) = locs at hS ⊢
  obtain ⟨H, eH⟩ : ∃ z : Heap, z = s.heap := ⟨_, rfl⟩
  have hP : va_P (dC, dI) vwCl (wM cI cZ md yth ybd yro yrow ymk yrm yst ypc ybu ybn ymg ysp yjn ymd ybg ymm yup yun) H := by rw [eH]; exact hP
  have hS : va_S A s.heap H locs := by rw [eH]; exact hS
  refine z_heap eH ?_
  have hl := lv_entry ([.ref (md 0), .int p1]) (n := 3) (Nat.le_of_ble_eq_true rfl)
  rw [lg_entry_eq]
  generalize (lg_sl ([.ref (md 0), .int p1]) ++ List.replicate (3 - (lg_sl ([.ref (md 0), .int p1])).length) Slot.unset).toArray = ls at hl ⊢
  have hl : lv_has ls 3 [(0, .ref (md 0)), (1, .int p1)] := hl
  have zw0 := hts (.fieldLink RX3 36 "LearnedLedgeModel" "thrown" "I") (List.mem_cons_of_mem _ (List.mem_append_left _ (List.mem_of_getElem? (i := 0) rfl)))
  have ziX3 : ∀ w ∈ u_ws RX3 TX3 18, w ∈ wsX3_ceiling := (fun _ h9 => (List.mem_cons_of_mem _ (List.mem_append_right _ h9)))
  refine lv_aload_n hx hb dX3_ceiling_0 rfl (lv_at hl 0 rfl) ?_
  refine lv_iload_n hx hb dX3_ceiling_1 rfl (lv_at hl 1 rfl) ?_
  refine lv_i2l hx hb dX3_ceiling_2 rfl ?_
  obtain ⟨r3, h_3, hm⟩ := ob hm
  refine z_callRi (As := [.long (Int32.toInt64 p1)]) (rest := []) (ci := 3) (q := (RX3, TX3, 18)) ⟨hx, hb, hml, hown, hts⟩ (c_X3_below l dC dI cI cZ md yth ybd yro yrow ymk yrm yst ypc ybu ybn ymg ysp yjn ymd ybg ymm yup yun F (Int32.toInt64 p1) r3 h_3) (cwV 1 hts gX3_ceiling_X3_below rfl rfl rfl kv_X3_below ⟨Nat.le_of_ble_eq_true rfl, Nat.le_of_ble_eq_true rfl⟩) hK hP rfl rfl rfl rfl hl.1 rfl (Nat.le_of_ble_eq_true rfl) dX3_ceiling_3 ⟨Nat.zero_le _, Nat.zero_le _⟩ ?_
  refine lv_istore_n (lv' := [(2, .int r3), (0, .ref (md 0)), (1, .int p1)]) hx hb dX3_ceiling_6 rfl hl (by decide) rfl (fun ls hl => ?_)
  refine lv_aload_n hx hb dX3_ceiling_7 rfl (lv_at hl 1 rfl) ?_
  refine lv_iload_n hx hb dX3_ceiling_8 rfl (lv_at hl 0 rfl) ?_
  refine lv_aload_n hx hb dX3_ceiling_9 rfl (lv_at hl 1 rfl) ?_
  obtain ⟨r10, h_10, hm⟩ := ob hm
  refine z_callRi (As := []) (rest := [.int r3, .ref (md 0)]) (ci := 3) (q := (RX3, TX3, 18)) ⟨hx, hb, hml, hown, hts⟩ (c_X3_keys l dC dI cI cZ md yth ybd yro yrow ymk yrm yst ypc ybu ybn ymg ysp yjn ymd ybg ymm yup yun F r10 h_10) (cwV 0 hts gX3_ceiling_X3_keys rfl rfl rfl kv_X3_keys ⟨Nat.le_of_ble_eq_true rfl, Nat.le_of_ble_eq_true rfl⟩) hK hP rfl rfl rfl rfl hl.1 rfl (Nat.le_of_ble_eq_true rfl) dX3_ceiling_10 ⟨Nat.zero_le _, Nat.zero_le _⟩ ?_
  obtain ⟨y21, e_y21⟩ : ∃ y : Int32, y = (if r10 ≤ r3 then 1 else 0) := ⟨_, rfl⟩
  have hm := bnd_e hm e_y21
  have J_21 : W p l e (headSpec wsX3_ceiling ({ frames := 2, cells := 0, slots := 0, locals := 47 } : Room)).room s m ([.ref (md 0), .int p1] : List Value).toArray below meth c H locs 0 0 (MQ below (zQi (dC, dI) (wM cI cZ md u_yth ybd yro yrow ymk yrm yst ypc ybu ybn ymg ysp yjn ymd ybg ymm yup yun) [(cI, .int), (cZ, .boolean)] A r) ([.ref (md 0), .int p1] : List Value).toArray s 0 0 A) (F0 m 21 ls [.int y21, .ref (md 0)]) := by
    refine va_put (D := (dC, dI)) (ci := 3) (v := .int y21) (ty := .int) (C := RX3) (T := TX3) (N := 18) hx hb hts ziX3 tyX3 tyX3_ok nmX3 hown hK hP hD hS 0 rfl rfl 0 (by decide) zw0 (fun _ h9 => h9) rfl (by decide +kernel) rfl rfl (Nat.le_of_ble_eq_true rfl) dX3_ceiling_21 (fun H locs hP hD hS => ?_)
    have hP : va_P (dC, dI) vwCl (wM cI cZ md y21 ybd yro yrow ymk yrm yst ypc ybu ybn ymg ysp yjn ymd ybg ymm yup yun) H := hP
    have hD : va_D A (wM cI cZ md y21 ybd yro yrow ymk yrm yst ypc ybu ybn ymg ysp yjn ymd ybg ymm yup yun) := hD
    refine lv_aload_n hx hb dX3_ceiling_24 rfl (lv_at hl 1 rfl) ?_
    refine va_get (D := (dC, dI)) (ci := 3) (v := .int y21) (C := RX3) (T := TX3) (N := 18) hx hb hts ziX3 hown hK hP 0 rfl rfl 0 (by decide) zw0 (fun _ h9 => h9) rfl dX3_ceiling_25 ?_
    refine lv_if_le (tgt := 35) hx hb dX3_ceiling_28 (by decide) (fun c_28 => ?_) (fun c_28 => ?_)
    · have hm := it_t hm c_28
      refine lv_aload_n hx hb dX3_ceiling_35 rfl (lv_at hl 1 rfl) ?_
      refine lv_iload_n hx hb dX3_ceiling_36 rfl (lv_at hl 0 rfl) ?_
      obtain ⟨r37, h_37, hm⟩ := ob hm
      refine z_callRi (As := [.int r3]) (rest := []) (ci := 3) (q := (RX3, TX3, 18)) ⟨hx, hb, hml, hown, hts⟩ (c_X3_behindSo l dC dI cI cZ md y21 ybd yro yrow ymk yrm yst ypc ybu ybn ymg ysp yjn ymd ybg ymm yup yun F r3 r37 h_37) (cwV 1 hts gX3_ceiling_X3_behindSo rfl rfl rfl kv_X3_behindSo ⟨Nat.le_of_ble_eq_true rfl, Nat.le_of_ble_eq_true rfl⟩) hK hP rfl rfl rfl rfl hl.1 rfl (Nat.le_of_ble_eq_true rfl) dX3_ceiling_37 ⟨Nat.zero_le _, Nat.zero_le _⟩ ?_
      cases o2 hm
      exact W.iret hx hb hr (fun t ht hW => ⟨⟨_, (), rfl, rfl, by rw [ht]; exact hP, va_K.moved hW.alike hK, hD⟩, hS.F ht⟩) hS.2.2 dX3_ceiling_40
    · have hm := it_f hm c_28
      refine lv_iconst (v := 0) hx hb dX3_ceiling_31 (by decide) ?_
      refine lv_goto (tgt := 40) hx hb dX3_ceiling_32 (by decide) ?_
      cases o2 hm
      exact W.iret hx hb hr (fun t ht hW => ⟨⟨_, (), rfl, rfl, by rw [ht]; exact hP, va_K.moved hW.alike hK, hD⟩, hS.F ht⟩) hS.2.2 dX3_ceiling_40
  refine lv_icmp_ge (tgt := 20) hx hb dX3_ceiling_13 (by decide) (fun c_13 => ?_) (fun c_13 => ?_)
  · refine lv_iconst (v := 1) hx hb dX3_ceiling_20 (by decide) ?_
    have e9 : y21 = 1 := by rw [e_y21, if_pos c_13]
    rw [e9] at J_21
    exact J_21
  · refine lv_iconst (v := 0) hx hb dX3_ceiling_16 (by decide) ?_
    refine lv_goto (tgt := 21) hx hb dX3_ceiling_17 (by decide) ?_
    have e9 : y21 = 0 := by rw [e_y21, if_neg c_13]
    rw [e9] at J_21
    exact J_21
set_option maxHeartbeats 4000000 in
set_option maxRecDepth 100000 in
theorem c_X3_count (l : Launch) (dC : Nat → ClassId) (dI : Nat → Nat → Nat) (cI : ClassId) (cZ : ClassId) (md : Nat → Nat) (yth : Int32) (ybd : Int32) (yro : Int32) (yrow : Nat → Int32) (ymk : Nat → Int32) (yrm : Int32) (yst : Nat → Int32) (ypc : Int32) (ybu : Nat → Int32) (ybn : Int32) (ymg : Int32) (ysp : Int32) (yjn : Int32) (ymd : Nat → Int32) (ybg : Nat → Int32) (ymm : Int32) (yup : Int64) (yun : Int64) (F : Nat) (p1 : Int32) (p2 : Int32) (sz : Nat) (r : Int32) (u_yth : Int32) (hm : X3_count F yth yrow ymk yrm ybu ybn p1 p2 = some (r, u_yth)) : Met l yX3_count wsX3_count ({ frames := 1, cells := 0, slots := 0, locals := 24 }) (va_Pc [.ref (md 0), .int p1, .int p2] (zW (dC, dI) (wM cI cZ md yth ybd yro yrow ymk yrm yst ypc ybu ybn ymg ysp yjn ymd ybg ymm yup yun) [(cI, .int), (cZ, .boolean)] sz)) (zQi (dC, dI) (wM cI cZ md u_yth ybd yro yrow ymk yrm yst ypc ybu ybn ymg ysp yjn ymd ybg ymm yup yun) [(cI, .int), (cZ, .boolean)] (va_A (wM cI cZ md yth ybd yro yrow ymk yrm yst ypc ybu ybn ymg ysp yjn ymd ybg ymm yup yun) sz) r) 0 0 (va_A (wM cI cZ md yth ybd yro yrow ymk yrm yst ypc ybu ybn ymg ysp yjn ymd ybg ymm yup yun) sz) := by
  refine Met.ofW (cc := cX3_count) (maxL := 3) (ret := (some .int)) (by decide) rfl ?_
  intro p e s m args below meth c s₁ B hml hv
  obtain ⟨rfl, hsz, hP, hK, hD0⟩ := hv
  have hx := B.exec
  have hb := B.bytes
  have hr := B.returns
  have hts := atoms_spec (ws := wsX3_count) B.pre
  have hown : s.vm.findClass RX3 = some m.cls := findClass_of_methodNamed B.named
  have hlocks := B.notSynchronized
  subst hsz
  have hD := hD0.self (sz := s.heap.size)
  generalize hAe : va_A (wM cI cZ md yth ybd yro yrow ymk yrm yst ypc ybu ybn ymg ysp yjn ymd ybg ymm yup yun) s.heap.size = A at hD ⊢
  have hA : ∀ q : Nat, s.heap.size ≤ q → A q := fun q h => by rw [← hAe]; exact Or.inr h
  have hS : va_S A s.heap s.heap [] := va_S.rf
  generalize eL : ([] : List Loc) = locs at hS ⊢
  obtain ⟨H, eH⟩ : ∃ z : Heap, z = s.heap := ⟨_, rfl⟩
  have hP : va_P (dC, dI) vwCl (wM cI cZ md yth ybd yro yrow ymk yrm yst ypc ybu ybn ymg ysp yjn ymd ybg ymm yup yun) H := by rw [eH]; exact hP
  have hS : va_S A s.heap H locs := by rw [eH]; exact hS
  refine z_heap eH ?_
  have hl := lv_entry ([.ref (md 0), .int p1, .int p2]) (n := 3) (Nat.le_of_ble_eq_true rfl)
  rw [lg_entry_eq]
  generalize (lg_sl ([.ref (md 0), .int p1, .int p2]) ++ List.replicate (3 - (lg_sl ([.ref (md 0), .int p1, .int p2])).length) Slot.unset).toArray = ls at hl ⊢
  have hl : lv_has ls 3 [(0, .ref (md 0)), (1, .int p1), (2, .int p2)] := hl
  have zw0 := hts (.fieldLink RX3 36 "LearnedLedgeModel" "thrown" "I") (List.mem_cons_of_mem _ (List.mem_append_left _ (List.mem_of_getElem? (i := 0) rfl)))
  have ziX3 : ∀ w ∈ u_ws RX3 TX3 18, w ∈ wsX3_count := (fun _ h9 => (List.mem_cons_of_mem _ (List.mem_append_right _ h9)))
  refine lv_aload_n hx hb dX3_count_0 rfl (lv_at hl 0 rfl) ?_
  refine lv_iconst (v := 0) hx hb dX3_count_1 (by decide) ?_
  refine va_put (D := (dC, dI)) (ci := 3) (v := .int 0) (ty := .int) (C := RX3) (T := TX3) (N := 18) hx hb hts ziX3 tyX3 tyX3_ok nmX3 hown hK hP hD hS 0 rfl rfl 0 (by decide) zw0 (fun _ h9 => h9) rfl (by decide +kernel) rfl rfl (Nat.le_of_ble_eq_true rfl) dX3_count_2 (fun H locs hP hD hS => ?_)
  have hP : va_P (dC, dI) vwCl (wM cI cZ md 0 ybd yro yrow ymk yrm yst ypc ybu ybn ymg ysp yjn ymd ybg ymm yup yun) H := hP
  have hD : va_D A (wM cI cZ md 0 ybd yro yrow ymk yrm yst ypc ybu ybn ymg ysp yjn ymd ybg ymm yup yun) := hD
  refine lv_iload_n hx hb dX3_count_5 rfl (lv_at hl 1 rfl) ?_
  refine lv_iload_n hx hb dX3_count_6 rfl (lv_at hl 2 rfl) ?_
  refine lv_icmp_le (tgt := 14) hx hb dX3_count_7 (by decide) (fun c_7 => ?_) (fun c_7 => ?_)
  · have hm := it_t hm c_7
    refine lv_aload_n hx hb dX3_count_14 rfl (lv_at hl 0 rfl) ?_
    refine lv_iload_n hx hb dX3_count_15 rfl (lv_at hl 2 rfl) ?_
    refine lv_i2l hx hb dX3_count_16 rfl ?_
    refine lv_lconst (v := 1) hx hb dX3_count_17 (by decide) ?_
    refine lv_ladd hx hb dX3_count_18 ?_
    obtain ⟨r19, h_19, hm⟩ := ob hm
    refine z_callRi (As := [.long ((Int32.toInt64 p2) + 1)]) (rest := []) (ci := 3) (q := (RX3, TX3, 18)) ⟨hx, hb, hml, hown, hts⟩ (c_X3_below l dC dI cI cZ md 0 ybd yro yrow ymk yrm yst ypc ybu ybn ymg ysp yjn ymd ybg ymm yup yun F ((Int32.toInt64 p2) + 1) r19 h_19) (cwV 1 hts gX3_count_X3_below rfl rfl rfl kv_X3_below ⟨Nat.le_of_ble_eq_true rfl, Nat.le_of_ble_eq_true rfl⟩) hK hP rfl rfl rfl rfl hl.1 rfl (Nat.le_of_ble_eq_true rfl) dX3_count_19 ⟨Nat.zero_le _, Nat.zero_le _⟩ ?_
    refine lv_aload_n hx hb dX3_count_22 rfl (lv_at hl 0 rfl) ?_
    refine lv_iload_n hx hb dX3_count_23 rfl (lv_at hl 1 rfl) ?_
    refine lv_i2l hx hb dX3_count_24 rfl ?_
    obtain ⟨r25, h_25, hm⟩ := ob hm
    refine z_callRi (As := [.long (Int32.toInt64 p1)]) (rest := [.int r19]) (ci := 3) (q := (RX3, TX3, 18)) ⟨hx, hb, hml, hown, hts⟩ (c_X3_below l dC dI cI cZ md 0 ybd yro yrow ymk yrm yst ypc ybu ybn ymg ysp yjn ymd ybg ymm yup yun F (Int32.toInt64 p1) r25 h_25) (cwV 1 hts gX3_count_X3_below rfl rfl rfl kv_X3_below ⟨Nat.le_of_ble_eq_true rfl, Nat.le_of_ble_eq_true rfl⟩) hK hP rfl rfl rfl rfl hl.1 rfl (Nat.le_of_ble_eq_true rfl) dX3_count_25 ⟨Nat.zero_le _, Nat.zero_le _⟩ ?_
    refine lv_isub hx hb dX3_count_28 ?_
    cases o2 hm
    exact W.iret hx hb hr (fun t ht hW => ⟨⟨_, (), rfl, rfl, by rw [ht]; exact hP, va_K.moved hW.alike hK, hD⟩, hS.F ht⟩) hS.2.2 dX3_count_29
  · have hm := it_f hm c_7
    refine lv_iconst (v := 0) hx hb dX3_count_10 (by decide) ?_
    refine lv_goto (tgt := 29) hx hb dX3_count_11 (by decide) ?_
    cases o2 hm
    exact W.iret hx hb hr (fun t ht hW => ⟨⟨_, (), rfl, rfl, by rw [ht]; exact hP, va_K.moved hW.alike hK, hD⟩, hS.F ht⟩) hS.2.2 dX3_count_29
set_option maxHeartbeats 4000000 in
set_option maxRecDepth 100000 in
theorem c_X3_place (l : Launch) (dC : Nat → ClassId) (dI : Nat → Nat → Nat) (cI : ClassId) (cZ : ClassId) (md : Nat → Nat) (yth : Int32) (ybd : Int32) (yro : Int32) (yrow : Nat → Int32) (ymk : Nat → Int32) (yrm : Int32) (yst : Nat → Int32) (ypc : Int32) (ybu : Nat → Int32) (ybn : Int32) (ymg : Int32) (ysp : Int32) (yjn : Int32) (ymd : Nat → Int32) (ybg : Nat → Int32) (ymm : Int32) (yup : Int64) (yun : Int64) (F : Nat) (p1 : Int32) (sz : Nat) (r : Int32) (u_yth : Int32) (hm : X3_place F yth yrow yrm p1 = some (r, u_yth)) : Met l yX3_place wsX3_place ({ frames := 1, cells := 0, slots := 0, locals := 22 }) (va_Pc [.ref (md 0), .int p1] (zW (dC, dI) (wM cI cZ md yth ybd yro yrow ymk yrm yst ypc ybu ybn ymg ysp yjn ymd ybg ymm yup yun) [(cI, .int), (cZ, .boolean)] sz)) (zQi (dC, dI) (wM cI cZ md u_yth ybd yro yrow ymk yrm yst ypc ybu ybn ymg ysp yjn ymd ybg ymm yup yun) [(cI, .int), (cZ, .boolean)] (va_A (wM cI cZ md yth ybd yro yrow ymk yrm yst ypc ybu ybn ymg ysp yjn ymd ybg ymm yup yun) sz) r) 0 0 (va_A (wM cI cZ md yth ybd yro yrow ymk yrm yst ypc ybu ybn ymg ysp yjn ymd ybg ymm yup yun) sz) := by
  refine Met.ofW (cc := cX3_place) (maxL := 2) (ret := (some .int)) (by decide) rfl ?_
  intro p e s m args below meth c s₁ B hml hv
  obtain ⟨rfl, hsz, hP, hK, hD0⟩ := hv
  have hx := B.exec
  have hb := B.bytes
  have hr := B.returns
  have hts := atoms_spec (ws := wsX3_place) B.pre
  have hown : s.vm.findClass RX3 = some m.cls := findClass_of_methodNamed B.named
  have hlocks := B.notSynchronized
  subst hsz
  have hD := hD0.self (sz := s.heap.size)
  generalize hAe : va_A (wM cI cZ md yth ybd yro yrow ymk yrm yst ypc ybu ybn ymg ysp yjn ymd ybg ymm yup yun) s.heap.size = A at hD ⊢
  have hA : ∀ q : Nat, s.heap.size ≤ q → A q := fun q h => by rw [← hAe]; exact Or.inr h
  have hS : va_S A s.heap s.heap [] := va_S.rf
  generalize eL : ([] : List Loc) = locs at hS ⊢
  obtain ⟨H, eH⟩ : ∃ z : Heap, z = s.heap := ⟨_, rfl⟩
  have hP : va_P (dC, dI) vwCl (wM cI cZ md yth ybd yro yrow ymk yrm yst ypc ybu ybn ymg ysp yjn ymd ybg ymm yup yun) H := by rw [eH]; exact hP
  have hS : va_S A s.heap H locs := by rw [eH]; exact hS
  refine z_heap eH ?_
  have hl := lv_entry ([.ref (md 0), .int p1]) (n := 2) (Nat.le_of_ble_eq_true rfl)
  rw [lg_entry_eq]
  generalize (lg_sl ([.ref (md 0), .int p1]) ++ List.replicate (2 - (lg_sl ([.ref (md 0), .int p1])).length) Slot.unset).toArray = ls at hl ⊢
  have hl : lv_has ls 2 [(0, .ref (md 0)), (1, .int p1)] := hl
  have zw0 := hts (.fieldLink RX3 36 "LearnedLedgeModel" "thrown" "I") (List.mem_cons_of_mem _ (List.mem_append_left _ (List.mem_of_getElem? (i := 0) rfl)))
  have ziX3 : ∀ w ∈ u_ws RX3 TX3 18, w ∈ wsX3_place := (fun _ h9 => (List.mem_cons_of_mem _ (List.mem_append_right _ h9)))
  refine lv_aload_n hx hb dX3_place_0 rfl (lv_at hl 0 rfl) ?_
  refine lv_iconst (v := 0) hx hb dX3_place_1 (by decide) ?_
  refine va_put (D := (dC, dI)) (ci := 3) (v := .int 0) (ty := .int) (C := RX3) (T := TX3) (N := 18) hx hb hts ziX3 tyX3 tyX3_ok nmX3 hown hK hP hD hS 0 rfl rfl 0 (by decide) zw0 (fun _ h9 => h9) rfl (by decide +kernel) rfl rfl (Nat.le_of_ble_eq_true rfl) dX3_place_2 (fun H locs hP hD hS => ?_)
  have hP : va_P (dC, dI) vwCl (wM cI cZ md 0 ybd yro yrow ymk yrm yst ypc ybu ybn ymg ysp yjn ymd ybg ymm yup yun) H := hP
  have hD : va_D A (wM cI cZ md 0 ybd yro yrow ymk yrm yst ypc ybu ybn ymg ysp yjn ymd ybg ymm yup yun) := hD
  refine lv_aload_n hx hb dX3_place_5 rfl (lv_at hl 0 rfl) ?_
  refine lv_iload_n hx hb dX3_place_6 rfl (lv_at hl 1 rfl) ?_
  obtain ⟨r7, h_7, hm⟩ := ob hm
  refine z_callRi (As := [.int p1]) (rest := []) (ci := 3) (q := (RX3, TX3, 18)) ⟨hx, hb, hml, hown, hts⟩ (c_X3_placeOf l dC dI cI cZ md 0 ybd yro yrow ymk yrm yst ypc ybu ybn ymg ysp yjn ymd ybg ymm yup yun F p1 r7 h_7) (cwV 1 hts gX3_place_X3_placeOf rfl rfl rfl kv_X3_placeOf ⟨Nat.le_of_ble_eq_true rfl, Nat.le_of_ble_eq_true rfl⟩) hK hP rfl rfl rfl rfl hl.1 rfl (Nat.le_of_ble_eq_true rfl) dX3_place_7 ⟨Nat.zero_le _, Nat.zero_le _⟩ ?_
  cases o2 hm
  exact W.iret hx hb hr (fun t ht hW => ⟨⟨_, (), rfl, rfl, by rw [ht]; exact hP, va_K.moved hW.alike hK, hD⟩, hS.F ht⟩) hS.2.2 dX3_place_10
