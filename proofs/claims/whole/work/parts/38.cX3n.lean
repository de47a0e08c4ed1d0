set_option maxHeartbeats 4000000 in
set_option maxRecDepth 100000 in
theorem c_X3_worstError (l : Launch) (dC : Nat → ClassId) (dI : Nat → Nat → Nat) (cI : ClassId) (cZ : ClassId) (md : Nat → Nat) (yth : Int32) (ybd : Int32) (yro : Int32) (yrow : Nat → Int32) (ymk : Nat → Int32) (yrm : Int32) (yst : Nat → Int32) (ypc : Int32) (ybu : Nat → Int32) (ybn : Int32) (ymg : Int32) (ysp : Int32) (yjn : Int32) (ymd : Nat → Int32) (ybg : Nat → Int32) (ymm : Int32) (yup : Int64) (yun : Int64) (F : Nat) (sz : Nat) (r : Int32) (u_yth : Int32) (u_yup : Int64) (u_yun : Int64) (hm : X3_worstError F yth ybd yrow yrm yst ypc yup yun = some (r, u_yth, u_yup, u_yun)) : Met l yX3_worstError wsX3_worstError ({ frames := 3, cells := 0, slots := 0, locals := 77 }) (va_Pc [.ref (md 0)] (zW (dC, dI) (wM cI cZ md yth ybd yro yrow ymk yrm yst ypc ybu ybn ymg ysp yjn ymd ybg ymm yup yun) [(cI, .int), (cZ, .boolean)] sz)) (zQi (dC, dI) (wM cI cZ md u_yth ybd yro yrow ymk yrm yst ypc ybu ybn ymg ysp yjn ymd ybg ymm u_yup u_yun) [(cI, .int), (cZ, .boolean)] (va_A (wM cI cZ md yth ybd yro yrow ymk yrm yst ypc ybu ybn ymg ysp yjn ymd ybg ymm yup yun) sz) r) 0 0 (va_A (wM cI cZ md yth ybd yro yrow ymk yrm yst ypc ybu ybn ymg ysp yjn ymd ybg ymm yup yun) sz) := by
  refine Met.ofW (cc := cX3_worstError) (maxL := 6) (ret := (some .int)) (by decide) rfl ?_
  intro p e s m args below meth c s₁ B hml hv
  obtain ⟨rfl, hsz, hP, hK, hD0⟩ := hv
  have hx := B.exec
  have hb := B.bytes
  have hr := B.returns
  have hts := atoms_spec (ws := wsX3_worstError) B.pre
  have hown : s.vm.findClass RX3 = some m.cls := findClass_of_methodNamed B.named
  have hlocks := B.notSynchronized
  subst hsz
  have hD := hD0.self (sz := s.heap.size)
  generalize hAe : va_A (wM cI cZ md yth ybd yro yrow ymk yrm yst ypc ybu ybn ymg ysp yjn ymd ybg ymm yup yun) s.heap.size = A at hD ⊢
  have hA : ∀ q : Nat, s.heap.size ≤ q → A q := fun q h => by rw [← hAe]; exact Or.inr h
  have hS : va_S A s.heap s.heap [] := va_S.rf
  generalize eL : ([] : List Loc) = locs at hS ⊢
  obtain ⟨H, eH⟩ : ∃ z : Heap, z = s.heap := ⟨_, rfl⟩
  have hP : va_P (dC, dI) vwCl (wM cI cZ md yth ybd yro yrow ymk yrm yst ypc ybu ybn ymg ysp yjn ymd ybg ymm yup yun) H := by rw [eH]; exact hP
  have hS : va_S A s.heap H locs := by rw [eH]; exact hS
  refine z_heap eH ?_
  have hl := lv_entry ([.ref (md 0)]) (n := 6) (Nat.le_of_ble_eq_true rfl)
  rw [lg_entry_eq]
  generalize (lg_sl ([.ref (md 0)]) ++ List.replicate (6 - (lg_sl ([.ref (md 0)])).length) Slot.unset).toArray = ls at hl ⊢
  have hl : lv_has ls 6 [(0, .ref (md 0))] := hl
  have zw0 := hts (.fieldLink RX3 36 "LearnedLedgeModel" "thrown" "I") (List.mem_cons_of_mem _ (List.mem_append_left _ (List.mem_append_left _ (List.mem_of_getElem? (i := 0) rfl))))
  have zw1 := hts (.fieldLink RX3 51 "LearnedLedgeModel" "rowMany" "I") (List.mem_cons_of_mem _ (List.mem_append_left _ (List.mem_append_left _ (List.mem_of_getElem? (i := 1) rfl))))
  have zw2 := hts (.fieldLink RX3 16 "LearnedLedgeModel" "row" "[I") (List.mem_cons_of_mem _ (List.mem_append_left _ (List.mem_append_left _ (List.mem_of_getElem? (i := 2) rfl))))
  have ziX3 : ∀ w ∈ u_ws RX3 TX3 18, w ∈ wsX3_worstError := (fun _ h9 => (List.mem_cons_of_mem _ (List.mem_append_right _ h9)))
  refine lv_aload_n hx hb dX3_worstError_0 rfl (lv_at hl 0 rfl) ?_
  refine lv_iconst (v := 0) hx hb dX3_worstError_1 (by decide) ?_
  refine va_put (D := (dC, dI)) (ci := 3) (v := .int 0) (ty := .int) (C := RX3) (T := TX3) (N := 18) hx hb hts ziX3 tyX3 tyX3_ok nmX3 hown hK hP hD hS 0 rfl rfl 0 (by decide) zw0 (fun _ h9 => h9) rfl (by decide +kernel) rfl rfl (Nat.le_of_ble_eq_true rfl) dX3_worstError_2 (fun H locs hP hD hS => ?_)
  have hP : va_P (dC, dI) vwCl (wM cI cZ md 0 ybd yro yrow ymk yrm yst ypc ybu ybn ymg ysp yjn ymd ybg ymm yup yun) H := hP
  have hD : va_D A (wM cI cZ md 0 ybd yro yrow ymk yrm yst ypc ybu ybn ymg ysp yjn ymd ybg ymm yup yun) := hD
  refine lv_lconst (v := 0) hx hb dX3_worstError_5 (by decide) ?_
  refine lv_lstore_n (lv' := [(1, .long 0), (0, .ref (md 0))]) hx hb dX3_worstError_6 rfl hl (by decide) rfl (fun ls hl => ?_)
  refine lv_iconst (v := 0) hx hb dX3_worstError_7 (by decide) ?_
  refine lv_istore_n (lv' := [(3, .int 0), (1, .long 0), (0, .ref (md 0))]) hx hb dX3_worstError_8 rfl hl (by decide) rfl (fun ls hl => ?_)
  obtain ⟨z_9, hq_9, hm⟩ := ob hm
  have K_9 : ∀ (x1_1 : Int64), ∀ (yupx9 : Int64), ∀ (yunx9 : Int64), z_9 = (x1_1, yupx9, yunx9) → ∀ (H : Heap) (locs : List Loc), va_P (dC, dI) vwCl (wM cI cZ md 0 ybd yro yrow ymk yrm yst ypc ybu ybn ymg ysp yjn ymd ybg ymm yupx9 yunx9) H → va_D A (wM cI cZ md 0 ybd yro yrow ymk yrm yst ypc ybu ybn ymg ysp yjn ymd ybg ymm yupx9 yunx9) → va_S A s.heap H locs → ∀ (ls : Array Slot), lv_has ls 6 [(1, .long x1_1)] → W p l e (headSpec wsX3_worstError ({ frames := 3, cells := 0, slots := 0, locals := 77 } : Room)).room s m ([.ref (md 0)] : List Value).toArray below meth c H locs 0 0 (MQ below (zQi (dC, dI) (wM cI cZ md u_yth ybd yro yrow ymk yrm yst ypc ybu ybn ymg ysp yjn ymd ybg ymm u_yup u_yun) [(cI, .int), (cZ, .boolean)] A r) ([.ref (md 0)] : List Value).toArray s 0 0 A) (F0 m 79 ls []) := by
    intro x1_1 yupx9 yunx9 ez H locs hP hD hS ls hl
    rw [ez] at hm
    refine lv_lload_n hx hb dX3_worstError_79 rfl (lv_at hl 0 rfl) ?_
    refine lv_l2i hx hb dX3_worstError_80 rfl ?_
    cases o2 hm
    exact W.iret hx hb hr (fun t ht hW => ⟨⟨_, (), rfl, rfl, by rw [ht]; exact hP, va_K.moved hW.alike hK, hD⟩, hS.F ht⟩) hS.2.2 dX3_worstError_81
  have L_9 : ∀ (n : Nat) (x3 : Int32) (x1 : Int64) (yupl9 : Int64) (yunl9 : Int64), X3_worstError_L9 ybd yrow yrm yst ypc F n x3 x1 yupl9 yunl9 = some z_9 → ∀ (H : Heap) (locs : List Loc), va_P (dC, dI) vwCl (wM cI cZ md 0 ybd yro yrow ymk yrm yst ypc ybu ybn ymg ysp yjn ymd ybg ymm yupl9 yunl9) H → va_D A (wM cI cZ md 0 ybd yro yrow ymk yrm yst ypc ybu ybn ymg ysp yjn ymd ybg ymm yupl9 yunl9) → va_S A s.heap H locs → ∀ (ls : Array Slot), lv_has ls 6 [(3, .int x3), (1, .long x1), (0, .ref (md 0))] → W p l e (headSpec wsX3_worstError ({ frames := 3, cells := 0, slots := 0, locals := 77 } : Room)).room s m ([.ref (md 0)] : List Value).toArray below meth c H locs 0 0 (MQ below (zQi (dC, dI) (wM cI cZ md u_yth ybd yro yrow ymk yrm yst ypc ybu ybn ymg ysp yjn ymd ybg ymm u_yup u_yun) [(cI, .int), (cZ, .boolean)] A r) ([.ref (md 0)] : List Value).toArray s 0 0 A) (F0 m 9 ls []) := by
    intro n
    induction n with
    | zero => intro x3 x1 yupl9 yunl9 hm; cases hm
    | succ n ih_9 =>
      intro x3 x1 yupl9 yunl9 hm H locs hP hD hS ls hl
      refine lv_iload_n hx hb dX3_worstError_9 rfl (lv_at hl 0 rfl) ?_
      refine lv_aload_n hx hb dX3_worstError_10 rfl (lv_at hl 2 rfl) ?_
      refine va_get (D := (dC, dI)) (ci := 3) (v := .int yrm) (C := RX3) (T := TX3) (N := 18) hx hb hts ziX3 hown hK hP 0 rfl rfl 5 (by decide) zw1 (fun _ h9 => h9) rfl dX3_worstError_11 ?_
      refine lv_icmp_ge (tgt := 79) hx hb dX3_worstError_14 (by decide) (fun c_14 => ?_) (fun c_14 => ?_)
      · have hm := it_t hm c_14
        exact K_9 x1 yupl9 yunl9 (o2 hm) _ _ hP hD hS _ (lv_sub hl [1] rfl)
      · have hm := it_f hm c_14
        refine lv_aload_n hx hb dX3_worstError_17 rfl (lv_at hl 2 rfl) ?_
        refine lv_aload_n hx hb dX3_worstError_18 rfl (lv_at hl 2 rfl) ?_
        refine va_get (D := (dC, dI)) (ci := 3) (v := .ref (md 1)) (C := RX3) (T := TX3) (N := 18) hx hb hts ziX3 hown hK hP 0 rfl rfl 3 (by decide) zw2 (fun _ h9 => h9) rfl dX3_worstError_19 ?_
        refine lv_iload_n hx hb dX3_worstError_22 rfl (lv_at hl 0 rfl) ?_
        obtain ⟨c_23, hm⟩ := ck hm
        refine va_iald hx hb hK hP 1 0 rfl rfl c_23 dX3_worstError_23 ?_
        refine lv_aload_n hx hb dX3_worstError_24 rfl (lv_at hl 2 rfl) ?_
        refine lv_aload_n hx hb dX3_worstError_25 rfl (lv_at hl 2 rfl) ?_
        refine va_get (D := (dC, dI)) (ci := 3) (v := .ref (md 1)) (C := RX3) (T := TX3) (N := 18) hx hb hts ziX3 hown hK hP 0 rfl rfl 3 (by decide) zw2 (fun _ h9 => h9) rfl dX3_worstError_26 ?_
        refine lv_iload_n hx hb dX3_worstError_29 rfl (lv_at hl 0 rfl) ?_
        obtain ⟨c_30, hm⟩ := ck hm
        refine va_iald hx hb hK hP 1 0 rfl rfl c_30 dX3_worstError_30 ?_
        obtain ⟨r31, h_31, hm⟩ := ob hm
        refine z_callRi (As := [.int (yrow (Int32.toNatClampNeg x3))]) (rest := [.int (yrow (Int32.toNatClampNeg x3)), .ref (md 0)]) (ci := 3) (q := (RX3, TX3, 18)) ⟨hx, hb, hml, hown, hts⟩ (c_X3_pieceOf l dC dI cI cZ md 0 ybd yro yrow ymk yrm yst ypc ybu ybn ymg ysp yjn ymd ybg ymm yupl9 yunl9 F (yrow (Int32.toNatClampNeg x3)) r31 h_31) (cwV 1 hts gX3_worstError_X3_pieceOf rfl rfl rfl kv_X3_pieceOf ⟨Nat.le_of_ble_eq_true rfl, Nat.le_of_ble_eq_true rfl⟩) hK hP rfl rfl rfl rfl hl.1 rfl (Nat.le_of_ble_eq_true rfl) dX3_worstError_31 ⟨Nat.zero_le _, Nat.zero_le _⟩ ?_
        obtain ⟨⟨r34, yup34, yun34⟩, h_34, hm⟩ := ob hm
        refine z_callWl (wc := (wM cI cZ md 0 ybd yro yrow ymk yrm yst ypc ybu ybn ymg ysp yjn ymd ybg ymm yupl9 yunl9)) (w1 := (wM cI cZ md 0 ybd yro yrow ymk yrm yst ypc ybu ybn ymg ysp yjn ymd ybg ymm yup34 yun34)) (ws := (wM cI cZ md 0 ybd yro yrow ymk yrm yst ypc ybu ybn ymg ysp yjn ymd ybg ymm yupl9 yunl9)) (ws' := (wM cI cZ md 0 ybd yro yrow ymk yrm yst ypc ybu ybn ymg ysp yjn ymd ybg ymm yup34 yun34)) (As := [.int (yrow (Int32.toNatClampNeg x3)), .int r31]) (rest := []) (ci := 3) (q := (RX3, TX3, 18)) ⟨hx, hb, hml, hown, hts⟩ (c_X3_guessOf l dC dI cI cZ md 0 ybd yro yrow ymk yrm yst ypc ybu ybn ymg ysp yjn ymd ybg ymm yupl9 yunl9 F (yrow (Int32.toNatClampNeg x3)) r31 H.size r34 yup34 yun34 h_34) (cwV 2 hts gX3_worstError_X3_guessOf rfl rfl rfl kv_X3_guessOf ⟨Nat.le_of_ble_eq_true rfl, Nat.le_of_ble_eq_true rfl⟩) hK hP hD hS hA (z_spAll (wM cI cZ md 0 ybd yro yrow ymk yrm yst ypc ybu ybn ymg ysp yjn ymd ybg ymm yupl9 yunl9) (wM cI cZ md 0 ybd yro yrow ymk yrm yst ypc ybu ybn ymg ysp yjn ymd ybg ymm yup34 yun34)) ((paM cI cZ md 0 ybd yro yrow ymk yrm yst ypc ybu ybn ymg ysp yjn ymd ybg ymm yup34 yun34).trans (paM cI cZ md 0 ybd yro yrow ymk yrm yst ypc ybu ybn ymg ysp yjn ymd ybg ymm yupl9 yunl9).symm) rfl rfl rfl rfl hl.1 rfl (Nat.le_of_ble_eq_true rfl) dX3_worstError_34 ⟨Nat.zero_le _, Nat.zero_le _⟩ (fun H locs hP hD hS => ?_)
        refine lv_iload_n hx hb dX3_worstError_37 rfl (lv_at hl 0 rfl) ?_
        refine lv_i2l hx hb dX3_worstError_38 rfl ?_
        refine lv_lsub hx hb dX3_worstError_39 ?_
        refine lv_topl (fun x4 e_x4 => ?_)
        have hm := bnd_e hm e_x4
        refine lv_lstore (lv' := [(4, .long x4), (3, .int x3), (1, .long x1), (0, .ref (md 0))]) hx hb dX3_worstError_40 hl (by decide) rfl (fun ls hl => ?_)
        refine lv_lload hx hb dX3_worstError_42 (lv_at hl 0 rfl) ?_
        refine lv_lconst (v := 0) hx hb dX3_worstError_44 (by decide) ?_
        refine W.lcmp hx hb dX3_worstError_45 ?_
        obtain ⟨y57, e_y57⟩ : ∃ y : Int64, y = (if 0 ≤ x4 then x4 else (-x4)) := ⟨_, rfl⟩
        have hm := bnd_e hm e_y57
        have J_57 : W p l e (headSpec wsX3_worstError ({ frames := 3, cells := 0, slots := 0, locals := 77 } : Room)).room s m ([.ref (md 0)] : List Value).toArray below meth c H locs 0 0 (MQ below (zQi (dC, dI) (wM cI cZ md u_yth ybd yro yrow ymk yrm yst ypc ybu ybn ymg ysp yjn ymd ybg ymm u_yup u_yun) [(cI, .int), (cZ, .boolean)] A r) ([.ref (md 0)] : List Value).toArray s 0 0 A) (F0 m 57 ls [.long y57]) := by
          refine lv_lstore (lv' := [(4, .long y57), (3, .int x3), (1, .long x1), (0, .ref (md 0))]) hx hb dX3_worstError_57 hl (by decide) rfl (fun ls hl => ?_)
          refine lv_lload hx hb dX3_worstError_59 (lv_at hl 0 rfl) ?_
          refine lv_lload_n hx hb dX3_worstError_61 rfl (lv_at hl 2 rfl) ?_
          refine W.lcmp hx hb dX3_worstError_62 ?_
          refine lv_if_le (tgt := 71) hx hb dX3_worstError_63 (by decide) (fun c_63 => ?_) (fun c_63 => ?_)
          · have c_63 : y57 ≤ x1 := (lg_cmp_le _ _).mp c_63
            have hm := it_t hm c_63
            refine lv_lload_n hx hb dX3_worstError_71 rfl (lv_at hl 2 rfl) ?_
            refine lv_lstore_n (lv' := [(1, .long x1), (4, .long y57), (3, .int x3), (0, .ref (md 0))]) hx hb dX3_worstError_72 rfl hl (by decide) rfl (fun ls hl => ?_)
            obtain ⟨x3_1, e_x3_1⟩ : ∃ y : Int32, y = x3 + 1 := ⟨_, rfl⟩
            have hm := bnd_e hm e_x3_1
            refine lv_iinc (v := x3_1) (lv' := [(3, .int x3_1), (1, .long x1), (4, .long y57), (0, .ref (md 0))]) hx hb dX3_worstError_73 hl (k := 2) rfl (by rw [e_x3_1]; rfl) (by decide) rfl (fun ls hl => ?_)
            refine lv_goto (tgt := 9) hx hb dX3_worstError_76 (by decide) ?_
            exact ih_9 x3_1 x1 yup34 yun34 hm _ _ hP hD hS _ (lv_sub hl [0, 1, 3] rfl)
          · have c_63 : ¬ (y57 ≤ x1) := fun h => c_63 ((lg_cmp_le _ _).mpr h)
            have hm := it_f hm c_63
            refine lv_lload hx hb dX3_worstError_66 (lv_at hl 0 rfl) ?_
            refine lv_goto (tgt := 72) hx hb dX3_worstError_68 (by decide) ?_
            refine lv_lstore_n (lv' := [(1, .long y57), (4, .long y57), (3, .int x3), (0, .ref (md 0))]) hx hb dX3_worstError_72 rfl hl (by decide) rfl (fun ls hl => ?_)
            obtain ⟨x3_2, e_x3_2⟩ : ∃ y : Int32, y = x3 + 1 := ⟨_, rfl⟩
            have hm := bnd_e hm e_x3_2
            refine lv_iinc (v := x3_2) (lv' := [(3, .int x3_2), (1, .long y57), (4, .long y57), (0, .ref (md 0))]) hx hb dX3_worstError_73 hl (k := 2) rfl (by rw [e_x3_2]; rfl) (by decide) rfl (fun ls hl => ?_)
            refine lv_goto (tgt := 9) hx hb dX3_worstError_76 (by decide) ?_
            exact ih_9 x3_2 y57 yup34 yun34 hm _ _ hP hD hS _ (lv_sub hl [0, 1, 3] rfl)
        refine lv_if_ge (tgt := 55) hx hb dX3_worstError_46 (by decide) (fun c_46 => ?_) (fun c_46 => ?_)
        · have c_46 : 0 ≤ x4 := (lg_cmp_ge _ _).mp c_46
          refine lv_lload hx hb dX3_worstError_55 (lv_at hl 0 rfl) ?_
          have e9 : y57 = x4 := by rw [e_y57, if_pos c_46]
          rw [e9] at J_57
          exact J_57
        · have c_46 : ¬ (0 ≤ x4) := fun h => c_46 ((lg_cmp_ge _ _).mpr h)
          refine lv_lload hx hb dX3_worstError_49 (lv_at hl 0 rfl) ?_
          refine lv_lneg hx hb dX3_worstError_51 ?_
          refine lv_goto (tgt := 57) hx hb dX3_worstError_52 (by decide) ?_
          have e9 : y57 = (-x4) := by rw [e_y57, if_neg c_46]
          rw [e9] at J_57
          exact J_57
  exact L_9 F 0 0 yup yun hq_9 _ _ hP hD hS _ (lv_sub hl [0, 1, 2] rfl)
set_option maxHeartbeats 4000000 in
set_option maxRecDepth 100000 in
theorem c_X3_pieces (l : Launch) (dC : Nat → ClassId) (dI : Nat → Nat → Nat) (cI : ClassId) (cZ : ClassId) (md : Nat → Nat) (yth : Int32) (ybd : Int32) (yro : Int32) (yrow : Nat → Int32) (ymk : Nat → Int32) (yrm : Int32) (yst : Nat → Int32) (ypc : Int32) (ybu : Nat → Int32) (ybn : Int32) (ymg : Int32) (ysp : Int32) (yjn : Int32) (ymd : Nat → Int32) (ybg : Nat → Int32) (ymm : Int32) (yup : Int64) (yun : Int64) (F : Nat) (sz : Nat) (r : Int32) (u_yth : Int32) (hm : X3_pieces F yth ypc = some (r, u_yth)) : Met l yX3_pieces wsX3_pieces ({ frames := 0, cells := 0, slots := 0, locals := 0 }) (va_Pc [.ref (md 0)] (zW (dC, dI) (wM cI cZ md yth ybd yro yrow ymk yrm yst ypc ybu ybn ymg ysp yjn ymd ybg ymm yup yun) [(cI, .int), (cZ, .boolean)] sz)) (zQi (dC, dI) (wM cI cZ md u_yth ybd yro yrow ymk yrm yst ypc ybu ybn ymg ysp yjn ymd ybg ymm yup yun) [(cI, .int), (cZ, .boolean)] (va_A (wM cI cZ md yth ybd yro yrow ymk yrm yst ypc ybu ybn ymg ysp yjn ymd ybg ymm yup yun) sz) r) 0 0 (va_A (wM cI cZ md yth ybd yro yrow ymk yrm yst ypc ybu ybn ymg ysp yjn ymd ybg ymm yup yun) sz) := by
  refine Met.ofW (cc := cX3_pieces) (maxL := 1) (ret := (some .int)) (by decide) rfl ?_
  intro p e s m args below meth c s₁ B hml hv
  obtain ⟨rfl, hsz, hP, hK, hD0⟩ := hv
  have hx := B.exec
  have hb := B.bytes
  have hr := B.returns
  have hts := atoms_spec (ws := wsX3_pieces) B.pre
  have hown : s.vm.findClass RX3 = some m.cls := findClass_of_methodNamed B.named
  have hlocks := B.notSynchronized
  subst hsz
  have hD := hD0.self (sz := s.heap.size)
  generalize hAe : va_A (wM cI cZ md yth ybd yro yrow ymk yrm yst ypc ybu ybn ymg ysp yjn ymd ybg ymm yup yun) s.heap.size = A at hD ⊢
  have hA : ∀ q : Nat, s.heap.size ≤ q → A q := fun q h => by rw [← hAe]; exact Or.inr h
  have hS : va_S A s.heap s.heap [] := va_S.rf
  generalize eL : ([] : List Loc) = locs at hS ⊢
  obtain ⟨H, eH⟩ : ∃ z : Heap, z = s.heap := ⟨_, rfl⟩
  have hP : va_P (dC, dI) vwCl (wM cI cZ md yth ybd yro yrow ymk yrm yst ypc ybu ybn ymg ysp yjn ymd ybg ymm yup yun) H := by rw [eH]; exact hP
  have hS : va_S A s.heap H locs := by rw [eH]; exact hS
  refine z_heap eH ?_
  have hl := lv_entry ([.ref (md 0)]) (n := 1) (Nat.le_of_ble_eq_true rfl)
  rw [lg_entry_eq]
  generalize (lg_sl ([.ref (md 0)]) ++ List.replicate (1 - (lg_sl ([.ref (md 0)])).length) Slot.unset).toArray = ls at hl ⊢
  have hl : lv_has ls 1 [(0, .ref (md 0))] := hl
  have zw0 := hts (.fieldLink RX3 36 "LearnedLedgeModel" "thrown" "I") (List.mem_cons_of_mem _ (List.mem_append_left _ (List.mem_of_getElem? (i := 0) rfl)))
  have zw1 := hts (.fieldLink RX3 48 "LearnedLedgeModel" "pieces" "I") (List.mem_cons_of_mem _ (List.mem_append_left _ (List.mem_of_getElem? (i := 1) rfl)))
  have ziX3 : ∀ w ∈ u_ws RX3 TX3 18, w ∈ wsX3_pieces := (fun _ h9 => (List.mem_cons_of_mem _ (List.mem_append_right _ h9)))
  refine lv_aload_n hx hb dX3_pieces_0 rfl (lv_at hl 0 rfl) ?_
  refine lv_iconst (v := 0) hx hb dX3_pieces_1 (by decide) ?_
  refine va_put (D := (dC, dI)) (ci := 3) (v := .int 0) (ty := .int) (C := RX3) (T := TX3) (N := 18) hx hb hts ziX3 tyX3 tyX3_ok nmX3 hown hK hP hD hS 0 rfl rfl 0 (by decide) zw0 (fun _ h9 => h9) rfl (by decide +kernel) rfl rfl (Nat.le_of_ble_eq_true rfl) dX3_pieces_2 (fun H locs hP hD hS => ?_)
  have hP : va_P (dC, dI) vwCl (wM cI cZ md 0 ybd yro yrow ymk yrm yst ypc ybu ybn ymg ysp yjn ymd ybg ymm yup yun) H := hP
  have hD : va_D A (wM cI cZ md 0 ybd yro yrow ymk yrm yst ypc ybu ybn ymg ysp yjn ymd ybg ymm yup yun) := hD
  refine lv_aload_n hx hb dX3_pieces_5 rfl (lv_at hl 0 rfl) ?_
  refine va_get (D := (dC, dI)) (ci := 3) (v := .int ypc) (C := RX3) (T := TX3) (N := 18) hx hb hts ziX3 hown hK hP 0 rfl rfl 7 (by decide) zw1 (fun _ h9 => h9) rfl dX3_pieces_6 ?_
  cases o2 hm
  exact W.iret hx hb hr (fun t ht hW => ⟨⟨_, (), rfl, rfl, by rw [ht]; exact hP, va_K.moved hW.alike hK, hD⟩, hS.F ht⟩) hS.2.2 dX3_pieces_9
set_option maxHeartbeats 4000000 in
set_option maxRecDepth 100000 in
theorem c_X3_asks (l : Launch) (dC : Nat → ClassId) (dI : Nat → Nat → Nat) (cI : ClassId) (cZ : ClassId) (md : Nat → Nat) (yth : Int32) (ybd : Int32) (yro : Int32) (yrow : Nat → Int32) (ymk : Nat → Int32) (yrm : Int32) (yst : Nat → Int32) (ypc : Int32) (ybu : Nat → Int32) (ybn : Int32) (ymg : Int32) (ysp : Int32) (yjn : Int32) (ymd : Nat → Int32) (ybg : Nat → Int32) (ymm : Int32) (yup : Int64) (yun : Int64) (F : Nat) (p1 : Int32) (sz : Nat) (r : Int32) (u_yth : Int32) (hm : X3_asks F yth ypc p1 = some (r, u_yth)) : Met l yX3_asks wsX3_asks ({ frames := 0, cells := 0, slots := 0, locals := 0 }) (va_Pc [.ref (md 0), .int p1] (zW (dC, dI) (wM cI cZ md yth ybd yro yrow ymk yrm yst ypc ybu ybn ymg ysp yjn ymd ybg ymm yup yun) [(cI, .int), (cZ, .boolean)] sz)) (zQi (dC, dI) (wM cI cZ md u_yth ybd yro yrow ymk yrm yst ypc ybu ybn ymg ysp yjn ymd ybg ymm yup yun) [(cI, .int), (cZ, .boolean)] (va_A (wM cI cZ md yth ybd yro yrow ymk yrm yst ypc ybu ybn ymg ysp yjn ymd ybg ymm yup yun) sz) r) 0 0 (va_A (wM cI cZ md yth ybd yro yrow ymk yrm yst ypc ybu ybn ymg ysp yjn ymd ybg ymm yup yun) sz) := by
  refine Met.ofW (cc := cX3_asks) (maxL := 2) (ret := (some .boolean)) (by decide) rfl ?_
  intro p e s m args below meth c s₁ B hml hv
  obtain ⟨rfl, hsz, hP, hK, hD0⟩ := hv
  have hx := B.exec
  have hb := B.bytes
  have hr := B.returns
  have hts := atoms_spec (ws := wsX3_asks) B.pre
  have hown : s.vm.findClass RX3 = some m.cls := findClass_of_methodNamed B.named
  have hlocks := B.notSynchronized
  subst hsz
  have hD := hD0.self (sz := s.heap.size)
  generalize hAe : va_A (wM cI cZ md yth ybd yro yrow ymk yrm yst ypc ybu ybn ymg ysp yjn ymd ybg ymm yup yun) s.heap.size = A at hD ⊢
  have hA : ∀ q : Nat, s.heap.size ≤ q → A q := fun q h => by rw [← hAe]; exact Or.inr h
  have hS : va_S A s.heap s.heap [] := va_S.rf
  generalize eL : ([] : List Loc) = locs at hS ⊢
  obtain ⟨H, eH⟩ : ∃ z : Heap, z = s.heap := ⟨_, rfl⟩
  have hP : va_P (dC, dI) vwCl (wM cI cZ md yth ybd yro yrow ymk yrm yst ypc ybu ybn ymg ysp yjn ymd ybg ymm yup yun) H := by rw [eH]; exact hP
  have hS : va_S A s.heap H locs := by rw [eH]; exact hS
  refine z_heap eH ?_
  have hl := lv_entry ([.ref (md 0), .int p1]) (n := 2) (Nat.le_of_ble_eq_true rfl)
  rw [lg_entry_eq]
  generalize (lg_sl ([.ref (md 0), .int p1]) ++ List.replicate (2 - (lg_sl ([.ref (md 0), .int p1])).length) Slot.unset).toArray = ls at hl ⊢
  have hl : lv_has ls 2 [(0, .ref (md 0)), (1, .int p1)] := hl
  have zw0 := hts (.fieldLink RX3 48 "LearnedLedgeModel" "pieces" "I") (List.mem_cons_of_mem _ (List.mem_append_left _ (List.mem_of_getElem? (i := 0) rfl)))
  have zw1 := hts (.fieldLink RX3 36 "LearnedLedgeModel" "thrown" "I") (List.mem_cons_of_mem _ (List.mem_append_left _ (List.mem_of_getElem? (i := 1) rfl)))
  have ziX3 : ∀ w ∈ u_ws RX3 TX3 18, w ∈ wsX3_asks := (fun _ h9 => (List.mem_cons_of_mem _ (List.mem_append_right _ h9)))
  refine lv_aload_n hx hb dX3_asks_0 rfl (lv_at hl 0 rfl) ?_
  refine lv_iload_n hx hb dX3_asks_1 rfl (lv_at hl 1 rfl) ?_
  obtain ⟨y18, e_y18⟩ : ∃ y : Int32, y = (if p1 < 0 then 1 else (if ypc ≤ p1 then 1 else 0)) := ⟨_, rfl⟩
  have hm := bnd_e hm e_y18
  have J_18 : W p l e (headSpec wsX3_asks ({ frames := 0, cells := 0, slots := 0, locals := 0 } : Room)).room s m ([.ref (md 0), .int p1] : List Value).toArray below meth c H locs 0 0 (MQ below (zQi (dC, dI) (wM cI cZ md u_yth ybd yro yrow ymk yrm yst ypc ybu ybn ymg ysp yjn ymd ybg ymm yup yun) [(cI, .int), (cZ, .boolean)] A r) ([.ref (md 0), .int p1] : List Value).toArray s 0 0 A) (F0 m 18 ls [.int y18, .ref (md 0)]) := by
    refine va_put (D := (dC, dI)) (ci := 3) (v := .int y18) (ty := .int) (C := RX3) (T := TX3) (N := 18) hx hb hts ziX3 tyX3 tyX3_ok nmX3 hown hK hP hD hS 0 rfl rfl 0 (by decide) zw1 (fun _ h9 => h9) rfl (by decide +kernel) rfl rfl (Nat.le_of_ble_eq_true rfl) dX3_asks_18 (fun H locs hP hD hS => ?_)
    have hP : va_P (dC, dI) vwCl (wM cI cZ md y18 ybd yro yrow ymk yrm yst ypc ybu ybn ymg ysp yjn ymd ybg ymm yup yun) H := hP
    have hD : va_D A (wM cI cZ md y18 ybd yro yrow ymk yrm yst ypc ybu ybn ymg ysp yjn ymd ybg ymm yup yun) := hD
    refine lv_aload_n hx hb dX3_asks_21 rfl (lv_at hl 0 rfl) ?_
    refine va_get (D := (dC, dI)) (ci := 3) (v := .int y18) (C := RX3) (T := TX3) (N := 18) hx hb hts ziX3 hown hK hP 0 rfl rfl 0 (by decide) zw1 (fun _ h9 => h9) rfl dX3_asks_22 ?_
    refine lv_if_ne (tgt := 32) hx hb dX3_asks_25 (by decide) (fun c_25 => ?_) (fun c_25 => ?_)
    · have hm := it_f hm c_25
      refine lv_iconst (v := 0) hx hb dX3_asks_32 (by decide) ?_
      cases o2 hm
      exact W.zret hx hb hr rfl (fun t ht hW => ⟨⟨_, (), rfl, rfl, by rw [ht]; exact hP, va_K.moved hW.alike hK, hD⟩, hS.F ht⟩) hS.2.2 dX3_asks_33
    · have hm := it_t hm c_25
      refine lv_iconst (v := 1) hx hb dX3_asks_28 (by decide) ?_
      refine lv_goto (tgt := 33) hx hb dX3_asks_29 (by decide) ?_
      cases o2 hm
      exact W.zret hx hb hr rfl (fun t ht hW => ⟨⟨_, (), rfl, rfl, by rw [ht]; exact hP, va_K.moved hW.alike hK, hD⟩, hS.F ht⟩) hS.2.2 dX3_asks_33
  refine lv_if_lt (tgt := 17) hx hb dX3_asks_2 (by decide) (fun c_2 => ?_) (fun c_2 => ?_)
  · refine lv_iconst (v := 1) hx hb dX3_asks_17 (by decide) ?_
    have e9 : y18 = 1 := by rw [e_y18, if_pos c_2]
    rw [e9] at J_18
    exact J_18
  · refine lv_iload_n hx hb dX3_asks_5 rfl (lv_at hl 1 rfl) ?_
    refine lv_aload_n hx hb dX3_asks_6 rfl (lv_at hl 0 rfl) ?_
    refine va_get (D := (dC, dI)) (ci := 3) (v := .int ypc) (C := RX3) (T := TX3) (N := 18) hx hb hts ziX3 hown hK hP 0 rfl rfl 7 (by decide) zw0 (fun _ h9 => h9) rfl dX3_asks_7 ?_
    refine lv_icmp_ge (tgt := 17) hx hb dX3_asks_10 (by decide) (fun c_10 => ?_) (fun c_10 => ?_)
    · refine lv_iconst (v := 1) hx hb dX3_asks_17 (by decide) ?_
      have e9 : y18 = 1 := by rw [e_y18, if_neg c_2, if_pos c_10]
      rw [e9] at J_18
      exact J_18
    · refine lv_iconst (v := 0) hx hb dX3_asks_13 (by decide) ?_
      refine lv_goto (tgt := 18) hx hb dX3_asks_14 (by decide) ?_
      have e9 : y18 = 0 := by rw [e_y18, if_neg c_2, if_neg c_10]
      rw [e9] at J_18
      exact J_18
set_option maxHeartbeats 4000000 in
set_option maxRecDepth 100000 in
theorem c_X3_start (l : Launch) (dC : Nat → ClassId) (dI : Nat → Nat → Nat) (cI : ClassId) (cZ : ClassId) (md : Nat → Nat) (yth : Int32) (ybd : Int32) (yro : Int32) (yrow : Nat → Int32) (ymk : Nat → Int32) (yrm : Int32) (yst : Nat → Int32) (ypc : Int32) (ybu : Nat → Int32) (ybn : Int32) (ymg : Int32) (ysp : Int32) (yjn : Int32) (ymd : Nat → Int32) (ybg : Nat → Int32) (ymm : Int32) (yup : Int64) (yun : Int64) (F : Nat) (p1 : Int32) (sz : Nat) (r : Int32) (u_yth : Int32) (hm : X3_start F yth yst ypc p1 = some (r, u_yth)) : Met l yX3_start wsX3_start ({ frames := 1, cells := 0, slots := 0, locals := 21 }) (va_Pc [.ref (md 0), .int p1] (zW (dC, dI) (wM cI cZ md yth ybd yro yrow ymk yrm yst ypc ybu ybn ymg ysp yjn ymd ybg ymm yup yun) [(cI, .int), (cZ, .boolean)] sz)) (zQi (dC, dI) (wM cI cZ md u_yth ybd yro yrow ymk yrm yst ypc ybu ybn ymg ysp yjn ymd ybg ymm yup yun) [(cI, .int), (cZ, .boolean)] (va_A (wM cI cZ md yth ybd yro yrow ymk yrm yst ypc ybu ybn ymg ysp yjn ymd ybg ymm yup yun) sz) r) 0 0 (va_A (wM cI cZ md yth ybd yro yrow ymk yrm yst ypc ybu ybn ymg ysp yjn ymd ybg ymm yup yun) sz) := by
  refine Met.ofW (cc := cX3_start) (maxL := 2) (ret := (some .int)) (by decide) rfl ?_
  intro p e s m args below meth c s₁ B hml hv
  obtain ⟨rfl, hsz, hP, hK, hD0⟩ := hv
  have hx := B.exec
  have hb := B.bytes
  have hr := B.returns
  have hts := atoms_spec (ws := wsX3_start) B.pre
  have hown : s.vm.findClass RX3 = some m.cls := findClass_of_methodNamed B.named
  have hlocks := B.notSynchronized
  subst hsz
  have hD := hD0.self (sz := s.heap.size)
  generalize hAe : va_A (wM cI cZ md yth ybd yro yrow ymk yrm yst ypc ybu ybn ymg ysp yjn ymd ybg ymm yup yun) s.heap.size = A at hD ⊢
  have hA : ∀ q : Nat, s.heap.size ≤ q → A q := fun q h => by rw [← hAe]; exact Or.inr h
  have hS : va_S A s.heap s.heap [] := va_S.rf
  generalize eL : ([] : List Loc) = locs at hS ⊢
  obtain ⟨H, eH⟩ : ∃ z : Heap, z = s.heap := ⟨_, rfl⟩
  have hP : va_P (dC, dI) vwCl (wM cI cZ md yth ybd yro yrow ymk yrm yst ypc ybu ybn ymg ysp yjn ymd ybg ymm yup yun) H := by rw [eH]; exact hP
  have hS : va_S A s.heap H locs := by rw [eH]; exact hS
  refine z_heap eH ?_
  have hl := lv_entry ([.ref (md 0), .int p1]) (n := 2) (Nat.le_of_ble_eq_true rfl)
  rw [lg_entry_eq]
  generalize (lg_sl ([.ref (md 0), .int p1]) ++ List.replicate (2 - (lg_sl ([.ref (md 0), .int p1])).length) Slot.unset).toArray = ls at hl ⊢
  have hl : lv_has ls 2 [(0, .ref (md 0)), (1, .int p1)] := hl
  have zw0 := hts (.fieldLink RX3 24 "LearnedLedgeModel" "start" "[I") (List.mem_cons_of_mem _ (List.mem_append_left _ (List.mem_of_getElem? (i := 0) rfl)))
  have ziX3 : ∀ w ∈ u_ws RX3 TX3 18, w ∈ wsX3_start := (fun _ h9 => (List.mem_cons_of_mem _ (List.mem_append_right _ h9)))
  refine lv_aload_n hx hb dX3_start_0 rfl (lv_at hl 0 rfl) ?_
  refine lv_iload_n hx hb dX3_start_1 rfl (lv_at hl 1 rfl) ?_
  obtain ⟨⟨r2, yth2⟩, h_2, hm⟩ := ob hm
  refine z_callWi (wc := (wM cI cZ md yth ybd yro yrow ymk yrm yst ypc ybu ybn ymg ysp yjn ymd ybg ymm yup yun)) (w1 := (wM cI cZ md yth2 ybd yro yrow ymk yrm yst ypc ybu ybn ymg ysp yjn ymd ybg ymm yup yun)) (ws := (wM cI cZ md yth ybd yro yrow ymk yrm yst ypc ybu ybn ymg ysp yjn ymd ybg ymm yup yun)) (ws' := (wM cI cZ md yth2 ybd yro yrow ymk yrm yst ypc ybu ybn ymg ysp yjn ymd ybg ymm yup yun)) (As := [.int p1]) (rest := []) (ci := 3) (q := (RX3, TX3, 18)) ⟨hx, hb, hml, hown, hts⟩ (c_X3_asks l dC dI cI cZ md yth ybd yro yrow ymk yrm yst ypc ybu ybn ymg ysp yjn ymd ybg ymm yup yun F p1 H.size r2 yth2 h_2) (cwV 1 hts gX3_start_X3_asks rfl rfl rfl kv_X3_asks ⟨Nat.le_of_ble_eq_true rfl, Nat.le_of_ble_eq_true rfl⟩) hK hP hD hS hA (z_spAll (wM cI cZ md yth ybd yro yrow ymk yrm yst ypc ybu ybn ymg ysp yjn ymd ybg ymm yup yun) (wM cI cZ md yth2 ybd yro yrow ymk yrm yst ypc ybu ybn ymg ysp yjn ymd ybg ymm yup yun)) ((paM cI cZ md yth2 ybd yro yrow ymk yrm yst ypc ybu ybn ymg ysp yjn ymd ybg ymm yup yun).trans (paM cI cZ md yth ybd yro yrow ymk yrm yst ypc ybu ybn ymg ysp yjn ymd ybg ymm yup yun).symm) rfl rfl rfl rfl hl.1 rfl (Nat.le_of_ble_eq_true rfl) dX3_start_2 ⟨Nat.zero_le _, Nat.zero_le _⟩ (fun H locs hP hD hS => ?_)
  refine lv_if_eq (tgt := 17) hx hb dX3_start_5 (by decide) (fun c_5 => ?_) (fun c_5 => ?_)
  · have hm := it_t hm c_5
    refine lv_iconst (v := 0) hx hb dX3_start_17 (by decide) ?_
    cases o2 hm
    exact W.iret hx hb hr (fun t ht hW => ⟨⟨_, (), rfl, rfl, by rw [ht]; exact hP, va_K.moved hW.alike hK, hD⟩, hS.F ht⟩) hS.2.2 dX3_start_18
  · have hm := it_f hm c_5
    refine lv_aload_n hx hb dX3_start_8 rfl (lv_at hl 0 rfl) ?_
    refine va_get (D := (dC, dI)) (ci := 3) (v := .ref (md 3)) (C := RX3) (T := TX3) (N := 18) hx hb hts ziX3 hown hK hP 0 rfl rfl 6 (by decide) zw0 (fun _ h9 => h9) rfl dX3_start_9 ?_
    refine lv_iload_n hx hb dX3_start_12 rfl (lv_at hl 1 rfl) ?_
    obtain ⟨c_13, hm⟩ := ck hm
    refine va_iald hx hb hK hP 3 0 rfl rfl c_13 dX3_start_13 ?_
    refine lv_goto (tgt := 18) hx hb dX3_start_14 (by decide) ?_
    cases o2 hm
    exact W.iret hx hb hr (fun t ht hW => ⟨⟨_, (), rfl, rfl, by rw [ht]; exact hP, va_K.moved hW.alike hK, hD⟩, hS.F ht⟩) hS.2.2 dX3_start_18
set_option maxHeartbeats 4000000 in
set_option maxRecDepth 100000 in
theorem c_X3_firstKey (l : Launch) (dC : Nat → ClassId) (dI : Nat → Nat → Nat) (cI : ClassId) (cZ : ClassId) (md : Nat → Nat) (yth : Int32) (ybd : Int32) (yro : Int32) (yrow : Nat → Int32) (ymk : Nat → Int32) (yrm : Int32) (yst : Nat → Int32) (ypc : Int32) (ybu : Nat → Int32) (ybn : Int32) (ymg : Int32) (ysp : Int32) (yjn : Int32) (ymd : Nat → Int32) (ybg : Nat → Int32) (ymm : Int32) (yup : Int64) (yun : Int64) (F : Nat) (p1 : Int32) (sz : Nat) (r : Int32) (u_yth : Int32) (hm : X3_firstKey F yth yrow yst ypc p1 = some (r, u_yth)) : Met l yX3_firstKey wsX3_firstKey ({ frames := 1, cells := 0, slots := 0, locals := 21 }) (va_Pc [.ref (md 0), .int p1] (zW (dC, dI) (wM cI cZ md yth ybd yro yrow ymk yrm yst ypc ybu ybn ymg ysp yjn ymd ybg ymm yup yun) [(cI, .int), (cZ, .boolean)] sz)) (zQi (dC, dI) (wM cI cZ md u_yth ybd yro yrow ymk yrm yst ypc ybu ybn ymg ysp yjn ymd ybg ymm yup yun) [(cI, .int), (cZ, .boolean)] (va_A (wM cI cZ md yth ybd yro yrow ymk yrm yst ypc ybu ybn ymg ysp yjn ymd ybg ymm yup yun) sz) r) 0 0 (va_A (wM cI cZ md yth ybd yro yrow ymk yrm yst ypc ybu ybn ymg ysp yjn ymd ybg ymm yup yun) sz) := by
  refine Met.ofW (cc := cX3_firstKey) (maxL := 2) (ret := (some .int)) (by decide) rfl ?_
  intro p e s m args below meth c s₁ B hml hv
  obtain ⟨rfl, hsz, hP, hK, hD0⟩ := hv
  have hx := B.exec
  have hb := B.bytes
  have hr := B.returns
  have hts := atoms_spec (ws := wsX3_firstKey) B.pre
  have hown : s.vm.findClass RX3 = some m.cls := findClass_of_methodNamed B.named
  have hlocks := B.notSynchronized
  subst hsz
  have hD := hD0.self (sz := s.heap.size)
  generalize hAe : va_A (wM cI cZ md yth ybd yro yrow ymk yrm yst ypc ybu ybn ymg ysp yjn ymd ybg ymm yup yun) s.heap.size = A at hD ⊢
  have hA : ∀ q : Nat, s.heap.size ≤ q → A q := fun q h => by rw [← hAe]; exact Or.inr h
  have hS : va_S A s.heap s.heap [] := va_S.rf
  generalize eL : ([] : List Loc) = locs at hS ⊢
  obtain ⟨H, eH⟩ : ∃ z : Heap, z = s.heap := ⟨_, rfl⟩
  have hP : va_P (dC, dI) vwCl (wM cI cZ md yth ybd yro yrow ymk yrm yst ypc ybu ybn ymg ysp yjn ymd ybg ymm yup yun) H := by rw [eH]; exact hP
  have hS : va_S A s.heap H locs := by rw [eH]; exact hS
  refine z_heap eH ?_
  have hl := lv_entry ([.ref (md 0), .int p1]) (n := 2) (Nat.le_of_ble_eq_true rfl)
  rw [lg_entry_eq]
  generalize (lg_sl ([.ref (md 0), .int p1]) ++ List.replicate (2 - (lg_sl ([.ref (md 0), .int p1])).length) Slot.unset).toArray = ls at hl ⊢
  have hl : lv_has ls 2 [(0, .ref (md 0)), (1, .int p1)] := hl
  have zw0 := hts (.fieldLink RX3 16 "LearnedLedgeModel" "row" "[I") (List.mem_cons_of_mem _ (List.mem_append_left _ (List.mem_of_getElem? (i := 0) rfl)))
  have zw1 := hts (.fieldLink RX3 24 "LearnedLedgeModel" "start" "[I") (List.mem_cons_of_mem _ (List.mem_append_left _ (List.mem_of_getElem? (i := 1) rfl)))
  have ziX3 : ∀ w ∈ u_ws RX3 TX3 18, w ∈ wsX3_firstKey := (fun _ h9 => (List.mem_cons_of_mem _ (List.mem_append_right _ h9)))
  refine lv_aload_n hx hb dX3_firstKey_0 rfl (lv_at hl 0 rfl) ?_
  refine lv_iload_n hx hb dX3_firstKey_1 rfl (lv_at hl 1 rfl) ?_
  obtain ⟨⟨r2, yth2⟩, h_2, hm⟩ := ob hm
  refine z_callWi (wc := (wM cI cZ md yth ybd yro yrow ymk yrm yst ypc ybu ybn ymg ysp yjn ymd ybg ymm yup yun)) (w1 := (wM cI cZ md yth2 ybd yro yrow ymk yrm yst ypc ybu ybn ymg ysp yjn ymd ybg ymm yup yun)) (ws := (wM cI cZ md yth ybd yro yrow ymk yrm yst ypc ybu ybn ymg ysp yjn ymd ybg ymm yup yun)) (ws' := (wM cI cZ md yth2 ybd yro yrow ymk yrm yst ypc ybu ybn ymg ysp yjn ymd ybg ymm yup yun)) (As := [.int p1]) (rest := []) (ci := 3) (q := (RX3, TX3, 18)) ⟨hx, hb, hml, hown, hts⟩ (c_X3_asks l dC dI cI cZ md yth ybd yro yrow ymk yrm yst ypc ybu ybn ymg ysp yjn ymd ybg ymm yup yun F p1 H.size r2 yth2 h_2) (cwV 1 hts gX3_firstKey_X3_asks rfl rfl rfl kv_X3_asks ⟨Nat.le_of_ble_eq_true rfl, Nat.le_of_ble_eq_true rfl⟩) hK hP hD hS hA (z_spAll (wM cI cZ md yth ybd yro yrow ymk yrm yst ypc ybu ybn ymg ysp yjn ymd ybg ymm yup yun) (wM cI cZ md yth2 ybd yro yrow ymk yrm yst ypc ybu ybn ymg ysp yjn ymd ybg ymm yup yun)) ((paM cI cZ md yth2 ybd yro yrow ymk yrm yst ypc ybu ybn ymg ysp yjn ymd ybg ymm yup yun).trans (paM cI cZ md yth ybd yro yrow ymk yrm yst ypc ybu ybn ymg ysp yjn ymd ybg ymm yup yun).symm) rfl rfl rfl rfl hl.1 rfl (Nat.le_of_ble_eq_true rfl) dX3_firstKey_2 ⟨Nat.zero_le _, Nat.zero_le _⟩ (fun H locs hP hD hS => ?_)
  refine lv_if_eq (tgt := 22) hx hb dX3_firstKey_5 (by decide) (fun c_5 => ?_) (fun c_5 => ?_)
  · have hm := it_t hm c_5
    refine lv_iconst (v := 0) hx hb dX3_firstKey_22 (by decide) ?_
    cases o2 hm
    exact W.iret hx hb hr (fun t ht hW => ⟨⟨_, (), rfl, rfl, by rw [ht]; exact hP, va_K.moved hW.alike hK, hD⟩, hS.F ht⟩) hS.2.2 dX3_firstKey_23
  · have hm := it_f hm c_5
    refine lv_aload_n hx hb dX3_firstKey_8 rfl (lv_at hl 0 rfl) ?_
    refine va_get (D := (dC, dI)) (ci := 3) (v := .ref (md 1)) (C := RX3) (T := TX3) (N := 18) hx hb hts ziX3 hown hK hP 0 rfl rfl 3 (by decide) zw0 (fun _ h9 => h9) rfl dX3_firstKey_9 ?_
    refine lv_aload_n hx hb dX3_firstKey_12 rfl (lv_at hl 0 rfl) ?_
    refine va_get (D := (dC, dI)) (ci := 3) (v := .ref (md 3)) (C := RX3) (T := TX3) (N := 18) hx hb hts ziX3 hown hK hP 0 rfl rfl 6 (by decide) zw1 (fun _ h9 => h9) rfl dX3_firstKey_13 ?_
    refine lv_iload_n hx hb dX3_firstKey_16 rfl (lv_at hl 1 rfl) ?_
    obtain ⟨c_17, hm⟩ := ck hm
    refine va_iald hx hb hK hP 3 0 rfl rfl c_17 dX3_firstKey_17 ?_
    obtain ⟨c_18, hm⟩ := ck hm
    refine va_iald hx hb hK hP 1 0 rfl rfl c_18 dX3_firstKey_18 ?_
    refine lv_goto (tgt := 23) hx hb dX3_firstKey_19 (by decide) ?_
    cases o2 hm
    exact W.iret hx hb hr (fun t ht hW => ⟨⟨_, (), rfl, rfl, by rw [ht]; exact hP, va_K.moved hW.alike hK, hD⟩, hS.F ht⟩) hS.2.2 dX3_firstKey_23
set_option maxHeartbeats 4000000 in
set_option maxRecDepth 100000 in
theorem c_X3_riseOf (l : Launch) (dC : Nat → ClassId) (dI : Nat → Nat → Nat) (cI : ClassId) (cZ : ClassId) (md : Nat → Nat) (yth : Int32) (ybd : Int32) (yro : Int32) (yrow : Nat → Int32) (ymk : Nat → Int32) (yrm : Int32) (yst : Nat → Int32) (ypc : Int32) (ybu : Nat → Int32) (ybn : Int32) (ymg : Int32) (ysp : Int32) (yjn : Int32) (ymd : Nat → Int32) (ybg : Nat → Int32) (ymm : Int32) (yup : Int64) (yun : Int64) (F : Nat) (p1 : Int32) (sz : Nat) (r : Int32) (u_yup : Int64) (u_yun : Int64) (hm : X3_riseOf F ybd yrow yrm yst ypc yup yun p1 = some (r, u_yup, u_yun)) : Met l yX3_riseOf wsX3_riseOf ({ frames := 2, cells := 0, slots := 0, locals := 55 }) (va_Pc [.ref (md 0), .int p1] (zW (dC, dI) (wM cI cZ md yth ybd yro yrow ymk yrm yst ypc ybu ybn ymg ysp yjn ymd ybg ymm yup yun) [(cI, .int), (cZ, .boolean)] sz)) (zQi (dC, dI) (wM cI cZ md yth ybd yro yrow ymk yrm yst ypc ybu ybn ymg ysp yjn ymd ybg ymm u_yup u_yun) [(cI, .int), (cZ, .boolean)] (va_A (wM cI cZ md yth ybd yro yrow ymk yrm yst ypc ybu ybn ymg ysp yjn ymd ybg ymm yup yun) sz) r) 0 0 (va_A (wM cI cZ md yth ybd yro yrow ymk yrm yst ypc ybu ybn ymg ysp yjn ymd ybg ymm yup yun) sz) := by
  refine Met.ofW (cc := cX3_riseOf) (maxL := 2) (ret := (some .int)) (by decide) rfl ?_
  intro p e s m args below meth c s₁ B hml hv
  obtain ⟨rfl, hsz, hP, hK, hD0⟩ := hv
  have hx := B.exec
  have hb := B.bytes
  have hr := B.returns
  have hts := atoms_spec (ws := wsX3_riseOf) B.pre
  have hown : s.vm.findClass RX3 = some m.cls := findClass_of_methodNamed B.named
  have hlocks := B.notSynchronized
  subst hsz
  have hD := hD0.self (sz := s.heap.size)
  generalize hAe : va_A (wM cI cZ md yth ybd yro yrow ymk yrm yst ypc ybu ybn ymg ysp yjn ymd ybg ymm yup yun) s.heap.size = A at hD ⊢
  have hA : ∀ q : Nat, s.heap.size ≤ q → A q := fun q h => by rw [← hAe]; exact Or.inr h
  have hS : va_S A s.heap s.heap [] := va_S.rf
  generalize eL : ([] : List Loc) = locs at hS ⊢
  obtain ⟨H, eH⟩ : ∃ z : Heap, z = s.heap := ⟨_, rfl⟩
  have hP : va_P (dC, dI) vwCl (wM cI cZ md yth ybd yro yrow ymk yrm yst ypc ybu ybn ymg ysp yjn ymd ybg ymm yup yun) H := by rw [eH]; exact hP
  have hS : va_S A s.heap H locs := by rw [eH]; exact hS
  refine z_heap eH ?_
  have hl := lv_entry ([.ref (md 0), .int p1]) (n := 2) (Nat.le_of_ble_eq_true rfl)
  rw [lg_entry_eq]
  generalize (lg_sl ([.ref (md 0), .int p1]) ++ List.replicate (2 - (lg_sl ([.ref (md 0), .int p1])).length) Slot.unset).toArray = ls at hl ⊢
  have hl : lv_has ls 2 [(0, .ref (md 0)), (1, .int p1)] := hl
  have zw0 := hts (.fieldLink RX3 41 "LearnedLedgeModel" "leastUp" "J") (List.mem_cons_of_mem _ (List.mem_append_left _ (List.mem_of_getElem? (i := 0) rfl)))
  have ziX3 : ∀ w ∈ u_ws RX3 TX3 18, w ∈ wsX3_riseOf := (fun _ h9 => (List.mem_cons_of_mem _ (List.mem_append_right _ h9)))
  refine lv_aload_n hx hb dX3_riseOf_0 rfl (lv_at hl 0 rfl) ?_
  refine lv_iload_n hx hb dX3_riseOf_1 rfl (lv_at hl 1 rfl) ?_
  obtain ⟨⟨yup2, yun2⟩, h_2, hm⟩ := ob hm
  refine z_callWv (wc := (wM cI cZ md yth ybd yro yrow ymk yrm yst ypc ybu ybn ymg ysp yjn ymd ybg ymm yup yun)) (w1 := (wM cI cZ md yth ybd yro yrow ymk yrm yst ypc ybu ybn ymg ysp yjn ymd ybg ymm yup2 yun2)) (ws := (wM cI cZ md yth ybd yro yrow ymk yrm yst ypc ybu ybn ymg ysp yjn ymd ybg ymm yup yun)) (ws' := (wM cI cZ md yth ybd yro yrow ymk yrm yst ypc ybu ybn ymg ysp yjn ymd ybg ymm yup2 yun2)) (As := [.int p1]) (rest := []) (ci := 3) (q := (RX3, TX3, 18)) ⟨hx, hb, hml, hown, hts⟩ (c_X3_lays l dC dI cI cZ md yth ybd yro yrow ymk yrm yst ypc ybu ybn ymg ysp yjn ymd ybg ymm yup yun F p1 H.size yup2 yun2 h_2) (cwV 1 hts gX3_riseOf_X3_lays rfl rfl rfl kv_X3_lays ⟨Nat.le_of_ble_eq_true rfl, Nat.le_of_ble_eq_true rfl⟩) hK hP hD hS hA (z_spAll (wM cI cZ md yth ybd yro yrow ymk yrm yst ypc ybu ybn ymg ysp yjn ymd ybg ymm yup yun) (wM cI cZ md yth ybd yro yrow ymk yrm yst ypc ybu ybn ymg ysp yjn ymd ybg ymm yup2 yun2)) ((paM cI cZ md yth ybd yro yrow ymk yrm yst ypc ybu ybn ymg ysp yjn ymd ybg ymm yup2 yun2).trans (paM cI cZ md yth ybd yro yrow ymk yrm yst ypc ybu ybn ymg ysp yjn ymd ybg ymm yup yun).symm) rfl rfl rfl rfl hl.1 rfl (Nat.le_of_ble_eq_true rfl) dX3_riseOf_2 ⟨Nat.zero_le _, Nat.zero_le _⟩ (fun H locs hP hD hS => ?_)
  refine lv_aload_n hx hb dX3_riseOf_5 rfl (lv_at hl 0 rfl) ?_
  refine va_get (D := (dC, dI)) (ci := 3) (v := .long yup2) (C := RX3) (T := TX3) (N := 18) hx hb hts ziX3 hown hK hP 0 rfl rfl 16 (by decide) zw0 (fun _ h9 => h9) rfl dX3_riseOf_6 ?_
  refine lv_l2i hx hb dX3_riseOf_9 rfl ?_
  cases o2 hm
  exact W.iret hx hb hr (fun t ht hW => ⟨⟨_, (), rfl, rfl, by rw [ht]; exact hP, va_K.moved hW.alike hK, hD⟩, hS.F ht⟩) hS.2.2 dX3_riseOf_10
set_option maxHeartbeats 4000000 in
set_option maxRecDepth 100000 in
theorem c_X3_runOf (l : Launch) (dC : Nat → ClassId) (dI : Nat → Nat → Nat) (cI : ClassId) (cZ : ClassId) (md : Nat → Nat) (yth : Int32) (ybd : Int32) (yro : Int32) (yrow : Nat → Int32) (ymk : Nat → Int32) (yrm : Int32) (yst : Nat → Int32) (ypc : Int32) (ybu : Nat → Int32) (ybn : Int32) (ymg : Int32) (ysp : Int32) (yjn : Int32) (ymd : Nat → Int32) (ybg : Nat → Int32) (ymm : Int32) (yup : Int64) (yun : Int64) (F : Nat) (p1 : Int32) (sz : Nat) (r : Int32) (u_yup : Int64) (u_yun : Int64) (hm : X3_runOf F ybd yrow yrm yst ypc yup yun p1 = some (r, u_yup, u_yun)) : Met l yX3_runOf wsX3_runOf ({ frames := 2, cells := 0, slots := 0, locals := 55 }) (va_Pc [.ref (md 0), .int p1] (zW (dC, dI) (wM cI cZ md yth ybd yro yrow ymk yrm yst ypc ybu ybn ymg ysp yjn ymd ybg ymm yup yun) [(cI, .int), (cZ, .boolean)] sz)) (zQi (dC, dI) (wM cI cZ md yth ybd yro yrow ymk yrm yst ypc ybu ybn ymg ysp yjn ymd ybg ymm u_yup u_yun) [(cI, .int), (cZ, .boolean)] (va_A (wM cI cZ md yth ybd yro yrow ymk yrm yst ypc ybu ybn ymg ysp yjn ymd ybg ymm yup yun) sz) r) 0 0 (va_A (wM cI cZ md yth ybd yro yrow ymk yrm yst ypc ybu ybn ymg ysp yjn ymd ybg ymm yup yun) sz) := by
  refine Met.ofW (cc := cX3_runOf) (maxL := 2) (ret := (some .int)) (by decide) rfl ?_
  intro p e s m args below meth c s₁ B hml hv
  obtain ⟨rfl, hsz, hP, hK, hD0⟩ := hv
  have hx := B.exec
  have hb := B.bytes
  have hr := B.returns
  have hts := atoms_spec (ws := wsX3_runOf) B.pre
  have hown : s.vm.findClass RX3 = some m.cls := findClass_of_methodNamed B.named
  have hlocks := B.notSynchronized
  subst hsz
  have hD := hD0.self (sz := s.heap.size)
  generalize hAe : va_A (wM cI cZ md yth ybd yro yrow ymk yrm yst ypc ybu ybn ymg ysp yjn ymd ybg ymm yup yun) s.heap.size = A at hD ⊢
  have hA : ∀ q : Nat, s.heap.size ≤ q → A q := fun q h => by rw [← hAe]; exact Or.inr h
  have hS : va_S A s.heap s.heap [] := va_S.rf
  generalize eL : ([] : List Loc) = locs at hS ⊢
  obtain ⟨H, eH⟩ : ∃ z : Heap, z = s.heap := ⟨_, rfl⟩
  have hP : va_P (dC, dI) vwCl (wM cI cZ md yth ybd yro yrow ymk yrm yst ypc ybu ybn ymg ysp yjn ymd ybg ymm yup yun) H := by rw [eH]; exact hP
  have hS : va_S A s.heap H locs := by rw [eH]; exact hS
  refine z_heap eH ?_
  have hl := lv_entry ([.ref (md 0), .int p1]) (n := 2) (Nat.le_of_ble_eq_true rfl)
  rw [lg_entry_eq]
  generalize (lg_sl ([.ref (md 0), .int p1]) ++ List.replicate (2 - (lg_sl ([.ref (md 0), .int p1])).length) Slot.unset).toArray = ls at hl ⊢
  have hl : lv_has ls 2 [(0, .ref (md 0)), (1, .int p1)] := hl
  have zw0 := hts (.fieldLink RX3 45 "LearnedLedgeModel" "leastUnder" "J") (List.mem_cons_of_mem _ (List.mem_append_left _ (List.mem_of_getElem? (i := 0) rfl)))
  have ziX3 : ∀ w ∈ u_ws RX3 TX3 18, w ∈ wsX3_runOf := (fun _ h9 => (List.mem_cons_of_mem _ (List.mem_append_right _ h9)))
  refine lv_aload_n hx hb dX3_runOf_0 rfl (lv_at hl 0 rfl) ?_
  refine lv_iload_n hx hb dX3_runOf_1 rfl (lv_at hl 1 rfl) ?_
  obtain ⟨⟨yup2, yun2⟩, h_2, hm⟩ := ob hm
  refine z_callWv (wc := (wM cI cZ md yth ybd yro yrow ymk yrm yst ypc ybu ybn ymg ysp yjn ymd ybg ymm yup yun)) (w1 := (wM cI cZ md yth ybd yro yrow ymk yrm yst ypc ybu ybn ymg ysp yjn ymd ybg ymm yup2 yun2)) (ws := (wM cI cZ md yth ybd yro yrow ymk yrm yst ypc ybu ybn ymg ysp yjn ymd ybg ymm yup yun)) (ws' := (wM cI cZ md yth ybd yro yrow ymk yrm yst ypc ybu ybn ymg ysp yjn ymd ybg ymm yup2 yun2)) (As := [.int p1]) (rest := []) (ci := 3) (q := (RX3, TX3, 18)) ⟨hx, hb, hml, hown, hts⟩ (c_X3_lays l dC dI cI cZ md yth ybd yro yrow ymk yrm yst ypc ybu ybn ymg ysp yjn ymd ybg ymm yup yun F p1 H.size yup2 yun2 h_2) (cwV 1 hts gX3_runOf_X3_lays rfl rfl rfl kv_X3_lays ⟨Nat.le_of_ble_eq_true rfl, Nat.le_of_ble_eq_true rfl⟩) hK hP hD hS hA (z_spAll (wM cI cZ md yth ybd yro yrow ymk yrm yst ypc ybu ybn ymg ysp yjn ymd ybg ymm yup yun) (wM cI cZ md yth ybd yro yrow ymk yrm yst ypc ybu ybn ymg ysp yjn ymd ybg ymm yup2 yun2)) ((paM cI cZ md yth ybd yro yrow ymk yrm yst ypc ybu ybn ymg ysp yjn ymd ybg ymm yup2 yun2).trans (paM cI cZ md yth ybd yro yrow ymk yrm yst ypc ybu ybn ymg ysp yjn ymd ybg ymm yup yun).symm) rfl rfl rfl rfl hl.1 rfl (Nat.le_of_ble_eq_true rfl) dX3_runOf_2 ⟨Nat.zero_le _, Nat.zero_le _⟩ (fun H locs hP hD hS => ?_)
  refine lv_aload_n hx hb dX3_runOf_5 rfl (lv_at hl 0 rfl) ?_
  refine va_get (D := (dC, dI)) (ci := 3) (v := .long yun2) (C := RX3) (T := TX3) (N := 18) hx hb hts ziX3 hown hK hP 0 rfl rfl 17 (by decide) zw0 (fun _ h9 => h9) rfl dX3_runOf_6 ?_
  refine lv_l2i hx hb dX3_runOf_9 rfl ?_
  cases o2 hm
  exact W.iret hx hb hr (fun t ht hW => ⟨⟨_, (), rfl, rfl, by rw [ht]; exact hP, va_K.moved hW.alike hK, hD⟩, hS.F ht⟩) hS.2.2 dX3_runOf_10
