set_option maxHeartbeats 4000000 in
set_option maxRecDepth 100000 in
theorem c_X3_fits_made (l : Launch) (dC : Nat → ClassId) (dI : Nat → Nat → Nat) (cI : ClassId) (cZ : ClassId) (md : Nat → Nat) (yth : Int32) (ybd : Int32) (yro : Int32) (yrow : Nat → Int32) (ymk : Nat → Int32) (yrm : Int32) (yst : Nat → Int32) (ypc : Int32) (ybu : Nat → Int32) (ybn : Int32) (ymg : Int32) (ysp : Int32) (yjn : Int32) (ymd : Nat → Int32) (ybg : Nat → Int32) (ymm : Int32) (yup : Int64) (yun : Int64) (F : Nat) (p2 : Int32) (p3 : Int32) (sz : Nat) (r : Int32) (u_yup : Int64) (u_yun : Int64) (hm : X3_fits_made F ybd ymd yup yun p2 p3 = some (r, u_yup, u_yun)) : Met l yX3_fits wsX3_fits ({ frames := 0, cells := 0, slots := 0, locals := 0 }) (va_Pc [.ref (md 0), .ref (md 5), .int p2, .int p3] (zW (dC, dI) (wM cI cZ md yth ybd yro yrow ymk yrm yst ypc ybu ybn ymg ysp yjn ymd ybg ymm yup yun) [(cI, .int), (cZ, .boolean)] sz)) (zQi (dC, dI) (wM cI cZ md yth ybd yro yrow ymk yrm yst ypc ybu ybn ymg ysp yjn ymd ybg ymm u_yup u_yun) [(cI, .int), (cZ, .boolean)] (va_A (wM cI cZ md yth ybd yro yrow ymk yrm yst ypc ybu ybn ymg ysp yjn ymd ybg ymm yup yun) sz) r) 0 0 (va_A (wM cI cZ md yth ybd yro yrow ymk yrm yst ypc ybu ybn ymg ysp yjn ymd ybg ymm yup yun) sz) := by
  refine Met.ofW (cc := cX3_fits) (maxL := 13) (ret := (some .boolean)) (by decide) rfl ?_
  intro p e s m args below meth c s₁ B hml hv
  obtain ⟨rfl, hsz, hP, hK, hD0⟩ := hv
  have hx := B.exec
  have hb := B.bytes
  have hr := B.returns
  have hts := atoms_spec (ws := wsX3_fits) B.pre
  have hown : s.vm.findClass RX3 = some m.cls := findClass_of_methodNamed B.named
  have hlocks := B.notSynchronized
  subst hsz
  have hD := hD0.self (sz := s.heap.size)
  generalize hAe : va_A (wM cI cZ md yth ybd yro yrow ymk yrm yst ypc ybu ybn ymg ysp yjn ymd ybg ymm yup yun) s.heap.size = A at hD ⊢
  have hA : ∀ q : Nat, s.heap.size ≤ q → A q := fun q h => by rw [← hAe]; exact Or.inr h
  have hS : va_S A s.heap s.heap [] := va_S.rf
  generalize eL : ([] : List Loc) = locs at hS ⊢
  obtain ⟨H, eH⟩ : ∃ z : Heap, z = s.heap := ⟨_, rfl⟩
  have hP : va_P (dC, dI) vwCl (wM cI cZ md yth ybd yro yrow ymk yrm yst ypc ybu ybn ymg ysp yjn ymd ybg ymm yup yun) H := by rw [eH]; exact hP
  have hS : va_S A s.heap H locs := by rw [eH]; exact hS
  refine z_heap eH ?_
  have hl := lv_entry ([.ref (md 0), .ref (md 5), .int p2, .int p3]) (n := 13) (Nat.le_of_ble_eq_true rfl)
  rw [lg_entry_eq]
  generalize (lg_sl ([.ref (md 0), .ref (md 5), .int p2, .int p3]) ++ List.replicate (13 - (lg_sl ([.ref (md 0), .ref (md 5), .int p2, .int p3])).length) Slot.unset).toArray = ls at hl ⊢
  have hl : lv_has ls 13 [(0, .ref (md 0)), (1, .ref (md 5)), (2, .int p2), (3, .int p3)] := hl
  have zw0 := hts (.fieldLink RX3 41 "LearnedLedgeModel" "leastUp" "J") (List.mem_cons_of_mem _ (List.mem_append_left _ (List.mem_of_getElem? (i := 0) rfl)))
  have zw1 := hts (.fieldLink RX3 45 "LearnedLedgeModel" "leastUnder" "J") (List.mem_cons_of_mem _ (List.mem_append_left _ (List.mem_of_getElem? (i := 1) rfl)))
  have zw2 := hts (.fieldLink RX3 7 "LearnedLedgeModel" "bound" "I") (List.mem_cons_of_mem _ (List.mem_append_left _ (List.mem_of_getElem? (i := 2) rfl)))
  have ziX3 : ∀ w ∈ u_ws RX3 TX3 18, w ∈ wsX3_fits := (fun _ h9 => (List.mem_cons_of_mem _ (List.mem_append_right _ h9)))
  refine lv_aload_n hx hb dX3_fits_0 rfl (lv_at hl 0 rfl) ?_
  refine lv_lconst (v := 0) hx hb dX3_fits_1 (by decide) ?_
  refine va_put (D := (dC, dI)) (ci := 3) (v := .long 0) (ty := .long) (C := RX3) (T := TX3) (N := 18) hx hb hts ziX3 tyX3 tyX3_ok nmX3 hown hK hP hD hS 0 rfl rfl 16 (by decide) zw0 (fun _ h9 => h9) rfl (by decide +kernel) rfl rfl (Nat.le_of_ble_eq_true rfl) dX3_fits_2 (fun H locs hP hD hS => ?_)
  have hP : va_P (dC, dI) vwCl (wM cI cZ md yth ybd yro yrow ymk yrm yst ypc ybu ybn ymg ysp yjn ymd ybg ymm 0 yun) H := hP
  have hD : va_D A (wM cI cZ md yth ybd yro yrow ymk yrm yst ypc ybu ybn ymg ysp yjn ymd ybg ymm 0 yun) := hD
  refine lv_aload_n hx hb dX3_fits_5 rfl (lv_at hl 0 rfl) ?_
  refine lv_lconst (v := 1) hx hb dX3_fits_6 (by decide) ?_
  refine va_put (D := (dC, dI)) (ci := 3) (v := .long 1) (ty := .long) (C := RX3) (T := TX3) (N := 18) hx hb hts ziX3 tyX3 tyX3_ok nmX3 hown hK hP hD hS 0 rfl rfl 17 (by decide) zw1 (fun _ h9 => h9) rfl (by decide +kernel) rfl rfl (Nat.le_of_ble_eq_true rfl) dX3_fits_7 (fun H locs hP hD hS => ?_)
  have hP : va_P (dC, dI) vwCl (wM cI cZ md yth ybd yro yrow ymk yrm yst ypc ybu ybn ymg ysp yjn ymd ybg ymm 0 1) H := hP
  have hD : va_D A (wM cI cZ md yth ybd yro yrow ymk yrm yst ypc ybu ybn ymg ysp yjn ymd ybg ymm 0 1) := hD
  refine lv_lconst (v := 0) hx hb dX3_fits_10 (by decide) ?_
  refine lv_lstore (lv' := [(4, .long 0), (0, .ref (md 0)), (1, .ref (md 5)), (2, .int p2), (3, .int p3)]) hx hb dX3_fits_11 hl (by decide) rfl (fun ls hl => ?_)
  refine lv_lconst (v := 0) hx hb dX3_fits_13 (by decide) ?_
  refine lv_lstore (lv' := [(6, .long 0), (4, .long 0), (0, .ref (md 0)), (1, .ref (md 5)), (2, .int p2), (3, .int p3)]) hx hb dX3_fits_14 hl (by decide) rfl (fun ls hl => ?_)
  refine lv_iload_n hx hb dX3_fits_16 rfl (lv_at hl 4 rfl) ?_
  refine lv_iconst (v := 1) hx hb dX3_fits_17 (by decide) ?_
  refine lv_iadd hx hb dX3_fits_18 ?_
  refine lv_topi (fun x8 e_x8 => ?_)
  have hm := bnd_e hm e_x8
  refine lv_istore (lv' := [(8, .int x8), (6, .long 0), (4, .long 0), (0, .ref (md 0)), (1, .ref (md 5)), (2, .int p2), (3, .int p3)]) hx hb dX3_fits_19 hl (by decide) rfl (fun ls hl => ?_)
  obtain ⟨z_21, hq_21, hm⟩ := ob hm
  have K_21 : ∀ (x6_1 : Int64), ∀ (x4_3 : Int64), ∀ (yupx21 : Int64), ∀ (yunx21 : Int64), z_21 = (x6_1, x4_3, yupx21, yunx21) → ∀ (H : Heap) (locs : List Loc), va_P (dC, dI) vwCl (wM cI cZ md yth ybd yro yrow ymk yrm yst ypc ybu ybn ymg ysp yjn ymd ybg ymm yupx21 yunx21) H → va_D A (wM cI cZ md yth ybd yro yrow ymk yrm yst ypc ybu ybn ymg ysp yjn ymd ybg ymm yupx21 yunx21) → va_S A s.heap H locs → ∀ (ls : Array Slot), lv_has ls 13 [(6, .long x6_1), (4, .long x4_3), (0, .ref (md 0))] → W p l e (headSpec wsX3_fits ({ frames := 0, cells := 0, slots := 0, locals := 0 } : Room)).room s m ([.ref (md 0), .ref (md 5), .int p2, .int p3] : List Value).toArray below meth c H locs 0 0 (MQ below (zQi (dC, dI) (wM cI cZ md yth ybd yro yrow ymk yrm yst ypc ybu ybn ymg ysp yjn ymd ybg ymm u_yup u_yun) [(cI, .int), (cZ, .boolean)] A r) ([.ref (md 0), .ref (md 5), .int p2, .int p3] : List Value).toArray s 0 0 A) (F0 m 135 ls []) := by
    intro x6_1 x4_3 yupx21 yunx21 ez H locs hP hD hS ls hl
    rw [ez] at hm
    refine lv_lload hx hb dX3_fits_135 (lv_at hl 0 rfl) ?_
    refine lv_lconst (v := 0) hx hb dX3_fits_137 (by decide) ?_
    refine W.lcmp hx hb dX3_fits_138 ?_
    refine lv_if_eq (tgt := 160) hx hb dX3_fits_139 (by decide) (fun c_139 => ?_) (fun c_139 => ?_)
    · have c_139 : x6_1 = 0 := (lg_cmp_eq _ _).mp c_139
      have hm := it_t hm c_139
      refine lv_iconst (v := 1) hx hb dX3_fits_160 (by decide) ?_
      refine lv_goto (tgt := 165) hx hb dX3_fits_161 (by decide) ?_
      cases o2 hm
      exact W.zret hx hb hr rfl (fun t ht hW => ⟨⟨_, (), rfl, rfl, by rw [ht]; exact hP, va_K.moved hW.alike hK, hD⟩, hS.F ht⟩) hS.2.2 dX3_fits_165
    · have c_139 : ¬ (x6_1 = 0) := fun h => c_139 ((lg_cmp_eq _ _).mpr h)
      have hm := it_f hm c_139
      refine lv_aload_n hx hb dX3_fits_142 rfl (lv_at hl 2 rfl) ?_
      refine va_get (D := (dC, dI)) (ci := 3) (v := .long yupx21) (C := RX3) (T := TX3) (N := 18) hx hb hts ziX3 hown hK hP 0 rfl rfl 16 (by decide) zw0 (fun _ h9 => h9) rfl dX3_fits_143 ?_
      refine lv_lload hx hb dX3_fits_146 (lv_at hl 0 rfl) ?_
      refine lv_lmul hx hb dX3_fits_148 ?_
      refine lv_lload hx hb dX3_fits_149 (lv_at hl 1 rfl) ?_
      refine lv_aload_n hx hb dX3_fits_151 rfl (lv_at hl 2 rfl) ?_
      refine va_get (D := (dC, dI)) (ci := 3) (v := .long yunx21) (C := RX3) (T := TX3) (N := 18) hx hb hts ziX3 hown hK hP 0 rfl rfl 17 (by decide) zw1 (fun _ h9 => h9) rfl dX3_fits_152 ?_
      refine lv_lmul hx hb dX3_fits_155 ?_
      refine W.lcmp hx hb dX3_fits_156 ?_
      refine lv_if_gt (tgt := 164) hx hb dX3_fits_157 (by decide) (fun c_157 => ?_) (fun c_157 => ?_)
      · have c_157 : (x4_3 * yunx21) < (yupx21 * x6_1) := (lg_cmp_gt _ _).mp c_157
        have hm := it_t hm c_157
        refine lv_iconst (v := 0) hx hb dX3_fits_164 (by decide) ?_
        cases o2 hm
        exact W.zret hx hb hr rfl (fun t ht hW => ⟨⟨_, (), rfl, rfl, by rw [ht]; exact hP, va_K.moved hW.alike hK, hD⟩, hS.F ht⟩) hS.2.2 dX3_fits_165
      · have c_157 : ¬ ((x4_3 * yunx21) < (yupx21 * x6_1)) := fun h => c_157 ((lg_cmp_gt _ _).mpr h)
        have hm := it_f hm c_157
        refine lv_iconst (v := 1) hx hb dX3_fits_160 (by decide) ?_
        refine lv_goto (tgt := 165) hx hb dX3_fits_161 (by decide) ?_
        cases o2 hm
        exact W.zret hx hb hr rfl (fun t ht hW => ⟨⟨_, (), rfl, rfl, by rw [ht]; exact hP, va_K.moved hW.alike hK, hD⟩, hS.F ht⟩) hS.2.2 dX3_fits_165
  have L_21 : ∀ (n : Nat) (x8_1 : Int32) (x6 : Int64) (x4 : Int64) (yupl21 : Int64) (yunl21 : Int64), X3_fits_made_L21 p2 p3 ybd ymd n x8_1 x6 x4 yupl21 yunl21 = some z_21 → ∀ (H : Heap) (locs : List Loc), va_P (dC, dI) vwCl (wM cI cZ md yth ybd yro yrow ymk yrm yst ypc ybu ybn ymg ysp yjn ymd ybg ymm yupl21 yunl21) H → va_D A (wM cI cZ md yth ybd yro yrow ymk yrm yst ypc ybu ybn ymg ysp yjn ymd ybg ymm yupl21 yunl21) → va_S A s.heap H locs → ∀ (ls : Array Slot), lv_has ls 13 [(8, .int x8_1), (6, .long x6), (4, .long x4), (0, .ref (md 0)), (1, .ref (md 5)), (2, .int p2), (3, .int p3)] → W p l e (headSpec wsX3_fits ({ frames := 0, cells := 0, slots := 0, locals := 0 } : Room)).room s m ([.ref (md 0), .ref (md 5), .int p2, .int p3] : List Value).toArray below meth c H locs 0 0 (MQ below (zQi (dC, dI) (wM cI cZ md yth ybd yro yrow ymk yrm yst ypc ybu ybn ymg ysp yjn ymd ybg ymm u_yup u_yun) [(cI, .int), (cZ, .boolean)] A r) ([.ref (md 0), .ref (md 5), .int p2, .int p3] : List Value).toArray s 0 0 A) (F0 m 21 ls []) := by
    intro n
    induction n with
    | zero => intro x8_1 x6 x4 yupl21 yunl21 hm; cases hm
    | succ n ih_21 =>
      intro x8_1 x6 x4 yupl21 yunl21 hm H locs hP hD hS ls hl
      refine lv_iload hx hb dX3_fits_21 (lv_at hl 0 rfl) ?_
      refine lv_iload_n hx hb dX3_fits_23 rfl (lv_at hl 6 rfl) ?_
      refine lv_icmp_ge (tgt := 135) hx hb dX3_fits_24 (by decide) (fun c_24 => ?_) (fun c_24 => ?_)
      · have hm := it_t hm c_24
        exact K_21 x6 x4 yupl21 yunl21 (o2 hm) _ _ hP hD hS _ (lv_sub hl [1, 2, 3] rfl)
      · have hm := it_f hm c_24
        refine lv_aload_n hx hb dX3_fits_27 rfl (lv_at hl 4 rfl) ?_
        refine lv_iload hx hb dX3_fits_28 (lv_at hl 0 rfl) ?_
        obtain ⟨c_30, hm⟩ := ck hm
        refine va_iald hx hb hK hP 5 0 rfl rfl c_30 dX3_fits_30 ?_
        refine lv_i2l hx hb dX3_fits_31 rfl ?_
        refine lv_aload_n hx hb dX3_fits_32 rfl (lv_at hl 4 rfl) ?_
        refine lv_iload_n hx hb dX3_fits_33 rfl (lv_at hl 5 rfl) ?_
        obtain ⟨c_34, hm⟩ := ck hm
        refine va_iald hx hb hK hP 5 0 rfl rfl c_34 dX3_fits_34 ?_
        refine lv_i2l hx hb dX3_fits_35 rfl ?_
        refine lv_lsub hx hb dX3_fits_36 ?_
        refine lv_topl (fun x9 e_x9 => ?_)
        have hm := bnd_e hm e_x9
        refine lv_lstore (lv' := [(9, .long x9), (8, .int x8_1), (6, .long x6), (4, .long x4), (0, .ref (md 0)), (1, .ref (md 5)), (2, .int p2), (3, .int p3)]) hx hb dX3_fits_37 hl (by decide) rfl (fun ls hl => ?_)
        refine lv_iload hx hb dX3_fits_39 (lv_at hl 1 rfl) ?_
        refine lv_iload_n hx hb dX3_fits_41 rfl (lv_at hl 6 rfl) ?_
        refine lv_isub hx hb dX3_fits_42 ?_
        refine lv_i2l hx hb dX3_fits_43 rfl ?_
        refine lv_topl (fun x11 e_x11 => ?_)
        have hm := bnd_e hm e_x11
        refine lv_lstore (lv' := [(11, .long x11), (9, .long x9), (8, .int x8_1), (6, .long x6), (4, .long x4), (0, .ref (md 0)), (1, .ref (md 5)), (2, .int p2), (3, .int p3)]) hx hb dX3_fits_44 hl (by decide) rfl (fun ls hl => ?_)
        refine lv_lload hx hb dX3_fits_46 (lv_at hl 0 rfl) ?_
        refine lv_aload_n hx hb dX3_fits_48 rfl (lv_at hl 5 rfl) ?_
        refine va_get (D := (dC, dI)) (ci := 3) (v := .int ybd) (C := RX3) (T := TX3) (N := 18) hx hb hts ziX3 hown hK hP 0 rfl rfl 1 (by decide) zw2 (fun _ h9 => h9) rfl dX3_fits_49 ?_
        refine lv_i2l hx hb dX3_fits_52 rfl ?_
        refine lv_lsub hx hb dX3_fits_53 ?_
        refine lv_aload_n hx hb dX3_fits_54 rfl (lv_at hl 5 rfl) ?_
        refine va_get (D := (dC, dI)) (ci := 3) (v := .long yunl21) (C := RX3) (T := TX3) (N := 18) hx hb hts ziX3 hown hK hP 0 rfl rfl 17 (by decide) zw1 (fun _ h9 => h9) rfl dX3_fits_55 ?_
        refine lv_lmul hx hb dX3_fits_58 ?_
        refine lv_aload_n hx hb dX3_fits_59 rfl (lv_at hl 5 rfl) ?_
        refine va_get (D := (dC, dI)) (ci := 3) (v := .long yupl21) (C := RX3) (T := TX3) (N := 18) hx hb hts ziX3 hown hK hP 0 rfl rfl 16 (by decide) zw0 (fun _ h9 => h9) rfl dX3_fits_60 ?_
        refine lv_lload hx hb dX3_fits_63 (lv_at hl 1 rfl) ?_
        refine lv_lmul hx hb dX3_fits_65 ?_
        refine W.lcmp hx hb dX3_fits_66 ?_
        obtain ⟨z_88, hq_88, hm⟩ := ob hm
        have J_88 : ∀ (yupj88 : Int64), ∀ (yunj88 : Int64), z_88 = (yupj88, yunj88) → ∀ (H : Heap) (locs : List Loc), va_P (dC, dI) vwCl (wM cI cZ md yth ybd yro yrow ymk yrm yst ypc ybu ybn ymg ysp yjn ymd ybg ymm yupj88 yunj88) H → va_D A (wM cI cZ md yth ybd yro yrow ymk yrm yst ypc ybu ybn ymg ysp yjn ymd ybg ymm yupj88 yunj88) → va_S A s.heap H locs → W p l e (headSpec wsX3_fits ({ frames := 0, cells := 0, slots := 0, locals := 0 } : Room)).room s m ([.ref (md 0), .ref (md 5), .int p2, .int p3] : List Value).toArray below meth c H locs 0 0 (MQ below (zQi (dC, dI) (wM cI cZ md yth ybd yro yrow ymk yrm yst ypc ybu ybn ymg ysp yjn ymd ybg ymm u_yup u_yun) [(cI, .int), (cZ, .boolean)] A r) ([.ref (md 0), .ref (md 5), .int p2, .int p3] : List Value).toArray s 0 0 A) (F0 m 88 ls []) := by
          intro yupj88 yunj88 ez H locs hP hD hS
          rw [ez] at hm
          refine lv_lload hx hb dX3_fits_88 (lv_at hl 3 rfl) ?_
          refine lv_lconst (v := 0) hx hb dX3_fits_90 (by decide) ?_
          refine W.lcmp hx hb dX3_fits_91 ?_
          refine lv_if_eq (tgt := 115) hx hb dX3_fits_92 (by decide) (fun c_92 => ?_) (fun c_92 => ?_)
          · have c_92 : x6 = 0 := (lg_cmp_eq _ _).mp c_92
            have hm := it_t hm c_92
            refine lv_lload hx hb dX3_fits_115 (lv_at hl 0 rfl) ?_
            refine lv_aload_n hx hb dX3_fits_117 rfl (lv_at hl 5 rfl) ?_
            refine va_get (D := (dC, dI)) (ci := 3) (v := .int ybd) (C := RX3) (T := TX3) (N := 18) hx hb hts ziX3 hown hK hP 0 rfl rfl 1 (by decide) zw2 (fun _ h9 => h9) rfl dX3_fits_118 ?_
            refine lv_i2l hx hb dX3_fits_121 rfl ?_
            refine lv_ladd hx hb dX3_fits_122 ?_
            refine lv_topl (fun x4_1 e_x4_1 => ?_)
            have hm := bnd_e hm e_x4_1
            refine lv_lstore (lv' := [(4, .long x4_1), (11, .long x11), (9, .long x9), (8, .int x8_1), (6, .long x6), (0, .ref (md 0)), (1, .ref (md 5)), (2, .int p2), (3, .int p3)]) hx hb dX3_fits_123 hl (by decide) rfl (fun ls hl => ?_)
            refine lv_lload hx hb dX3_fits_125 (lv_at hl 2 rfl) ?_
            refine lv_lstore (lv' := [(6, .long x9), (4, .long x4_1), (11, .long x11), (9, .long x9), (8, .int x8_1), (0, .ref (md 0)), (1, .ref (md 5)), (2, .int p2), (3, .int p3)]) hx hb dX3_fits_127 hl (by decide) rfl (fun ls hl => ?_)
            obtain ⟨x8_2, e_x8_2⟩ : ∃ y : Int32, y = x8_1 + 1 := ⟨_, rfl⟩
            have hm := bnd_e hm e_x8_2
            refine lv_iinc (v := x8_2) (lv' := [(8, .int x8_2), (6, .long x9), (4, .long x4_1), (11, .long x11), (9, .long x9), (0, .ref (md 0)), (1, .ref (md 5)), (2, .int p2), (3, .int p3)]) hx hb dX3_fits_129 hl (k := 4) rfl (by rw [e_x8_2]; rfl) (by decide) rfl (fun ls hl => ?_)
            refine lv_goto (tgt := 21) hx hb dX3_fits_132 (by decide) ?_
            exact ih_21 x8_2 x9 x4_1 yupj88 yunj88 hm _ _ hP hD hS _ (lv_sub hl [0, 1, 2, 5, 6, 7, 8] rfl)
          · have c_92 : ¬ (x6 = 0) := fun h => c_92 ((lg_cmp_eq _ _).mpr h)
            have hm := it_f hm c_92
            refine lv_lload hx hb dX3_fits_95 (lv_at hl 0 rfl) ?_
            refine lv_aload_n hx hb dX3_fits_97 rfl (lv_at hl 5 rfl) ?_
            refine va_get (D := (dC, dI)) (ci := 3) (v := .int ybd) (C := RX3) (T := TX3) (N := 18) hx hb hts ziX3 hown hK hP 0 rfl rfl 1 (by decide) zw2 (fun _ h9 => h9) rfl dX3_fits_98 ?_
            refine lv_i2l hx hb dX3_fits_101 rfl ?_
            refine lv_ladd hx hb dX3_fits_102 ?_
            refine lv_lload hx hb dX3_fits_103 (lv_at hl 3 rfl) ?_
            refine lv_lmul hx hb dX3_fits_105 ?_
            refine lv_lload hx hb dX3_fits_106 (lv_at hl 4 rfl) ?_
            refine lv_lload hx hb dX3_fits_108 (lv_at hl 1 rfl) ?_
            refine lv_lmul hx hb dX3_fits_110 ?_
            refine W.lcmp hx hb dX3_fits_111 ?_
            refine lv_if_ge (tgt := 129) hx hb dX3_fits_112 (by decide) (fun c_112 => ?_) (fun c_112 => ?_)
            · have c_112 : (x4 * x9) ≤ ((x11 + (Int32.toInt64 ybd)) * x6) := (lg_cmp_ge _ _).mp c_112
              have hm := it_t hm c_112
              obtain ⟨x8_3, e_x8_3⟩ : ∃ y : Int32, y = x8_1 + 1 := ⟨_, rfl⟩
              have hm := bnd_e hm e_x8_3
              refine lv_iinc (v := x8_3) (lv' := [(8, .int x8_3), (11, .long x11), (9, .long x9), (6, .long x6), (4, .long x4), (0, .ref (md 0)), (1, .ref (md 5)), (2, .int p2), (3, .int p3)]) hx hb dX3_fits_129 hl (k := 2) rfl (by rw [e_x8_3]; rfl) (by decide) rfl (fun ls hl => ?_)
              refine lv_goto (tgt := 21) hx hb dX3_fits_132 (by decide) ?_
              exact ih_21 x8_3 x6 x4 yupj88 yunj88 hm _ _ hP hD hS _ (lv_sub hl [0, 3, 4, 5, 6, 7, 8] rfl)
            · have c_112 : ¬ ((x4 * x9) ≤ ((x11 + (Int32.toInt64 ybd)) * x6)) := fun h => c_112 ((lg_cmp_ge _ _).mpr h)
              have hm := it_f hm c_112
              refine lv_lload hx hb dX3_fits_115 (lv_at hl 0 rfl) ?_
              refine lv_aload_n hx hb dX3_fits_117 rfl (lv_at hl 5 rfl) ?_
              refine va_get (D := (dC, dI)) (ci := 3) (v := .int ybd) (C := RX3) (T := TX3) (N := 18) hx hb hts ziX3 hown hK hP 0 rfl rfl 1 (by decide) zw2 (fun _ h9 => h9) rfl dX3_fits_118 ?_
              refine lv_i2l hx hb dX3_fits_121 rfl ?_
              refine lv_ladd hx hb dX3_fits_122 ?_
              refine lv_topl (fun x4_2 e_x4_2 => ?_)
              have hm := bnd_e hm e_x4_2
              refine lv_lstore (lv' := [(4, .long x4_2), (11, .long x11), (9, .long x9), (8, .int x8_1), (6, .long x6), (0, .ref (md 0)), (1, .ref (md 5)), (2, .int p2), (3, .int p3)]) hx hb dX3_fits_123 hl (by decide) rfl (fun ls hl => ?_)
              refine lv_lload hx hb dX3_fits_125 (lv_at hl 2 rfl) ?_
              refine lv_lstore (lv' := [(6, .long x9), (4, .long x4_2), (11, .long x11), (9, .long x9), (8, .int x8_1), (0, .ref (md 0)), (1, .ref (md 5)), (2, .int p2), (3, .int p3)]) hx hb dX3_fits_127 hl (by decide) rfl (fun ls hl => ?_)
              obtain ⟨x8_4, e_x8_4⟩ : ∃ y : Int32, y = x8_1 + 1 := ⟨_, rfl⟩
              have hm := bnd_e hm e_x8_4
              refine lv_iinc (v := x8_4) (lv' := [(8, .int x8_4), (6, .long x9), (4, .long x4_2), (11, .long x11), (9, .long x9), (0, .ref (md 0)), (1, .ref (md 5)), (2, .int p2), (3, .int p3)]) hx hb dX3_fits_129 hl (k := 4) rfl (by rw [e_x8_4]; rfl) (by decide) rfl (fun ls hl => ?_)
              refine lv_goto (tgt := 21) hx hb dX3_fits_132 (by decide) ?_
              exact ih_21 x8_4 x9 x4_2 yupj88 yunj88 hm _ _ hP hD hS _ (lv_sub hl [0, 1, 2, 5, 6, 7, 8] rfl)
        have hm := hq_88
        refine lv_if_le (tgt := 88) hx hb dX3_fits_67 (by decide) (fun c_67 => ?_) (fun c_67 => ?_)
        · have c_67 : ((x11 - (Int32.toInt64 ybd)) * yunl21) ≤ (yupl21 * x9) := (lg_cmp_le _ _).mp c_67
          have hm := it_t hm c_67
          exact J_88 yupl21 yunl21 (o2 hm) _ _ hP hD hS
        · have c_67 : ¬ (((x11 - (Int32.toInt64 ybd)) * yunl21) ≤ (yupl21 * x9)) := fun h => c_67 ((lg_cmp_le _ _).mpr h)
          have hm := it_f hm c_67
          refine lv_aload_n hx hb dX3_fits_70 rfl (lv_at hl 5 rfl) ?_
          refine lv_lload hx hb dX3_fits_71 (lv_at hl 0 rfl) ?_
          refine lv_aload_n hx hb dX3_fits_73 rfl (lv_at hl 5 rfl) ?_
          refine va_get (D := (dC, dI)) (ci := 3) (v := .int ybd) (C := RX3) (T := TX3) (N := 18) hx hb hts ziX3 hown hK hP 0 rfl rfl 1 (by decide) zw2 (fun _ h9 => h9) rfl dX3_fits_74 ?_
          refine lv_i2l hx hb dX3_fits_77 rfl ?_
          refine lv_lsub hx hb dX3_fits_78 ?_
          refine va_put (D := (dC, dI)) (ci := 3) (v := .long (x11 - (Int32.toInt64 ybd))) (ty := .long) (C := RX3) (T := TX3) (N := 18) hx hb hts ziX3 tyX3 tyX3_ok nmX3 hown hK hP hD hS 0 rfl rfl 16 (by decide) zw0 (fun _ h9 => h9) rfl (by decide +kernel) rfl rfl (Nat.le_of_ble_eq_true rfl) dX3_fits_79 (fun H locs hP hD hS => ?_)
          have hP : va_P (dC, dI) vwCl (wM cI cZ md yth ybd yro yrow ymk yrm yst ypc ybu ybn ymg ysp yjn ymd ybg ymm (x11 - (Int32.toInt64 ybd)) yunl21) H := hP
          have hD : va_D A (wM cI cZ md yth ybd yro yrow ymk yrm yst ypc ybu ybn ymg ysp yjn ymd ybg ymm (x11 - (Int32.toInt64 ybd)) yunl21) := hD
          refine lv_aload_n hx hb dX3_fits_82 rfl (lv_at hl 5 rfl) ?_
          refine lv_lload hx hb dX3_fits_83 (lv_at hl 1 rfl) ?_
          refine va_put (D := (dC, dI)) (ci := 3) (v := .long x9) (ty := .long) (C := RX3) (T := TX3) (N := 18) hx hb hts ziX3 tyX3 tyX3_ok nmX3 hown hK hP hD hS 0 rfl rfl 17 (by decide) zw1 (fun _ h9 => h9) rfl (by decide +kernel) rfl rfl (Nat.le_of_ble_eq_true rfl) dX3_fits_85 (fun H locs hP hD hS => ?_)
          have hP : va_P (dC, dI) vwCl (wM cI cZ md yth ybd yro yrow ymk yrm yst ypc ybu ybn ymg ysp yjn ymd ybg ymm (x11 - (Int32.toInt64 ybd)) x9) H := hP
          have hD : va_D A (wM cI cZ md yth ybd yro yrow ymk yrm yst ypc ybu ybn ymg ysp yjn ymd ybg ymm (x11 - (Int32.toInt64 ybd)) x9) := hD
          exact J_88 (x11 - (Int32.toInt64 ybd)) x9 (o2 hm) _ _ hP hD hS
  exact L_21 F x8 0 0 0 1 hq_21 _ _ hP hD hS _ (lv_sub hl [0, 1, 2, 3, 4, 5, 6] rfl)
set_option maxHeartbeats 4000000 in
set_option maxRecDepth 100000 in
theorem c_X3_cuts (l : Launch) (dC : Nat → ClassId) (dI : Nat → Nat → Nat) (cI : ClassId) (cZ : ClassId) (md : Nat → Nat) (yth : Int32) (ybd : Int32) (yro : Int32) (yrow : Nat → Int32) (ymk : Nat → Int32) (yrm : Int32) (yst : Nat → Int32) (ypc : Int32) (ybu : Nat → Int32) (ybn : Int32) (ymg : Int32) (ysp : Int32) (yjn : Int32) (ymd : Nat → Int32) (ybg : Nat → Int32) (ymm : Int32) (yup : Int64) (yun : Int64) (F : Nat) (p1 : Int32) (p2 : Int32) (sz : Nat) (r : Int32) (u_ybg : Nat → Int32) (u_yup : Int64) (u_yun : Int64) (hm : X3_cuts F ybd ymd ybg ymm yup yun p1 p2 = some (r, u_ybg, u_yup, u_yun)) : Met l yX3_cuts wsX3_cuts ({ frames := 1, cells := 0, slots := 0, locals := 32 }) (va_Pc [.ref (md 0), .int p1, .int p2] (zW (dC, dI) (wM cI cZ md yth ybd yro yrow ymk yrm yst ypc ybu ybn ymg ysp yjn ymd ybg ymm yup yun) [(cI, .int), (cZ, .boolean)] sz)) (zQi (dC, dI) (wM cI cZ md yth ybd yro yrow ymk yrm yst ypc ybu ybn ymg ysp yjn ymd u_ybg ymm u_yup u_yun) [(cI, .int), (cZ, .boolean)] (va_A (wM cI cZ md yth ybd yro yrow ymk yrm yst ypc ybu ybn ymg ysp yjn ymd ybg ymm yup yun) sz) r) 0 0 (va_A (wM cI cZ md yth ybd yro yrow ymk yrm yst ypc ybu ybn ymg ysp yjn ymd ybg ymm yup yun) sz) := by
  refine Met.ofW (cc := cX3_cuts) (maxL := 5) (ret := (some .int)) (by decide) rfl ?_
  intro p e s m args below meth c s₁ B hml hv
  obtain ⟨rfl, hsz, hP, hK, hD0⟩ := hv
  have hx := B.exec
  have hb := B.bytes
  have hr := B.returns
  have hts := atoms_spec (ws := wsX3_cuts) B.pre
  have hown : s.vm.findClass RX3 = some m.cls := findClass_of_methodNamed B.named
  have hlocks := B.notSynchronized
  subst hsz
  have hD := hD0.self (sz := s.heap.size)
  generalize hAe : va_A (wM cI cZ md yth ybd yro yrow ymk yrm yst ypc ybu ybn ymg ysp yjn ymd ybg ymm yup yun) s.heap.size = A at hD ⊢
  have hA : ∀ q : Nat, s.heap.size ≤ q → A q := fun q h => by rw [← hAe]; exact Or.inr h
  have hS : va_S A s.heap s.heap [] := va_S.rf
  generalize eL : ([] : List Loc) = locs at hS ⊢
  obtain ⟨H, eH⟩ : ∃ z : Heap, z = s.heap := ⟨_, rfl⟩
  have hP : va_P (dC, dI) vwCl (wM cI cZ md yth ybd yro yrow ymk yrm yst ypc ybu ybn ymg ysp yjn ymd ybg ymm yup yun) H := by rw [eH]; exact hP
  have hS : va_S A s.heap H locs := by rw [eH]; exact hS
  refine z_heap eH ?_
  have hl := lv_entry ([.ref (md 0), .int p1, .int p2]) (n := 5) (Nat.le_of_ble_eq_true rfl)
  rw [lg_entry_eq]
  generalize (lg_sl ([.ref (md 0), .int p1, .int p2]) ++ List.replicate (5 - (lg_sl ([.ref (md 0), .int p1, .int p2])).length) Slot.unset).toArray = ls at hl ⊢
  have hl : lv_has ls 5 [(0, .ref (md 0)), (1, .int p1), (2, .int p2)] := hl
  have zw0 := hts (.fieldLink RX3 102 "LearnedLedgeModel" "madeMany" "I") (List.mem_cons_of_mem _ (List.mem_append_left _ (List.mem_of_getElem? (i := 0) rfl)))
  have zw1 := hts (.fieldLink RX3 33 "LearnedLedgeModel" "begun" "[I") (List.mem_cons_of_mem _ (List.mem_append_left _ (List.mem_of_getElem? (i := 2) rfl)))
  have zw2 := hts (.fieldLink RX3 30 "LearnedLedgeModel" "made" "[I") (List.mem_cons_of_mem _ (List.mem_append_left _ (List.mem_of_getElem? (i := 1) rfl)))
  have ziX3 : ∀ w ∈ u_ws RX3 TX3 18, w ∈ wsX3_cuts := (fun _ h9 => (List.mem_cons_of_mem _ (List.mem_append_right _ h9)))
  refine lv_iload_n hx hb dX3_cuts_0 rfl (lv_at hl 2 rfl) ?_
  refine lv_istore_n (lv' := [(3, .int p2), (0, .ref (md 0)), (1, .int p1), (2, .int p2)]) hx hb dX3_cuts_1 rfl hl (by decide) rfl (fun ls hl => ?_)
  refine lv_iload_n hx hb dX3_cuts_2 rfl (lv_at hl 2 rfl) ?_
  refine lv_istore (lv' := [(4, .int p1), (3, .int p2), (0, .ref (md 0)), (1, .int p1), (2, .int p2)]) hx hb dX3_cuts_3 hl (by decide) rfl (fun ls hl => ?_)
  obtain ⟨z_5, hq_5, hm⟩ := ob hm
  have K_5 : ∀ (x3_3 : Int32), ∀ (ybgx5 : Nat → Int32), ∀ (yupx5 : Int64), ∀ (yunx5 : Int64), z_5 = (x3_3, ybgx5, yupx5, yunx5) → ∀ (H : Heap) (locs : List Loc), va_P (dC, dI) vwCl (wM cI cZ md yth ybd yro yrow ymk yrm yst ypc ybu ybn ymg ysp yjn ymd ybgx5 ymm yupx5 yunx5) H → va_D A (wM cI cZ md yth ybd yro yrow ymk yrm yst ypc ybu ybn ymg ysp yjn ymd ybgx5 ymm yupx5 yunx5) → va_S A s.heap H locs → ∀ (ls : Array Slot), lv_has ls 5 [(3, .int x3_3)] → W p l e (headSpec wsX3_cuts ({ frames := 1, cells := 0, slots := 0, locals := 32 } : Room)).room s m ([.ref (md 0), .int p1, .int p2] : List Value).toArray below meth c H locs 0 0 (MQ below (zQi (dC, dI) (wM cI cZ md yth ybd yro yrow ymk yrm yst ypc ybu ybn ymg ysp yjn ymd u_ybg ymm u_yup u_yun) [(cI, .int), (cZ, .boolean)] A r) ([.ref (md 0), .int p1, .int p2] : List Value).toArray s 0 0 A) (F0 m 59 ls []) := by
    intro x3_3 ybgx5 yupx5 yunx5 ez H locs hP hD hS ls hl
    rw [ez] at hm
    refine lv_iload_n hx hb dX3_cuts_59 rfl (lv_at hl 0 rfl) ?_
    cases o2 hm
    exact W.iret hx hb hr (fun t ht hW => ⟨⟨_, (), rfl, rfl, by rw [ht]; exact hP, va_K.moved hW.alike hK, hD⟩, hS.F ht⟩) hS.2.2 dX3_cuts_60
  have L_5 : ∀ (n : Nat) (x4 : Int32) (x3 : Int32) (ybgl5 : Nat → Int32) (yupl5 : Int64) (yunl5 : Int64), X3_cuts_L5 p2 ybd ymd ymm F n x4 x3 ybgl5 yupl5 yunl5 = some z_5 → ∀ (H : Heap) (locs : List Loc), va_P (dC, dI) vwCl (wM cI cZ md yth ybd yro yrow ymk yrm yst ypc ybu ybn ymg ysp yjn ymd ybgl5 ymm yupl5 yunl5) H → va_D A (wM cI cZ md yth ybd yro yrow ymk yrm yst ypc ybu ybn ymg ysp yjn ymd ybgl5 ymm yupl5 yunl5) → va_S A s.heap H locs → ∀ (ls : Array Slot), lv_has ls 5 [(4, .int x4), (3, .int x3), (0, .ref (md 0)), (2, .int p2)] → W p l e (headSpec wsX3_cuts ({ frames := 1, cells := 0, slots := 0, locals := 32 } : Room)).room s m ([.ref (md 0), .int p1, .int p2] : List Value).toArray below meth c H locs 0 0 (MQ below (zQi (dC, dI) (wM cI cZ md yth ybd yro yrow ymk yrm yst ypc ybu ybn ymg ysp yjn ymd u_ybg ymm u_yup u_yun) [(cI, .int), (cZ, .boolean)] A r) ([.ref (md 0), .int p1, .int p2] : List Value).toArray s 0 0 A) (F0 m 5 ls []) := by
    intro n
    induction n with
    | zero => intro x4 x3 ybgl5 yupl5 yunl5 hm; cases hm
    | succ n ih_5 =>
      intro x4 x3 ybgl5 yupl5 yunl5 hm H locs hP hD hS ls hl
      refine lv_iload hx hb dX3_cuts_5 (lv_at hl 0 rfl) ?_
      refine lv_aload_n hx hb dX3_cuts_7 rfl (lv_at hl 2 rfl) ?_
      refine va_get (D := (dC, dI)) (ci := 3) (v := .int ymm) (C := RX3) (T := TX3) (N := 18) hx hb hts ziX3 hown hK hP 0 rfl rfl 15 (by decide) zw0 (fun _ h9 => h9) rfl dX3_cuts_8 ?_
      refine lv_icmp_ge (tgt := 59) hx hb dX3_cuts_11 (by decide) (fun c_11 => ?_) (fun c_11 => ?_)
      · have hm := it_t hm c_11
        exact K_5 x3 ybgl5 yupl5 yunl5 (o2 hm) _ _ hP hD hS _ (lv_sub hl [1] rfl)
      · have hm := it_f hm c_11
        refine lv_iload_n hx hb dX3_cuts_14 rfl (lv_at hl 1 rfl) ?_
        refine lv_iload_n hx hb dX3_cuts_15 rfl (lv_at hl 3 rfl) ?_
        refine lv_icmp_eq (tgt := 42) hx hb dX3_cuts_16 (by decide) (fun c_16 => ?_) (fun c_16 => ?_)
        · have hm := it_t hm c_16
          refine lv_aload_n hx hb dX3_cuts_42 rfl (lv_at hl 2 rfl) ?_
          refine va_get (D := (dC, dI)) (ci := 3) (v := .ref (md 6)) (C := RX3) (T := TX3) (N := 18) hx hb hts ziX3 hown hK hP 0 rfl rfl 14 (by decide) zw1 (fun _ h9 => h9) rfl dX3_cuts_43 ?_
          refine lv_iload_n hx hb dX3_cuts_46 rfl (lv_at hl 1 rfl) ?_
          refine lv_iload hx hb dX3_cuts_47 (lv_at hl 0 rfl) ?_
          obtain ⟨c_49, hm⟩ := ck hm
          refine va_iast hx hb hK hP hD hS 6 0 rfl rfl c_49 dX3_cuts_49 (fun H locs hP hD hS => ?_)
          have hP : va_P (dC, dI) vwCl (wM cI cZ md yth ybd yro yrow ymk yrm yst ypc ybu ybn ymg ysp yjn ymd (upd ybgl5 (Int32.toNatClampNeg x3) x4) ymm yupl5 yunl5) H := hP
          have hD : va_D A (wM cI cZ md yth ybd yro yrow ymk yrm yst ypc ybu ybn ymg ysp yjn ymd (upd ybgl5 (Int32.toNatClampNeg x3) x4) ymm yupl5 yunl5) := hD
          obtain ⟨x3_1, e_x3_1⟩ : ∃ y : Int32, y = x3 + 1 := ⟨_, rfl⟩
          have hm := bnd_e hm e_x3_1
          refine lv_iinc (v := x3_1) (lv' := [(3, .int x3_1), (4, .int x4), (0, .ref (md 0)), (2, .int p2)]) hx hb dX3_cuts_50 hl (k := 1) rfl (by rw [e_x3_1]; rfl) (by decide) rfl (fun ls hl => ?_)
          obtain ⟨x4_1, e_x4_1⟩ : ∃ y : Int32, y = x4 + 1 := ⟨_, rfl⟩
          have hm := bnd_e hm e_x4_1
          refine lv_iinc (v := x4_1) (lv' := [(4, .int x4_1), (3, .int x3_1), (0, .ref (md 0)), (2, .int p2)]) hx hb dX3_cuts_53 hl (k := 1) rfl (by rw [e_x4_1]; rfl) (by decide) rfl (fun ls hl => ?_)
          refine lv_goto (tgt := 5) hx hb dX3_cuts_56 (by decide) ?_
          exact ih_5 x4_1 x3_1 (upd ybgl5 (Int32.toNatClampNeg x3) x4) yupl5 yunl5 hm _ _ hP hD hS _ (lv_sub hl [0, 1, 2, 3] rfl)
        · have hm := it_f hm c_16
          refine lv_aload_n hx hb dX3_cuts_19 rfl (lv_at hl 2 rfl) ?_
          refine lv_aload_n hx hb dX3_cuts_20 rfl (lv_at hl 2 rfl) ?_
          refine va_get (D := (dC, dI)) (ci := 3) (v := .ref (md 5)) (C := RX3) (T := TX3) (N := 18) hx hb hts ziX3 hown hK hP 0 rfl rfl 13 (by decide) zw2 (fun _ h9 => h9) rfl dX3_cuts_21 ?_
          refine lv_aload_n hx hb dX3_cuts_24 rfl (lv_at hl 2 rfl) ?_
          refine va_get (D := (dC, dI)) (ci := 3) (v := .ref (md 6)) (C := RX3) (T := TX3) (N := 18) hx hb hts ziX3 hown hK hP 0 rfl rfl 14 (by decide) zw1 (fun _ h9 => h9) rfl dX3_cuts_25 ?_
          refine lv_iload_n hx hb dX3_cuts_28 rfl (lv_at hl 1 rfl) ?_
          refine lv_iconst (v := 1) hx hb dX3_cuts_29 (by decide) ?_
          refine lv_isub hx hb dX3_cuts_30 ?_
          obtain ⟨c_31, hm⟩ := ck hm
          refine va_iald hx hb hK hP 6 0 rfl rfl c_31 dX3_cuts_31 ?_
          refine lv_iload hx hb dX3_cuts_32 (lv_at hl 0 rfl) ?_
          refine lv_iconst (v := 1) hx hb dX3_cuts_34 (by decide) ?_
          refine lv_iadd hx hb dX3_cuts_35 ?_
          obtain ⟨⟨r36, yup36, yun36⟩, h_36, hm⟩ := ob hm
          refine z_callWi (wc := (wM cI cZ md yth ybd yro yrow ymk yrm yst ypc ybu ybn ymg ysp yjn ymd ybgl5 ymm yupl5 yunl5)) (w1 := (wM cI cZ md yth ybd yro yrow ymk yrm yst ypc ybu ybn ymg ysp yjn ymd ybgl5 ymm yup36 yun36)) (ws := (wM cI cZ md yth ybd yro yrow ymk yrm yst ypc ybu ybn ymg ysp yjn ymd ybgl5 ymm yupl5 yunl5)) (ws' := (wM cI cZ md yth ybd yro yrow ymk yrm yst ypc ybu ybn ymg ysp yjn ymd ybgl5 ymm yup36 yun36)) (As := [.ref (md 5), .int (ybgl5 (Int32.toNatClampNeg (x3 - 1))), .int (x4 + 1)]) (rest := []) (ci := 3) (q := (RX3, TX3, 18)) ⟨hx, hb, hml, hown, hts⟩ (c_X3_fits_made l dC dI cI cZ md yth ybd yro yrow ymk yrm yst ypc ybu ybn ymg ysp yjn ymd ybgl5 ymm yupl5 yunl5 F (ybgl5 (Int32.toNatClampNeg (x3 - 1))) (x4 + 1) H.size r36 yup36 yun36 h_36) (cwV 3 hts gX3_cuts_X3_fits rfl rfl rfl kv_X3_fits ⟨Nat.le_of_ble_eq_true rfl, Nat.le_of_ble_eq_true rfl⟩) hK hP hD hS hA (z_spAll (wM cI cZ md yth ybd yro yrow ymk yrm yst ypc ybu ybn ymg ysp yjn ymd ybgl5 ymm yupl5 yunl5) (wM cI cZ md yth ybd yro yrow ymk yrm yst ypc ybu ybn ymg ysp yjn ymd ybgl5 ymm yup36 yun36)) ((paM cI cZ md yth ybd yro yrow ymk yrm yst ypc ybu ybn ymg ysp yjn ymd ybgl5 ymm yup36 yun36).trans (paM cI cZ md yth ybd yro yrow ymk yrm yst ypc ybu ybn ymg ysp yjn ymd ybgl5 ymm yupl5 yunl5).symm) rfl rfl rfl rfl hl.1 rfl (Nat.le_of_ble_eq_true rfl) dX3_cuts_36 ⟨Nat.zero_le _, Nat.zero_le _⟩ (fun H locs hP hD hS => ?_)
          refine lv_if_ne (tgt := 53) hx hb dX3_cuts_39 (by decide) (fun c_39 => ?_) (fun c_39 => ?_)
          · have hm := it_f hm c_39
            obtain ⟨x4_2, e_x4_2⟩ : ∃ y : Int32, y = x4 + 1 := ⟨_, rfl⟩
            have hm := bnd_e hm e_x4_2
            refine lv_iinc (v := x4_2) (lv' := [(4, .int x4_2), (3, .int x3), (0, .ref (md 0)), (2, .int p2)]) hx hb dX3_cuts_53 hl (k := 0) rfl (by rw [e_x4_2]; rfl) (by decide) rfl (fun ls hl => ?_)
            refine lv_goto (tgt := 5) hx hb dX3_cuts_56 (by decide) ?_
            exact ih_5 x4_2 x3 ybgl5 yup36 yun36 hm _ _ hP hD hS _ (lv_sub hl [0, 1, 2, 3] rfl)
          · have hm := it_t hm c_39
            refine lv_aload_n hx hb dX3_cuts_42 rfl (lv_at hl 2 rfl) ?_
            refine va_get (D := (dC, dI)) (ci := 3) (v := .ref (md 6)) (C := RX3) (T := TX3) (N := 18) hx hb hts ziX3 hown hK hP 0 rfl rfl 14 (by decide) zw1 (fun _ h9 => h9) rfl dX3_cuts_43 ?_
            refine lv_iload_n hx hb dX3_cuts_46 rfl (lv_at hl 1 rfl) ?_
            refine lv_iload hx hb dX3_cuts_47 (lv_at hl 0 rfl) ?_
            obtain ⟨c_49, hm⟩ := ck hm
            refine va_iast hx hb hK hP hD hS 6 0 rfl rfl c_49 dX3_cuts_49 (fun H locs hP hD hS => ?_)
            have hP : va_P (dC, dI) vwCl (wM cI cZ md yth ybd yro yrow ymk yrm yst ypc ybu ybn ymg ysp yjn ymd (upd ybgl5 (Int32.toNatClampNeg x3) x4) ymm yup36 yun36) H := hP
            have hD : va_D A (wM cI cZ md yth ybd yro yrow ymk yrm yst ypc ybu ybn ymg ysp yjn ymd (upd ybgl5 (Int32.toNatClampNeg x3) x4) ymm yup36 yun36) := hD
            obtain ⟨x3_2, e_x3_2⟩ : ∃ y : Int32, y = x3 + 1 := ⟨_, rfl⟩
            have hm := bnd_e hm e_x3_2
            refine lv_iinc (v := x3_2) (lv' := [(3, .int x3_2), (4, .int x4), (0, .ref (md 0)), (2, .int p2)]) hx hb dX3_cuts_50 hl (k := 1) rfl (by rw [e_x3_2]; rfl) (by decide) rfl (fun ls hl => ?_)
            obtain ⟨x4_3, e_x4_3⟩ : ∃ y : Int32, y = x4 + 1 := ⟨_, rfl⟩
            have hm := bnd_e hm e_x4_3
            refine lv_iinc (v := x4_3) (lv' := [(4, .int x4_3), (3, .int x3_2), (0, .ref (md 0)), (2, .int p2)]) hx hb dX3_cuts_53 hl (k := 1) rfl (by rw [e_x4_3]; rfl) (by decide) rfl (fun ls hl => ?_)
            refine lv_goto (tgt := 5) hx hb dX3_cuts_56 (by decide) ?_
            exact ih_5 x4_3 x3_2 (upd ybgl5 (Int32.toNatClampNeg x3) x4) yup36 yun36 hm _ _ hP hD hS _ (lv_sub hl [0, 1, 2, 3] rfl)
  exact L_5 F p1 p2 ybg yup yun hq_5 _ _ hP hD hS _ (lv_sub hl [0, 1, 2, 4] rfl)
