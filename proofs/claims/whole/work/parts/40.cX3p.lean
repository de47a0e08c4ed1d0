set_option maxHeartbeats 4000000 in
set_option maxRecDepth 100000 in
theorem c_X3_commonest (l : Launch) (dC : Nat → ClassId) (dI : Nat → Nat → Nat) (cI : ClassId) (cZ : ClassId) (md : Nat → Nat) (yth : Int32) (ybd : Int32) (yro : Int32) (yrow : Nat → Int32) (ymk : Nat → Int32) (yrm : Int32) (yst : Nat → Int32) (ypc : Int32) (ybu : Nat → Int32) (ybn : Int32) (ymg : Int32) (ysp : Int32) (yjn : Int32) (ymd : Nat → Int32) (ybg : Nat → Int32) (ymm : Int32) (yup : Int64) (yun : Int64) (F : Nat) (sz : Nat) (r : Int32) (u_yth : Int32) (u_yup : Int64) (u_yun : Int64) (hm : X3_commonest F yth ybd yrow yrm yst ypc yup yun = some (r, u_yth, u_yup, u_yun)) : Met l yX3_commonest wsX3_commonest ({ frames := 4, cells := 0, slots := 0, locals := 102 }) (va_Pc [.ref (md 0)] (zW (dC, dI) (wM cI cZ md yth ybd yro yrow ymk yrm yst ypc ybu ybn ymg ysp yjn ymd ybg ymm yup yun) [(cI, .int), (cZ, .boolean)] sz)) (zQi (dC, dI) (wM cI cZ md u_yth ybd yro yrow ymk yrm yst ypc ybu ybn ymg ysp yjn ymd ybg ymm u_yup u_yun) [(cI, .int), (cZ, .boolean)] (va_A (wM cI cZ md yth ybd yro yrow ymk yrm yst ypc ybu ybn ymg ysp yjn ymd ybg ymm yup yun) sz) r) 0 0 (va_A (wM cI cZ md yth ybd yro yrow ymk yrm yst ypc ybu ybn ymg ysp yjn ymd ybg ymm yup yun) sz) := by
  refine Met.ofW (cc := cX3_commonest) (maxL := 5) (ret := (some .int)) (by decide) rfl ?_
  intro p e s m args below meth c s₁ B hml hv
  obtain ⟨rfl, hsz, hP, hK, hD0⟩ := hv
  have hx := B.exec
  have hb := B.bytes
  have hr := B.returns
  have hts := atoms_spec (ws := wsX3_commonest) B.pre
  have hown : s.vm.findClass RX3 = some m.cls := findClass_of_methodNamed B.named
  have hlocks := B.notSynchronized
  subst hsz
  have hD := hD0.self (sz := s.heap.size)
  generalize hAe : va_A (wM cI cZ md yth ybd yro yrow ymk yrm yst ypc ybu ybn ymg ysp yjn ymd ybg ymm yup yun) s.heap.size = A at hD ⊢
  have hA : ∀ q : Nat, s.heap.size ≤ q → A q := fun q h => by rw [← hAe]; exact Or.inr h
  have hS : va_S A s.heap s.heap [] := va_S.rf
  generalize eL : ([] : List Loc) = locs at hS ⊢
  obtain ⟨H, eH⟩ : ∃ z : Heap, z = s.heap := ⟨_, rfl⟩
  have hP : va_P (dC, dI) vwCl (wM cI cZ md yth ybd yro yrow ymk yrm yst ypc ybu ybn ymg ysp yjn ymd ybg ymm yup yun) H := by rw [eH]; exact hP
  have hS : va_S A s.heap H locs := by rw [eH]; exact hS
  refine z_heap eH ?_
  have hl := lv_entry ([.ref (md 0)]) (n := 5) (Nat.le_of_ble_eq_true rfl)
  rw [lg_entry_eq]
  generalize (lg_sl ([.ref (md 0)]) ++ List.replicate (5 - (lg_sl ([.ref (md 0)])).length) Slot.unset).toArray = ls at hl ⊢
  have hl : lv_has ls 5 [(0, .ref (md 0))] := hl
  have zw0 := hts (.fieldLink RX3 36 "LearnedLedgeModel" "thrown" "I") (List.mem_cons_of_mem _ (List.mem_append_left _ (List.mem_append_left _ (List.mem_of_getElem? (i := 0) rfl))))
  have zw1 := hts (.fieldLink RX3 48 "LearnedLedgeModel" "pieces" "I") (List.mem_cons_of_mem _ (List.mem_append_left _ (List.mem_append_left _ (List.mem_of_getElem? (i := 1) rfl))))
  have ziX3 : ∀ w ∈ u_ws RX3 TX3 18, w ∈ wsX3_commonest := (fun _ h9 => (List.mem_cons_of_mem _ (List.mem_append_right _ h9)))
  refine lv_aload_n hx hb dX3_commonest_0 rfl (lv_at hl 0 rfl) ?_
  refine lv_iconst (v := 0) hx hb dX3_commonest_1 (by decide) ?_
  refine va_put (D := (dC, dI)) (ci := 3) (v := .int 0) (ty := .int) (C := RX3) (T := TX3) (N := 18) hx hb hts ziX3 tyX3 tyX3_ok nmX3 hown hK hP hD hS 0 rfl rfl 0 (by decide) zw0 (fun _ h9 => h9) rfl (by decide +kernel) rfl rfl (Nat.le_of_ble_eq_true rfl) dX3_commonest_2 (fun H locs hP hD hS => ?_)
  have hP : va_P (dC, dI) vwCl (wM cI cZ md 0 ybd yro yrow ymk yrm yst ypc ybu ybn ymg ysp yjn ymd ybg ymm yup yun) H := hP
  have hD : va_D A (wM cI cZ md 0 ybd yro yrow ymk yrm yst ypc ybu ybn ymg ysp yjn ymd ybg ymm yup yun) := hD
  refine lv_iconst (v := (-1)) hx hb dX3_commonest_5 (by decide) ?_
  refine lv_istore_n (lv' := [(1, .int (-1)), (0, .ref (md 0))]) hx hb dX3_commonest_6 rfl hl (by decide) rfl (fun ls hl => ?_)
  refine lv_iconst (v := 0) hx hb dX3_commonest_7 (by decide) ?_
  refine lv_istore_n (lv' := [(2, .int 0), (1, .int (-1)), (0, .ref (md 0))]) hx hb dX3_commonest_8 rfl hl (by decide) rfl (fun ls hl => ?_)
  refine lv_iconst (v := 0) hx hb dX3_commonest_9 (by decide) ?_
  refine lv_istore_n (lv' := [(3, .int 0), (2, .int 0), (1, .int (-1)), (0, .ref (md 0))]) hx hb dX3_commonest_10 rfl hl (by decide) rfl (fun ls hl => ?_)
  obtain ⟨z_11, hq_11, hm⟩ := ob hm
  have K_11 : ∀ (x1_1 : Int32), ∀ (yupx11 : Int64), ∀ (yunx11 : Int64), z_11 = (x1_1, yupx11, yunx11) → ∀ (H : Heap) (locs : List Loc), va_P (dC, dI) vwCl (wM cI cZ md 0 ybd yro yrow ymk yrm yst ypc ybu ybn ymg ysp yjn ymd ybg ymm yupx11 yunx11) H → va_D A (wM cI cZ md 0 ybd yro yrow ymk yrm yst ypc ybu ybn ymg ysp yjn ymd ybg ymm yupx11 yunx11) → va_S A s.heap H locs → ∀ (ls : Array Slot), lv_has ls 5 [(1, .int x1_1)] → W p l e (headSpec wsX3_commonest ({ frames := 4, cells := 0, slots := 0, locals := 102 } : Room)).room s m ([.ref (md 0)] : List Value).toArray below meth c H locs 0 0 (MQ below (zQi (dC, dI) (wM cI cZ md u_yth ybd yro yrow ymk yrm yst ypc ybu ybn ymg ysp yjn ymd ybg ymm u_yup u_yun) [(cI, .int), (cZ, .boolean)] A r) ([.ref (md 0)] : List Value).toArray s 0 0 A) (F0 m 58 ls []) := by
    intro x1_1 yupx11 yunx11 ez H locs hP hD hS ls hl
    rw [ez] at hm
    refine lv_iload_n hx hb dX3_commonest_58 rfl (lv_at hl 0 rfl) ?_
    cases o2 hm
    exact W.iret hx hb hr (fun t ht hW => ⟨⟨_, (), rfl, rfl, by rw [ht]; exact hP, va_K.moved hW.alike hK, hD⟩, hS.F ht⟩) hS.2.2 dX3_commonest_59
  have L_11 : ∀ (n : Nat) (x3 : Int32) (x2 : Int32) (x1 : Int32) (yupl11 : Int64) (yunl11 : Int64), X3_commonest_L11 ybd yrow yrm yst ypc F n x3 x2 x1 yupl11 yunl11 = some z_11 → ∀ (H : Heap) (locs : List Loc), va_P (dC, dI) vwCl (wM cI cZ md 0 ybd yro yrow ymk yrm yst ypc ybu ybn ymg ysp yjn ymd ybg ymm yupl11 yunl11) H → va_D A (wM cI cZ md 0 ybd yro yrow ymk yrm yst ypc ybu ybn ymg ysp yjn ymd ybg ymm yupl11 yunl11) → va_S A s.heap H locs → ∀ (ls : Array Slot), lv_has ls 5 [(3, .int x3), (2, .int x2), (1, .int x1), (0, .ref (md 0))] → W p l e (headSpec wsX3_commonest ({ frames := 4, cells := 0, slots := 0, locals := 102 } : Room)).room s m ([.ref (md 0)] : List Value).toArray below meth c H locs 0 0 (MQ below (zQi (dC, dI) (wM cI cZ md u_yth ybd yro yrow ymk yrm yst ypc ybu ybn ymg ysp yjn ymd ybg ymm u_yup u_yun) [(cI, .int), (cZ, .boolean)] A r) ([.ref (md 0)] : List Value).toArray s 0 0 A) (F0 m 11 ls []) := by
    intro n
    induction n with
    | zero => intro x3 x2 x1 yupl11 yunl11 hm; cases hm
    | succ n ih_11 =>
      intro x3 x2 x1 yupl11 yunl11 hm H locs hP hD hS ls hl
      refine lv_iload_n hx hb dX3_commonest_11 rfl (lv_at hl 0 rfl) ?_
      refine lv_aload_n hx hb dX3_commonest_12 rfl (lv_at hl 3 rfl) ?_
      refine va_get (D := (dC, dI)) (ci := 3) (v := .int ypc) (C := RX3) (T := TX3) (N := 18) hx hb hts ziX3 hown hK hP 0 rfl rfl 7 (by decide) zw1 (fun _ h9 => h9) rfl dX3_commonest_13 ?_
      refine lv_icmp_ge (tgt := 58) hx hb dX3_commonest_16 (by decide) (fun c_16 => ?_) (fun c_16 => ?_)
      · have hm := it_t hm c_16
        exact K_11 x1 yupl11 yunl11 (o2 hm) _ _ hP hD hS _ (lv_sub hl [2] rfl)
      · have hm := it_f hm c_16
        refine lv_aload_n hx hb dX3_commonest_19 rfl (lv_at hl 3 rfl) ?_
        refine lv_iload_n hx hb dX3_commonest_20 rfl (lv_at hl 0 rfl) ?_
        refine lv_iconst (v := 0) hx hb dX3_commonest_21 (by decide) ?_
        obtain ⟨⟨r22, yup22, yun22⟩, h_22, hm⟩ := ob hm
        refine z_callWi (wc := (wM cI cZ md 0 ybd yro yrow ymk yrm yst ypc ybu ybn ymg ysp yjn ymd ybg ymm yupl11 yunl11)) (w1 := (wM cI cZ md 0 ybd yro yrow ymk yrm yst ypc ybu ybn ymg ysp yjn ymd ybg ymm yup22 yun22)) (ws := (wM cI cZ md 0 ybd yro yrow ymk yrm yst ypc ybu ybn ymg ysp yjn ymd ybg ymm yupl11 yunl11)) (ws' := (wM cI cZ md 0 ybd yro yrow ymk yrm yst ypc ybu ybn ymg ysp yjn ymd ybg ymm yup22 yun22)) (As := [.int x3, .int 0]) (rest := []) (ci := 3) (q := (RX3, TX3, 18)) ⟨hx, hb, hml, hown, hts⟩ (c_X3_alike l dC dI cI cZ md 0 ybd yro yrow ymk yrm yst ypc ybu ybn ymg ysp yjn ymd ybg ymm yupl11 yunl11 F x3 0 H.size r22 yup22 yun22 h_22) (cwV 2 hts gX3_commonest_X3_alike rfl rfl rfl kv_X3_alike ⟨Nat.le_of_ble_eq_true rfl, Nat.le_of_ble_eq_true rfl⟩) hK hP hD hS hA (z_spAll (wM cI cZ md 0 ybd yro yrow ymk yrm yst ypc ybu ybn ymg ysp yjn ymd ybg ymm yupl11 yunl11) (wM cI cZ md 0 ybd yro yrow ymk yrm yst ypc ybu ybn ymg ysp yjn ymd ybg ymm yup22 yun22)) ((paM cI cZ md 0 ybd yro yrow ymk yrm yst ypc ybu ybn ymg ysp yjn ymd ybg ymm yup22 yun22).trans (paM cI cZ md 0 ybd yro yrow ymk yrm yst ypc ybu ybn ymg ysp yjn ymd ybg ymm yupl11 yunl11).symm) rfl rfl rfl rfl hl.1 rfl (Nat.le_of_ble_eq_true rfl) dX3_commonest_22 ⟨Nat.zero_le _, Nat.zero_le _⟩ (fun H locs hP hD hS => ?_)
        refine lv_istore (lv' := [(4, .int r22), (3, .int x3), (2, .int x2), (1, .int x1), (0, .ref (md 0))]) hx hb dX3_commonest_25 hl (by decide) rfl (fun ls hl => ?_)
        refine lv_iload hx hb dX3_commonest_27 (lv_at hl 0 rfl) ?_
        refine lv_iload_n hx hb dX3_commonest_29 rfl (lv_at hl 2 rfl) ?_
        obtain ⟨y38, e_y38⟩ : ∃ y : Int32, y = (if r22 ≤ x2 then x1 else x3) := ⟨_, rfl⟩
        have hm := bnd_e hm e_y38
        have J_38 : W p l e (headSpec wsX3_commonest ({ frames := 4, cells := 0, slots := 0, locals := 102 } : Room)).room s m ([.ref (md 0)] : List Value).toArray below meth c H locs 0 0 (MQ below (zQi (dC, dI) (wM cI cZ md u_yth ybd yro yrow ymk yrm yst ypc ybu ybn ymg ysp yjn ymd ybg ymm u_yup u_yun) [(cI, .int), (cZ, .boolean)] A r) ([.ref (md 0)] : List Value).toArray s 0 0 A) (F0 m 38 ls [.int y38]) := by
          refine lv_istore_n (lv' := [(1, .int y38), (4, .int r22), (3, .int x3), (2, .int x2), (0, .ref (md 0))]) hx hb dX3_commonest_38 rfl hl (by decide) rfl (fun ls hl => ?_)
          refine lv_iload hx hb dX3_commonest_39 (lv_at hl 1 rfl) ?_
          refine lv_iload_n hx hb dX3_commonest_41 rfl (lv_at hl 3 rfl) ?_
          refine lv_icmp_le (tgt := 50) hx hb dX3_commonest_42 (by decide) (fun c_42 => ?_) (fun c_42 => ?_)
          · have hm := it_t hm c_42
            refine lv_iload_n hx hb dX3_commonest_50 rfl (lv_at hl 3 rfl) ?_
            refine lv_istore_n (lv' := [(2, .int x2), (1, .int y38), (4, .int r22), (3, .int x3), (0, .ref (md 0))]) hx hb dX3_commonest_51 rfl hl (by decide) rfl (fun ls hl => ?_)
            obtain ⟨x3_1, e_x3_1⟩ : ∃ y : Int32, y = x3 + 1 := ⟨_, rfl⟩
            have hm := bnd_e hm e_x3_1
            refine lv_iinc (v := x3_1) (lv' := [(3, .int x3_1), (2, .int x2), (1, .int y38), (4, .int r22), (0, .ref (md 0))]) hx hb dX3_commonest_52 hl (k := 3) rfl (by rw [e_x3_1]; rfl) (by decide) rfl (fun ls hl => ?_)
            refine lv_goto (tgt := 11) hx hb dX3_commonest_55 (by decide) ?_
            exact ih_11 x3_1 x2 y38 yup22 yun22 hm _ _ hP hD hS _ (lv_sub hl [0, 1, 2, 4] rfl)
          · have hm := it_f hm c_42
            refine lv_iload hx hb dX3_commonest_45 (lv_at hl 1 rfl) ?_
            refine lv_goto (tgt := 51) hx hb dX3_commonest_47 (by decide) ?_
            refine lv_istore_n (lv' := [(2, .int r22), (1, .int y38), (4, .int r22), (3, .int x3), (0, .ref (md 0))]) hx hb dX3_commonest_51 rfl hl (by decide) rfl (fun ls hl => ?_)
            obtain ⟨x3_2, e_x3_2⟩ : ∃ y : Int32, y = x3 + 1 := ⟨_, rfl⟩
            have hm := bnd_e hm e_x3_2
            refine lv_iinc (v := x3_2) (lv' := [(3, .int x3_2), (2, .int r22), (1, .int y38), (4, .int r22), (0, .ref (md 0))]) hx hb dX3_commonest_52 hl (k := 3) rfl (by rw [e_x3_2]; rfl) (by decide) rfl (fun ls hl => ?_)
            refine lv_goto (tgt := 11) hx hb dX3_commonest_55 (by decide) ?_
            exact ih_11 x3_2 r22 y38 yup22 yun22 hm _ _ hP hD hS _ (lv_sub hl [0, 1, 2, 4] rfl)
        refine lv_icmp_le (tgt := 37) hx hb dX3_commonest_30 (by decide) (fun c_30 => ?_) (fun c_30 => ?_)
        · refine lv_iload_n hx hb dX3_commonest_37 rfl (lv_at hl 3 rfl) ?_
          have e9 : y38 = x1 := by rw [e_y38, if_pos c_30]
          rw [e9] at J_38
          exact J_38
        · refine lv_iload_n hx hb dX3_commonest_33 rfl (lv_at hl 1 rfl) ?_
          refine lv_goto (tgt := 38) hx hb dX3_commonest_34 (by decide) ?_
          have e9 : y38 = x3 := by rw [e_y38, if_neg c_30]
          rw [e9] at J_38
          exact J_38
  exact L_11 F 0 0 (-1) yup yun hq_11 _ _ hP hD hS _ (lv_sub hl [0, 1, 2, 3] rfl)
set_option maxHeartbeats 4000000 in
set_option maxRecDepth 100000 in
theorem c_X3_buffered (l : Launch) (dC : Nat → ClassId) (dI : Nat → Nat → Nat) (cI : ClassId) (cZ : ClassId) (md : Nat → Nat) (yth : Int32) (ybd : Int32) (yro : Int32) (yrow : Nat → Int32) (ymk : Nat → Int32) (yrm : Int32) (yst : Nat → Int32) (ypc : Int32) (ybu : Nat → Int32) (ybn : Int32) (ymg : Int32) (ysp : Int32) (yjn : Int32) (ymd : Nat → Int32) (ybg : Nat → Int32) (ymm : Int32) (yup : Int64) (yun : Int64) (F : Nat) (sz : Nat) (r : Int32) (u_yth : Int32) (hm : X3_buffered F yth ybn = some (r, u_yth)) : Met l yX3_buffered wsX3_buffered ({ frames := 0, cells := 0, slots := 0, locals := 0 }) (va_Pc [.ref (md 0)] (zW (dC, dI) (wM cI cZ md yth ybd yro yrow ymk yrm yst ypc ybu ybn ymg ysp yjn ymd ybg ymm yup yun) [(cI, .int), (cZ, .boolean)] sz)) (zQi (dC, dI) (wM cI cZ md u_yth ybd yro yrow ymk yrm yst ypc ybu ybn ymg ysp yjn ymd ybg ymm yup yun) [(cI, .int), (cZ, .boolean)] (va_A (wM cI cZ md yth ybd yro yrow ymk yrm yst ypc ybu ybn ymg ysp yjn ymd ybg ymm yup yun) sz) r) 0 0 (va_A (wM cI cZ md yth ybd yro yrow ymk yrm yst ypc ybu ybn ymg ysp yjn ymd ybg ymm yup yun) sz) := by
  refine Met.ofW (cc := cX3_buffered) (maxL := 1) (ret := (some .int)) (by decide) rfl ?_
  intro p e s m args below meth c s₁ B hml hv
  obtain ⟨rfl, hsz, hP, hK, hD0⟩ := hv
  have hx := B.exec
  have hb := B.bytes
  have hr := B.returns
  have hts := atoms_spec (ws := wsX3_buffered) B.pre
  have hown : s.vm.findClass RX3 = some m.cls := findClass_of_methodNamed B.named
  have hlocks := B.notSynchronized
  subst hsz
  have hD := hD0.self (sz := s.heap.size)
  generalize hAe : va_A (wM cI cZ md yth ybd yro yrow ymk yrm yst ypc ybu ybn ymg ysp yjn ymd ybg ymm yup yun) s.heap.size = A at hD ⊢
  have hA : ∀ q : Nat, s.heap.size ≤ q → A q := fun q h => by rw [← hAe]; exact Or.inr h
  have hS : va_S A s.heap s.heap [] := va_S.rf
  generalize eL : ([] : List Loc) = locs at hS ⊢
  obtain ⟨H, eH⟩ : ∃ z : Heap, z = s.heap := ⟨_, rfl⟩
  have hP : va_P (dC, dI) vwCl (wM cI cZ md yth ybd yro yrow ymk yrm yst ypc ybu ybn ymg ysp yjn ymd ybg ymm yup yun) H := by rw [eH]; exact hP
  have hS : va_S A s.heap H locs := by rw [eH]; exact hS
  refine z_heap eH ?_
  have hl := lv_entry ([.ref (md 0)]) (n := 1) (Nat.le_of_ble_eq_true rfl)
  rw [lg_entry_eq]
  generalize (lg_sl ([.ref (md 0)]) ++ List.replicate (1 - (lg_sl ([.ref (md 0)])).length) Slot.unset).toArray = ls at hl ⊢
  have hl : lv_has ls 1 [(0, .ref (md 0))] := hl
  have zw0 := hts (.fieldLink RX3 36 "LearnedLedgeModel" "thrown" "I") (List.mem_cons_of_mem _ (List.mem_append_left _ (List.mem_of_getElem? (i := 0) rfl)))
  have zw1 := hts (.fieldLink RX3 69 "LearnedLedgeModel" "buffered" "I") (List.mem_cons_of_mem _ (List.mem_append_left _ (List.mem_of_getElem? (i := 1) rfl)))
  have ziX3 : ∀ w ∈ u_ws RX3 TX3 18, w ∈ wsX3_buffered := (fun _ h9 => (List.mem_cons_of_mem _ (List.mem_append_right _ h9)))
  refine lv_aload_n hx hb dX3_buffered_0 rfl (lv_at hl 0 rfl) ?_
  refine lv_iconst (v := 0) hx hb dX3_buffered_1 (by decide) ?_
  refine va_put (D := (dC, dI)) (ci := 3) (v := .int 0) (ty := .int) (C := RX3) (T := TX3) (N := 18) hx hb hts ziX3 tyX3 tyX3_ok nmX3 hown hK hP hD hS 0 rfl rfl 0 (by decide) zw0 (fun _ h9 => h9) rfl (by decide +kernel) rfl rfl (Nat.le_of_ble_eq_true rfl) dX3_buffered_2 (fun H locs hP hD hS => ?_)
  have hP : va_P (dC, dI) vwCl (wM cI cZ md 0 ybd yro yrow ymk yrm yst ypc ybu ybn ymg ysp yjn ymd ybg ymm yup yun) H := hP
  have hD : va_D A (wM cI cZ md 0 ybd yro yrow ymk yrm yst ypc ybu ybn ymg ysp yjn ymd ybg ymm yup yun) := hD
  refine lv_aload_n hx hb dX3_buffered_5 rfl (lv_at hl 0 rfl) ?_
  refine va_get (D := (dC, dI)) (ci := 3) (v := .int ybn) (C := RX3) (T := TX3) (N := 18) hx hb hts ziX3 hown hK hP 0 rfl rfl 9 (by decide) zw1 (fun _ h9 => h9) rfl dX3_buffered_6 ?_
  cases o2 hm
  exact W.iret hx hb hr (fun t ht hW => ⟨⟨_, (), rfl, rfl, by rw [ht]; exact hP, va_K.moved hW.alike hK, hD⟩, hS.F ht⟩) hS.2.2 dX3_buffered_9
set_option maxHeartbeats 4000000 in
set_option maxRecDepth 100000 in
theorem c_X3_marked (l : Launch) (dC : Nat → ClassId) (dI : Nat → Nat → Nat) (cI : ClassId) (cZ : ClassId) (md : Nat → Nat) (yth : Int32) (ybd : Int32) (yro : Int32) (yrow : Nat → Int32) (ymk : Nat → Int32) (yrm : Int32) (yst : Nat → Int32) (ypc : Int32) (ybu : Nat → Int32) (ybn : Int32) (ymg : Int32) (ysp : Int32) (yjn : Int32) (ymd : Nat → Int32) (ybg : Nat → Int32) (ymm : Int32) (yup : Int64) (yun : Int64) (F : Nat) (sz : Nat) (r : Int32) (u_yth : Int32) (hm : X3_marked F yth ymk yrm = some (r, u_yth)) : Met l yX3_marked wsX3_marked ({ frames := 0, cells := 0, slots := 0, locals := 0 }) (va_Pc [.ref (md 0)] (zW (dC, dI) (wM cI cZ md yth ybd yro yrow ymk yrm yst ypc ybu ybn ymg ysp yjn ymd ybg ymm yup yun) [(cI, .int), (cZ, .boolean)] sz)) (zQi (dC, dI) (wM cI cZ md u_yth ybd yro yrow ymk yrm yst ypc ybu ybn ymg ysp yjn ymd ybg ymm yup yun) [(cI, .int), (cZ, .boolean)] (va_A (wM cI cZ md yth ybd yro yrow ymk yrm yst ypc ybu ybn ymg ysp yjn ymd ybg ymm yup yun) sz) r) 0 0 (va_A (wM cI cZ md yth ybd yro yrow ymk yrm yst ypc ybu ybn ymg ysp yjn ymd ybg ymm yup yun) sz) := by
  refine Met.ofW (cc := cX3_marked) (maxL := 3) (ret := (some .int)) (by decide) rfl ?_
  intro p e s m args below meth c s₁ B hml hv
  obtain ⟨rfl, hsz, hP, hK, hD0⟩ := hv
  have hx := B.exec
  have hb := B.bytes
  have hr := B.returns
  have hts := atoms_spec (ws := wsX3_marked) B.pre
  have hown : s.vm.findClass RX3 = some m.cls := findClass_of_methodNamed B.named
  have hlocks := B.notSynchronized
  subst hsz
  have hD := hD0.self (sz := s.heap.size)
  generalize hAe : va_A (wM cI cZ md yth ybd yro yrow ymk yrm yst ypc ybu ybn ymg ysp yjn ymd ybg ymm yup yun) s.heap.size = A at hD ⊢
  have hA : ∀ q : Nat, s.heap.size ≤ q → A q := fun q h => by rw [← hAe]; exact Or.inr h
  have hS : va_S A s.heap s.heap [] := va_S.rf
  generalize eL : ([] : List Loc) = locs at hS ⊢
  obtain ⟨H, eH⟩ : ∃ z : Heap, z = s.heap := ⟨_, rfl⟩
  have hP : va_P (dC, dI) vwCl (wM cI cZ md yth ybd yro yrow ymk yrm yst ypc ybu ybn ymg ysp yjn ymd ybg ymm yup yun) H := by rw [eH]; exact hP
  have hS : va_S A s.heap H locs := by rw [eH]; exact hS
  refine z_heap eH ?_
  have hl := lv_entry ([.ref (md 0)]) (n := 3) (Nat.le_of_ble_eq_true rfl)
  rw [lg_entry_eq]
  generalize (lg_sl ([.ref (md 0)]) ++ List.replicate (3 - (lg_sl ([.ref (md 0)])).length) Slot.unset).toArray = ls at hl ⊢
  have hl : lv_has ls 3 [(0, .ref (md 0))] := hl
  have zw0 := hts (.fieldLink RX3 36 "LearnedLedgeModel" "thrown" "I") (List.mem_cons_of_mem _ (List.mem_append_left _ (List.mem_of_getElem? (i := 0) rfl)))
  have zw1 := hts (.fieldLink RX3 51 "LearnedLedgeModel" "rowMany" "I") (List.mem_cons_of_mem _ (List.mem_append_left _ (List.mem_of_getElem? (i := 1) rfl)))
  have zw2 := hts (.fieldLink RX3 20 "LearnedLedgeModel" "isMarked" "[Z") (List.mem_cons_of_mem _ (List.mem_append_left _ (List.mem_of_getElem? (i := 2) rfl)))
  have ziX3 : ∀ w ∈ u_ws RX3 TX3 18, w ∈ wsX3_marked := (fun _ h9 => (List.mem_cons_of_mem _ (List.mem_append_right _ h9)))
  refine lv_aload_n hx hb dX3_marked_0 rfl (lv_at hl 0 rfl) ?_
  refine lv_iconst (v := 0) hx hb dX3_marked_1 (by decide) ?_
  refine va_put (D := (dC, dI)) (ci := 3) (v := .int 0) (ty := .int) (C := RX3) (T := TX3) (N := 18) hx hb hts ziX3 tyX3 tyX3_ok nmX3 hown hK hP hD hS 0 rfl rfl 0 (by decide) zw0 (fun _ h9 => h9) rfl (by decide +kernel) rfl rfl (Nat.le_of_ble_eq_true rfl) dX3_marked_2 (fun H locs hP hD hS => ?_)
  have hP : va_P (dC, dI) vwCl (wM cI cZ md 0 ybd yro yrow ymk yrm yst ypc ybu ybn ymg ysp yjn ymd ybg ymm yup yun) H := hP
  have hD : va_D A (wM cI cZ md 0 ybd yro yrow ymk yrm yst ypc ybu ybn ymg ysp yjn ymd ybg ymm yup yun) := hD
  refine lv_iconst (v := 0) hx hb dX3_marked_5 (by decide) ?_
  refine lv_istore_n (lv' := [(1, .int 0), (0, .ref (md 0))]) hx hb dX3_marked_6 rfl hl (by decide) rfl (fun ls hl => ?_)
  refine lv_iconst (v := 0) hx hb dX3_marked_7 (by decide) ?_
  refine lv_istore_n (lv' := [(2, .int 0), (1, .int 0), (0, .ref (md 0))]) hx hb dX3_marked_8 rfl hl (by decide) rfl (fun ls hl => ?_)
  obtain ⟨z_9, hq_9, hm⟩ := ob hm
  have K_9 : ∀ (x1_3 : Int32), z_9 = x1_3 → ∀ (ls : Array Slot), lv_has ls 3 [(1, .int x1_3)] → W p l e (headSpec wsX3_marked ({ frames := 0, cells := 0, slots := 0, locals := 0 } : Room)).room s m ([.ref (md 0)] : List Value).toArray below meth c H locs 0 0 (MQ below (zQi (dC, dI) (wM cI cZ md u_yth ybd yro yrow ymk yrm yst ypc ybu ybn ymg ysp yjn ymd ybg ymm yup yun) [(cI, .int), (cZ, .boolean)] A r) ([.ref (md 0)] : List Value).toArray s 0 0 A) (F0 m 40 ls []) := by
    intro x1_3 ez ls hl
    rw [ez] at hm
    refine lv_iload_n hx hb dX3_marked_40 rfl (lv_at hl 0 rfl) ?_
    cases o2 hm
    exact W.iret hx hb hr (fun t ht hW => ⟨⟨_, (), rfl, rfl, by rw [ht]; exact hP, va_K.moved hW.alike hK, hD⟩, hS.F ht⟩) hS.2.2 dX3_marked_41
  have L_9 : ∀ (n : Nat) (x2 : Int32) (x1 : Int32), X3_marked_L9 ymk yrm n x2 x1 = some z_9 → ∀ (ls : Array Slot), lv_has ls 3 [(2, .int x2), (1, .int x1), (0, .ref (md 0))] → W p l e (headSpec wsX3_marked ({ frames := 0, cells := 0, slots := 0, locals := 0 } : Room)).room s m ([.ref (md 0)] : List Value).toArray below meth c H locs 0 0 (MQ below (zQi (dC, dI) (wM cI cZ md u_yth ybd yro yrow ymk yrm yst ypc ybu ybn ymg ysp yjn ymd ybg ymm yup yun) [(cI, .int), (cZ, .boolean)] A r) ([.ref (md 0)] : List Value).toArray s 0 0 A) (F0 m 9 ls []) := by
    intro n
    induction n with
    | zero => intro x2 x1 hm; cases hm
    | succ n ih_9 =>
      intro x2 x1 hm ls hl
      refine lv_iload_n hx hb dX3_marked_9 rfl (lv_at hl 0 rfl) ?_
      refine lv_aload_n hx hb dX3_marked_10 rfl (lv_at hl 2 rfl) ?_
      refine va_get (D := (dC, dI)) (ci := 3) (v := .int yrm) (C := RX3) (T := TX3) (N := 18) hx hb hts ziX3 hown hK hP 0 rfl rfl 5 (by decide) zw1 (fun _ h9 => h9) rfl dX3_marked_11 ?_
      refine lv_icmp_ge (tgt := 40) hx hb dX3_marked_14 (by decide) (fun c_14 => ?_) (fun c_14 => ?_)
      · have hm := it_t hm c_14
        exact K_9 x1 (o2 hm) _ (lv_sub hl [1] rfl)
      · have hm := it_f hm c_14
        refine lv_iload_n hx hb dX3_marked_17 rfl (lv_at hl 1 rfl) ?_
        refine lv_aload_n hx hb dX3_marked_18 rfl (lv_at hl 2 rfl) ?_
        refine va_get (D := (dC, dI)) (ci := 3) (v := .ref (md 2)) (C := RX3) (T := TX3) (N := 18) hx hb hts ziX3 hown hK hP 0 rfl rfl 4 (by decide) zw2 (fun _ h9 => h9) rfl dX3_marked_19 ?_
        refine lv_iload_n hx hb dX3_marked_22 rfl (lv_at hl 0 rfl) ?_
        obtain ⟨c_23, hm⟩ := ck hm
        refine va_zald hx hb hK hP 2 1 rfl rfl c_23 dX3_marked_23 ?_
        refine lv_if_eq (tgt := 31) hx hb dX3_marked_24 (by decide) (fun c_24 => ?_) (fun c_24 => ?_)
        · have hm := it_t hm c_24
          refine lv_iconst (v := 0) hx hb dX3_marked_31 (by decide) ?_
          refine lv_iadd hx hb dX3_marked_32 ?_
          refine lv_topi (fun x1_1 e_x1_1 => ?_)
          have hm := bnd_e hm e_x1_1
          refine lv_istore_n (lv' := [(1, .int x1_1), (2, .int x2), (0, .ref (md 0))]) hx hb dX3_marked_33 rfl hl (by decide) rfl (fun ls hl => ?_)
          obtain ⟨x2_1, e_x2_1⟩ : ∃ y : Int32, y = x2 + 1 := ⟨_, rfl⟩
          have hm := bnd_e hm e_x2_1
          refine lv_iinc (v := x2_1) (lv' := [(2, .int x2_1), (1, .int x1_1), (0, .ref (md 0))]) hx hb dX3_marked_34 hl (k := 1) rfl (by rw [e_x2_1]; rfl) (by decide) rfl (fun ls hl => ?_)
          refine lv_goto (tgt := 9) hx hb dX3_marked_37 (by decide) ?_
          exact ih_9 x2_1 x1_1 hm _ (lv_sub hl [0, 1, 2] rfl)
        · have hm := it_f hm c_24
          refine lv_iconst (v := 1) hx hb dX3_marked_27 (by decide) ?_
          refine lv_goto (tgt := 32) hx hb dX3_marked_28 (by decide) ?_
          refine lv_iadd hx hb dX3_marked_32 ?_
          refine lv_topi (fun x1_2 e_x1_2 => ?_)
          have hm := bnd_e hm e_x1_2
          refine lv_istore_n (lv' := [(1, .int x1_2), (2, .int x2), (0, .ref (md 0))]) hx hb dX3_marked_33 rfl hl (by decide) rfl (fun ls hl => ?_)
          obtain ⟨x2_2, e_x2_2⟩ : ∃ y : Int32, y = x2 + 1 := ⟨_, rfl⟩
          have hm := bnd_e hm e_x2_2
          refine lv_iinc (v := x2_2) (lv' := [(2, .int x2_2), (1, .int x1_2), (0, .ref (md 0))]) hx hb dX3_marked_34 hl (k := 1) rfl (by rw [e_x2_2]; rfl) (by decide) rfl (fun ls hl => ?_)
          refine lv_goto (tgt := 9) hx hb dX3_marked_37 (by decide) ?_
          exact ih_9 x2_2 x1_2 hm _ (lv_sub hl [0, 1, 2] rfl)
  exact L_9 F 0 0 hq_9 _ (lv_sub hl [0, 1, 2] rfl)
set_option maxHeartbeats 4000000 in
set_option maxRecDepth 100000 in
theorem c_X3_rowSize (l : Launch) (dC : Nat → ClassId) (dI : Nat → Nat → Nat) (cI : ClassId) (cZ : ClassId) (md : Nat → Nat) (yth : Int32) (ybd : Int32) (yro : Int32) (yrow : Nat → Int32) (ymk : Nat → Int32) (yrm : Int32) (yst : Nat → Int32) (ypc : Int32) (ybu : Nat → Int32) (ybn : Int32) (ymg : Int32) (ysp : Int32) (yjn : Int32) (ymd : Nat → Int32) (ybg : Nat → Int32) (ymm : Int32) (yup : Int64) (yun : Int64) (F : Nat) (sz : Nat) (r : Int32) (u_yth : Int32) (hm : X3_rowSize F yth yrm = some (r, u_yth)) : Met l yX3_rowSize wsX3_rowSize ({ frames := 0, cells := 0, slots := 0, locals := 0 }) (va_Pc [.ref (md 0)] (zW (dC, dI) (wM cI cZ md yth ybd yro yrow ymk yrm yst ypc ybu ybn ymg ysp yjn ymd ybg ymm yup yun) [(cI, .int), (cZ, .boolean)] sz)) (zQi (dC, dI) (wM cI cZ md u_yth ybd yro yrow ymk yrm yst ypc ybu ybn ymg ysp yjn ymd ybg ymm yup yun) [(cI, .int), (cZ, .boolean)] (va_A (wM cI cZ md yth ybd yro yrow ymk yrm yst ypc ybu ybn ymg ysp yjn ymd ybg ymm yup yun) sz) r) 0 0 (va_A (wM cI cZ md yth ybd yro yrow ymk yrm yst ypc ybu ybn ymg ysp yjn ymd ybg ymm yup yun) sz) := by
  refine Met.ofW (cc := cX3_rowSize) (maxL := 1) (ret := (some .int)) (by decide) rfl ?_
  intro p e s m args below meth c s₁ B hml hv
  obtain ⟨rfl, hsz, hP, hK, hD0⟩ := hv
  have hx := B.exec
  have hb := B.bytes
  have hr := B.returns
  have hts := atoms_spec (ws := wsX3_rowSize) B.pre
  have hown : s.vm.findClass RX3 = some m.cls := findClass_of_methodNamed B.named
  have hlocks := B.notSynchronized
  subst hsz
  have hD := hD0.self (sz := s.heap.size)
  generalize hAe : va_A (wM cI cZ md yth ybd yro yrow ymk yrm yst ypc ybu ybn ymg ysp yjn ymd ybg ymm yup yun) s.heap.size = A at hD ⊢
  have hA : ∀ q : Nat, s.heap.size ≤ q → A q := fun q h => by rw [← hAe]; exact Or.inr h
  have hS : va_S A s.heap s.heap [] := va_S.rf
  generalize eL : ([] : List Loc) = locs at hS ⊢
  obtain ⟨H, eH⟩ : ∃ z : Heap, z = s.heap := ⟨_, rfl⟩
  have hP : va_P (dC, dI) vwCl (wM cI cZ md yth ybd yro yrow ymk yrm yst ypc ybu ybn ymg ysp yjn ymd ybg ymm yup yun) H := by rw [eH]; exact hP
  have hS : va_S A s.heap H locs := by rw [eH]; exact hS
  refine z_heap eH ?_
  have hl := lv_entry ([.ref (md 0)]) (n := 1) (Nat.le_of_ble_eq_true rfl)
  rw [lg_entry_eq]
  generalize (lg_sl ([.ref (md 0)]) ++ List.replicate (1 - (lg_sl ([.ref (md 0)])).length) Slot.unset).toArray = ls at hl ⊢
  have hl : lv_has ls 1 [(0, .ref (md 0))] := hl
  have zw0 := hts (.fieldLink RX3 36 "LearnedLedgeModel" "thrown" "I") (List.mem_cons_of_mem _ (List.mem_append_left _ (List.mem_of_getElem? (i := 0) rfl)))
  have zw1 := hts (.fieldLink RX3 51 "LearnedLedgeModel" "rowMany" "I") (List.mem_cons_of_mem _ (List.mem_append_left _ (List.mem_of_getElem? (i := 1) rfl)))
  have ziX3 : ∀ w ∈ u_ws RX3 TX3 18, w ∈ wsX3_rowSize := (fun _ h9 => (List.mem_cons_of_mem _ (List.mem_append_right _ h9)))
  refine lv_aload_n hx hb dX3_rowSize_0 rfl (lv_at hl 0 rfl) ?_
  refine lv_iconst (v := 0) hx hb dX3_rowSize_1 (by decide) ?_
  refine va_put (D := (dC, dI)) (ci := 3) (v := .int 0) (ty := .int) (C := RX3) (T := TX3) (N := 18) hx hb hts ziX3 tyX3 tyX3_ok nmX3 hown hK hP hD hS 0 rfl rfl 0 (by decide) zw0 (fun _ h9 => h9) rfl (by decide +kernel) rfl rfl (Nat.le_of_ble_eq_true rfl) dX3_rowSize_2 (fun H locs hP hD hS => ?_)
  have hP : va_P (dC, dI) vwCl (wM cI cZ md 0 ybd yro yrow ymk yrm yst ypc ybu ybn ymg ysp yjn ymd ybg ymm yup yun) H := hP
  have hD : va_D A (wM cI cZ md 0 ybd yro yrow ymk yrm yst ypc ybu ybn ymg ysp yjn ymd ybg ymm yup yun) := hD
  refine lv_aload_n hx hb dX3_rowSize_5 rfl (lv_at hl 0 rfl) ?_
  refine va_get (D := (dC, dI)) (ci := 3) (v := .int yrm) (C := RX3) (T := TX3) (N := 18) hx hb hts ziX3 hown hK hP 0 rfl rfl 5 (by decide) zw1 (fun _ h9 => h9) rfl dX3_rowSize_6 ?_
  cases o2 hm
  exact W.iret hx hb hr (fun t ht hW => ⟨⟨_, (), rfl, rfl, by rw [ht]; exact hP, va_K.moved hW.alike hK, hD⟩, hS.F ht⟩) hS.2.2 dX3_rowSize_9
set_option maxHeartbeats 4000000 in
set_option maxRecDepth 100000 in
theorem c_X3_merges (l : Launch) (dC : Nat → ClassId) (dI : Nat → Nat → Nat) (cI : ClassId) (cZ : ClassId) (md : Nat → Nat) (yth : Int32) (ybd : Int32) (yro : Int32) (yrow : Nat → Int32) (ymk : Nat → Int32) (yrm : Int32) (yst : Nat → Int32) (ypc : Int32) (ybu : Nat → Int32) (ybn : Int32) (ymg : Int32) (ysp : Int32) (yjn : Int32) (ymd : Nat → Int32) (ybg : Nat → Int32) (ymm : Int32) (yup : Int64) (yun : Int64) (F : Nat) (sz : Nat) (r : Int32) (u_yth : Int32) (hm : X3_merges F yth ymg = some (r, u_yth)) : Met l yX3_merges wsX3_merges ({ frames := 0, cells := 0, slots := 0, locals := 0 }) (va_Pc [.ref (md 0)] (zW (dC, dI) (wM cI cZ md yth ybd yro yrow ymk yrm yst ypc ybu ybn ymg ysp yjn ymd ybg ymm yup yun) [(cI, .int), (cZ, .boolean)] sz)) (zQi (dC, dI) (wM cI cZ md u_yth ybd yro yrow ymk yrm yst ypc ybu ybn ymg ysp yjn ymd ybg ymm yup yun) [(cI, .int), (cZ, .boolean)] (va_A (wM cI cZ md yth ybd yro yrow ymk yrm yst ypc ybu ybn ymg ysp yjn ymd ybg ymm yup yun) sz) r) 0 0 (va_A (wM cI cZ md yth ybd yro yrow ymk yrm yst ypc ybu ybn ymg ysp yjn ymd ybg ymm yup yun) sz) := by
  refine Met.ofW (cc := cX3_merges) (maxL := 1) (ret := (some .int)) (by decide) rfl ?_
  intro p e s m args below meth c s₁ B hml hv
  obtain ⟨rfl, hsz, hP, hK, hD0⟩ := hv
  have hx := B.exec
  have hb := B.bytes
  have hr := B.returns
  have hts := atoms_spec (ws := wsX3_merges) B.pre
  have hown : s.vm.findClass RX3 = some m.cls := findClass_of_methodNamed B.named
  have hlocks := B.notSynchronized
  subst hsz
  have hD := hD0.self (sz := s.heap.size)
  generalize hAe : va_A (wM cI cZ md yth ybd yro yrow ymk yrm yst ypc ybu ybn ymg ysp yjn ymd ybg ymm yup yun) s.heap.size = A at hD ⊢
  have hA : ∀ q : Nat, s.heap.size ≤ q → A q := fun q h => by rw [← hAe]; exact Or.inr h
  have hS : va_S A s.heap s.heap [] := va_S.rf
  generalize eL : ([] : List Loc) = locs at hS ⊢
  obtain ⟨H, eH⟩ : ∃ z : Heap, z = s.heap := ⟨_, rfl⟩
  have hP : va_P (dC, dI) vwCl (wM cI cZ md yth ybd yro yrow ymk yrm yst ypc ybu ybn ymg ysp yjn ymd ybg ymm yup yun) H := by rw [eH]; exact hP
  have hS : va_S A s.heap H locs := by rw [eH]; exact hS
  refine z_heap eH ?_
  have hl := lv_entry ([.ref (md 0)]) (n := 1) (Nat.le_of_ble_eq_true rfl)
  rw [lg_entry_eq]
  generalize (lg_sl ([.ref (md 0)]) ++ List.replicate (1 - (lg_sl ([.ref (md 0)])).length) Slot.unset).toArray = ls at hl ⊢
  have hl : lv_has ls 1 [(0, .ref (md 0))] := hl
  have zw0 := hts (.fieldLink RX3 36 "LearnedLedgeModel" "thrown" "I") (List.mem_cons_of_mem _ (List.mem_append_left _ (List.mem_of_getElem? (i := 0) rfl)))
  have zw1 := hts (.fieldLink RX3 130 "LearnedLedgeModel" "merges" "I") (List.mem_cons_of_mem _ (List.mem_append_left _ (List.mem_of_getElem? (i := 1) rfl)))
  have ziX3 : ∀ w ∈ u_ws RX3 TX3 18, w ∈ wsX3_merges := (fun _ h9 => (List.mem_cons_of_mem _ (List.mem_append_right _ h9)))
  refine lv_aload_n hx hb dX3_merges_0 rfl (lv_at hl 0 rfl) ?_
  refine lv_iconst (v := 0) hx hb dX3_merges_1 (by decide) ?_
  refine va_put (D := (dC, dI)) (ci := 3) (v := .int 0) (ty := .int) (C := RX3) (T := TX3) (N := 18) hx hb hts ziX3 tyX3 tyX3_ok nmX3 hown hK hP hD hS 0 rfl rfl 0 (by decide) zw0 (fun _ h9 => h9) rfl (by decide +kernel) rfl rfl (Nat.le_of_ble_eq_true rfl) dX3_merges_2 (fun H locs hP hD hS => ?_)
  have hP : va_P (dC, dI) vwCl (wM cI cZ md 0 ybd yro yrow ymk yrm yst ypc ybu ybn ymg ysp yjn ymd ybg ymm yup yun) H := hP
  have hD : va_D A (wM cI cZ md 0 ybd yro yrow ymk yrm yst ypc ybu ybn ymg ysp yjn ymd ybg ymm yup yun) := hD
  refine lv_aload_n hx hb dX3_merges_5 rfl (lv_at hl 0 rfl) ?_
  refine va_get (D := (dC, dI)) (ci := 3) (v := .int ymg) (C := RX3) (T := TX3) (N := 18) hx hb hts ziX3 hown hK hP 0 rfl rfl 10 (by decide) zw1 (fun _ h9 => h9) rfl dX3_merges_6 ?_
  cases o2 hm
  exact W.iret hx hb hr (fun t ht hW => ⟨⟨_, (), rfl, rfl, by rw [ht]; exact hP, va_K.moved hW.alike hK, hD⟩, hS.F ht⟩) hS.2.2 dX3_merges_9
set_option maxHeartbeats 4000000 in
set_option maxRecDepth 100000 in
theorem c_X3_splits (l : Launch) (dC : Nat → ClassId) (dI : Nat → Nat → Nat) (cI : ClassId) (cZ : ClassId) (md : Nat → Nat) (yth : Int32) (ybd : Int32) (yro : Int32) (yrow : Nat → Int32) (ymk : Nat → Int32) (yrm : Int32) (yst : Nat → Int32) (ypc : Int32) (ybu : Nat → Int32) (ybn : Int32) (ymg : Int32) (ysp : Int32) (yjn : Int32) (ymd : Nat → Int32) (ybg : Nat → Int32) (ymm : Int32) (yup : Int64) (yun : Int64) (F : Nat) (sz : Nat) (r : Int32) (u_yth : Int32) (hm : X3_splits F yth ysp = some (r, u_yth)) : Met l yX3_splits wsX3_splits ({ frames := 0, cells := 0, slots := 0, locals := 0 }) (va_Pc [.ref (md 0)] (zW (dC, dI) (wM cI cZ md yth ybd yro yrow ymk yrm yst ypc ybu ybn ymg ysp yjn ymd ybg ymm yup yun) [(cI, .int), (cZ, .boolean)] sz)) (zQi (dC, dI) (wM cI cZ md u_yth ybd yro yrow ymk yrm yst ypc ybu ybn ymg ysp yjn ymd ybg ymm yup yun) [(cI, .int), (cZ, .boolean)] (va_A (wM cI cZ md yth ybd yro yrow ymk yrm yst ypc ybu ybn ymg ysp yjn ymd ybg ymm yup yun) sz) r) 0 0 (va_A (wM cI cZ md yth ybd yro yrow ymk yrm yst ypc ybu ybn ymg ysp yjn ymd ybg ymm yup yun) sz) := by
  refine Met.ofW (cc := cX3_splits) (maxL := 1) (ret := (some .int)) (by decide) rfl ?_
  intro p e s m args below meth c s₁ B hml hv
  obtain ⟨rfl, hsz, hP, hK, hD0⟩ := hv
  have hx := B.exec
  have hb := B.bytes
  have hr := B.returns
  have hts := atoms_spec (ws := wsX3_splits) B.pre
  have hown : s.vm.findClass RX3 = some m.cls := findClass_of_methodNamed B.named
  have hlocks := B.notSynchronized
  subst hsz
  have hD := hD0.self (sz := s.heap.size)
  generalize hAe : va_A (wM cI cZ md yth ybd yro yrow ymk yrm yst ypc ybu ybn ymg ysp yjn ymd ybg ymm yup yun) s.heap.size = A at hD ⊢
  have hA : ∀ q : Nat, s.heap.size ≤ q → A q := fun q h => by rw [← hAe]; exact Or.inr h
  have hS : va_S A s.heap s.heap [] := va_S.rf
  generalize eL : ([] : List Loc) = locs at hS ⊢
  obtain ⟨H, eH⟩ : ∃ z : Heap, z = s.heap := ⟨_, rfl⟩
  have hP : va_P (dC, dI) vwCl (wM cI cZ md yth ybd yro yrow ymk yrm yst ypc ybu ybn ymg ysp yjn ymd ybg ymm yup yun) H := by rw [eH]; exact hP
  have hS : va_S A s.heap H locs := by rw [eH]; exact hS
  refine z_heap eH ?_
  have hl := lv_entry ([.ref (md 0)]) (n := 1) (Nat.le_of_ble_eq_true rfl)
  rw [lg_entry_eq]
  generalize (lg_sl ([.ref (md 0)]) ++ List.replicate (1 - (lg_sl ([.ref (md 0)])).length) Slot.unset).toArray = ls at hl ⊢
  have hl : lv_has ls 1 [(0, .ref (md 0))] := hl
  have zw0 := hts (.fieldLink RX3 36 "LearnedLedgeModel" "thrown" "I") (List.mem_cons_of_mem _ (List.mem_append_left _ (List.mem_of_getElem? (i := 0) rfl)))
  have zw1 := hts (.fieldLink RX3 121 "LearnedLedgeModel" "splits" "I") (List.mem_cons_of_mem _ (List.mem_append_left _ (List.mem_of_getElem? (i := 1) rfl)))
  have ziX3 : ∀ w ∈ u_ws RX3 TX3 18, w ∈ wsX3_splits := (fun _ h9 => (List.mem_cons_of_mem _ (List.mem_append_right _ h9)))
  refine lv_aload_n hx hb dX3_splits_0 rfl (lv_at hl 0 rfl) ?_
  refine lv_iconst (v := 0) hx hb dX3_splits_1 (by decide) ?_
  refine va_put (D := (dC, dI)) (ci := 3) (v := .int 0) (ty := .int) (C := RX3) (T := TX3) (N := 18) hx hb hts ziX3 tyX3 tyX3_ok nmX3 hown hK hP hD hS 0 rfl rfl 0 (by decide) zw0 (fun _ h9 => h9) rfl (by decide +kernel) rfl rfl (Nat.le_of_ble_eq_true rfl) dX3_splits_2 (fun H locs hP hD hS => ?_)
  have hP : va_P (dC, dI) vwCl (wM cI cZ md 0 ybd yro yrow ymk yrm yst ypc ybu ybn ymg ysp yjn ymd ybg ymm yup yun) H := hP
  have hD : va_D A (wM cI cZ md 0 ybd yro yrow ymk yrm yst ypc ybu ybn ymg ysp yjn ymd ybg ymm yup yun) := hD
  refine lv_aload_n hx hb dX3_splits_5 rfl (lv_at hl 0 rfl) ?_
  refine va_get (D := (dC, dI)) (ci := 3) (v := .int ysp) (C := RX3) (T := TX3) (N := 18) hx hb hts ziX3 hown hK hP 0 rfl rfl 11 (by decide) zw1 (fun _ h9 => h9) rfl dX3_splits_6 ?_
  cases o2 hm
  exact W.iret hx hb hr (fun t ht hW => ⟨⟨_, (), rfl, rfl, by rw [ht]; exact hP, va_K.moved hW.alike hK, hD⟩, hS.F ht⟩) hS.2.2 dX3_splits_9
set_option maxHeartbeats 4000000 in
set_option maxRecDepth 100000 in
theorem c_X3_joins (l : Launch) (dC : Nat → ClassId) (dI : Nat → Nat → Nat) (cI : ClassId) (cZ : ClassId) (md : Nat → Nat) (yth : Int32) (ybd : Int32) (yro : Int32) (yrow : Nat → Int32) (ymk : Nat → Int32) (yrm : Int32) (yst : Nat → Int32) (ypc : Int32) (ybu : Nat → Int32) (ybn : Int32) (ymg : Int32) (ysp : Int32) (yjn : Int32) (ymd : Nat → Int32) (ybg : Nat → Int32) (ymm : Int32) (yup : Int64) (yun : Int64) (F : Nat) (sz : Nat) (r : Int32) (u_yth : Int32) (hm : X3_joins F yth yjn = some (r, u_yth)) : Met l yX3_joins wsX3_joins ({ frames := 0, cells := 0, slots := 0, locals := 0 }) (va_Pc [.ref (md 0)] (zW (dC, dI) (wM cI cZ md yth ybd yro yrow ymk yrm yst ypc ybu ybn ymg ysp yjn ymd ybg ymm yup yun) [(cI, .int), (cZ, .boolean)] sz)) (zQi (dC, dI) (wM cI cZ md u_yth ybd yro yrow ymk yrm yst ypc ybu ybn ymg ysp yjn ymd ybg ymm yup yun) [(cI, .int), (cZ, .boolean)] (va_A (wM cI cZ md yth ybd yro yrow ymk yrm yst ypc ybu ybn ymg ysp yjn ymd ybg ymm yup yun) sz) r) 0 0 (va_A (wM cI cZ md yth ybd yro yrow ymk yrm yst ypc ybu ybn ymg ysp yjn ymd ybg ymm yup yun) sz) := by
  refine Met.ofW (cc := cX3_joins) (maxL := 1) (ret := (some .int)) (by decide) rfl ?_
  intro p e s m args below meth c s₁ B hml hv
  obtain ⟨rfl, hsz, hP, hK, hD0⟩ := hv
  have hx := B.exec
  have hb := B.bytes
  have hr := B.returns
  have hts := atoms_spec (ws := wsX3_joins) B.pre
  have hown : s.vm.findClass RX3 = some m.cls := findClass_of_methodNamed B.named
  have hlocks := B.notSynchronized
  subst hsz
  have hD := hD0.self (sz := s.heap.size)
  generalize hAe : va_A (wM cI cZ md yth ybd yro yrow ymk yrm yst ypc ybu ybn ymg ysp yjn ymd ybg ymm yup yun) s.heap.size = A at hD ⊢
  have hA : ∀ q : Nat, s.heap.size ≤ q → A q := fun q h => by rw [← hAe]; exact Or.inr h
  have hS : va_S A s.heap s.heap [] := va_S.rf
  generalize eL : ([] : List Loc) = locs at hS ⊢
  obtain ⟨H, eH⟩ : ∃ z : Heap, z = s.heap := ⟨_, rfl⟩
  have hP : va_P (dC, dI) vwCl (wM cI cZ md yth ybd yro yrow ymk yrm yst ypc ybu ybn ymg ysp yjn ymd ybg ymm yup yun) H := by rw [eH]; exact hP
  have hS : va_S A s.heap H locs := by rw [eH]; exact hS
  refine z_heap eH ?_
  have hl := lv_entry ([.ref (md 0)]) (n := 1) (Nat.le_of_ble_eq_true rfl)
  rw [lg_entry_eq]
  generalize (lg_sl ([.ref (md 0)]) ++ List.replicate (1 - (lg_sl ([.ref (md 0)])).length) Slot.unset).toArray = ls at hl ⊢
  have hl : lv_has ls 1 [(0, .ref (md 0))] := hl
  have zw0 := hts (.fieldLink RX3 36 "LearnedLedgeModel" "thrown" "I") (List.mem_cons_of_mem _ (List.mem_append_left _ (List.mem_of_getElem? (i := 0) rfl)))
  have zw1 := hts (.fieldLink RX3 111 "LearnedLedgeModel" "joins" "I") (List.mem_cons_of_mem _ (List.mem_append_left _ (List.mem_of_getElem? (i := 1) rfl)))
  have ziX3 : ∀ w ∈ u_ws RX3 TX3 18, w ∈ wsX3_joins := (fun _ h9 => (List.mem_cons_of_mem _ (List.mem_append_right _ h9)))
  refine lv_aload_n hx hb dX3_joins_0 rfl (lv_at hl 0 rfl) ?_
  refine lv_iconst (v := 0) hx hb dX3_joins_1 (by decide) ?_
  refine va_put (D := (dC, dI)) (ci := 3) (v := .int 0) (ty := .int) (C := RX3) (T := TX3) (N := 18) hx hb hts ziX3 tyX3 tyX3_ok nmX3 hown hK hP hD hS 0 rfl rfl 0 (by decide) zw0 (fun _ h9 => h9) rfl (by decide +kernel) rfl rfl (Nat.le_of_ble_eq_true rfl) dX3_joins_2 (fun H locs hP hD hS => ?_)
  have hP : va_P (dC, dI) vwCl (wM cI cZ md 0 ybd yro yrow ymk yrm yst ypc ybu ybn ymg ysp yjn ymd ybg ymm yup yun) H := hP
  have hD : va_D A (wM cI cZ md 0 ybd yro yrow ymk yrm yst ypc ybu ybn ymg ysp yjn ymd ybg ymm yup yun) := hD
  refine lv_aload_n hx hb dX3_joins_5 rfl (lv_at hl 0 rfl) ?_
  refine va_get (D := (dC, dI)) (ci := 3) (v := .int yjn) (C := RX3) (T := TX3) (N := 18) hx hb hts ziX3 hown hK hP 0 rfl rfl 12 (by decide) zw1 (fun _ h9 => h9) rfl dX3_joins_6 ?_
  cases o2 hm
  exact W.iret hx hb hr (fun t ht hW => ⟨⟨_, (), rfl, rfl, by rw [ht]; exact hP, va_K.moved hW.alike hK, hD⟩, hS.F ht⟩) hS.2.2 dX3_joins_9
