set_option maxHeartbeats 4000000 in
set_option maxRecDepth 100000 in
theorem c_X3_rebuild (l : Launch) (dC : Nat → ClassId) (dI : Nat → Nat → Nat) (cI : ClassId) (cZ : ClassId) (md : Nat → Nat) (yth : Int32) (ybd : Int32) (yro : Int32) (yrow : Nat → Int32) (ymk : Nat → Int32) (yrm : Int32) (yst : Nat → Int32) (ypc : Int32) (ybu : Nat → Int32) (ybn : Int32) (ymg : Int32) (ysp : Int32) (yjn : Int32) (ymd : Nat → Int32) (ybg : Nat → Int32) (ymm : Int32) (yup : Int64) (yun : Int64) (F : Nat) (p1 : Int32) (p2 : Int32) (sz : Nat) (r : Int32) (u_yth : Int32) (u_ybd : Int32) (u_yro : Int32) (u_yrow : Nat → Int32) (u_ymk : Nat → Int32) (u_yrm : Int32) (u_yst : Nat → Int32) (u_ypc : Int32) (u_ybn : Int32) (u_ymd : Nat → Int32) (u_ybg : Nat → Int32) (u_ymm : Int32) (u_yup : Int64) (u_yun : Int64) (hm : X3_rebuild F yth ybd yro yrow ymk yrm yst ypc ybu ybn ymd ybg ymm yup yun p1 p2 = some (r, u_yth, u_ybd, u_yro, u_yrow, u_ymk, u_yrm, u_yst, u_ypc, u_ybn, u_ymd, u_ybg, u_ymm, u_yup, u_yun)) : Met l yX3_rebuild wsX3_rebuild ({ frames := 2, cells := 0, slots := 0, locals := 56 }) (va_Pc [.ref (md 0), .int p1, .int p2] (zW (dC, dI) (wM cI cZ md yth ybd yro yrow ymk yrm yst ypc ybu ybn ymg ysp yjn ymd ybg ymm yup yun) [(cI, .int), (cZ, .boolean)] sz)) (zQi (dC, dI) (wM cI cZ md u_yth u_ybd u_yro u_yrow u_ymk u_yrm u_yst u_ypc ybu u_ybn ymg ysp yjn u_ymd u_ybg u_ymm u_yup u_yun) [(cI, .int), (cZ, .boolean)] (va_A (wM cI cZ md yth ybd yro yrow ymk yrm yst ypc ybu ybn ymg ysp yjn ymd ybg ymm yup yun) sz) r) 0 0 (va_A (wM cI cZ md yth ybd yro yrow ymk yrm yst ypc ybu ybn ymg ysp yjn ymd ybg ymm yup yun) sz) := by
  refine Met.ofW (cc := cX3_rebuild) (maxL := 4) (ret := (some .int)) (by decide) rfl ?_
  intro p e s m args below meth c s₁ B hml hv
  obtain ⟨rfl, hsz, hP, hK, hD0⟩ := hv
  have hx := B.exec
  have hb := B.bytes
  have hr := B.returns
  have hts := atoms_spec (ws := wsX3_rebuild) B.pre
  have hown : s.vm.findClass RX3 = some m.cls := findClass_of_methodNamed B.named
  have hlocks := B.notSynchronized
  subst hsz
  have hD := hD0.self (sz := s.heap.size)
  generalize hAe : va_A (wM cI cZ md yth ybd yro yrow ymk yrm yst ypc ybu ybn ymg ysp yjn ymd ybg ymm yup yun) s.heap.size = A at hD ⊢
  have hA : ∀ q : Nat, s.heap.size ≤ q → A q := fun q h => by rw [← hAe]; exact Or.inr h
  have hS : va_S A s.heap s.heap [] := va_S.rf
  generalize eL : ([] : List Loc) = locs at hS ⊢
  obtain ⟨H, eH⟩ : ∃ z : Heap, z = s.heap := ⟨_, rfl⟩
  have hP : va_P (dC, dI) vwCl (wM cI cZ md yth ybd yro yrow ymk yrm yst ypc ybu ybn ymg ysp yjn ymd ybg ymm yup yun) H := by rw [eH]; exact hP
  have hS : va_S A s.heap H locs := by rw [eH]; exact hS
  refine z_heap eH ?_
  have hl := lv_entry ([.ref (md 0), .int p1, .int p2]) (n := 4) (Nat.le_of_ble_eq_true rfl)
  rw [lg_entry_eq]
  generalize (lg_sl ([.ref (md 0), .int p1, .int p2]) ++ List.replicate (4 - (lg_sl ([.ref (md 0), .int p1, .int p2])).length) Slot.unset).toArray = ls at hl ⊢
  have hl : lv_has ls 4 [(0, .ref (md 0)), (1, .int p1), (2, .int p2)] := hl
  have zw0 := hts (.fieldLink RX3 36 "LearnedLedgeModel" "thrown" "I") (List.mem_cons_of_mem _ (List.mem_append_left _ (List.mem_append_left _ (List.mem_of_getElem? (i := 0) rfl))))
  have zw1 := hts (.fieldLink RX3 7 "LearnedLedgeModel" "bound" "I") (List.mem_cons_of_mem _ (List.mem_append_left _ (List.mem_append_left _ (List.mem_of_getElem? (i := 1) rfl))))
  have zw2 := hts (.fieldLink RX3 13 "LearnedLedgeModel" "room" "I") (List.mem_cons_of_mem _ (List.mem_append_left _ (List.mem_append_left _ (List.mem_of_getElem? (i := 2) rfl))))
  have zw3 := hts (.fieldLink RX3 102 "LearnedLedgeModel" "madeMany" "I") (List.mem_cons_of_mem _ (List.mem_append_left _ (List.mem_append_left _ (List.mem_of_getElem? (i := 3) rfl))))
  have zw4 := hts (.fieldLink RX3 51 "LearnedLedgeModel" "rowMany" "I") (List.mem_cons_of_mem _ (List.mem_append_left _ (List.mem_append_left _ (List.mem_of_getElem? (i := 4) rfl))))
  have zw5 := hts (.fieldLink RX3 20 "LearnedLedgeModel" "isMarked" "[Z") (List.mem_cons_of_mem _ (List.mem_append_left _ (List.mem_append_left _ (List.mem_of_getElem? (i := 5) rfl))))
  have zw6 := hts (.fieldLink RX3 16 "LearnedLedgeModel" "row" "[I") (List.mem_cons_of_mem _ (List.mem_append_left _ (List.mem_append_left _ (List.mem_of_getElem? (i := 6) rfl))))
  have zw7 := hts (.fieldLink RX3 69 "LearnedLedgeModel" "buffered" "I") (List.mem_cons_of_mem _ (List.mem_append_left _ (List.mem_append_left _ (List.mem_of_getElem? (i := 7) rfl))))
  have zw8 := hts (.fieldLink RX3 27 "LearnedLedgeModel" "buffer" "[I") (List.mem_cons_of_mem _ (List.mem_append_left _ (List.mem_append_left _ (List.mem_of_getElem? (i := 8) rfl))))
  have zw9 := hts (.fieldLink RX3 48 "LearnedLedgeModel" "pieces" "I") (List.mem_cons_of_mem _ (List.mem_append_left _ (List.mem_append_left _ (List.mem_of_getElem? (i := 9) rfl))))
  have ziX3 : ∀ w ∈ u_ws RX3 TX3 18, w ∈ wsX3_rebuild := (fun _ h9 => (List.mem_cons_of_mem _ (List.mem_append_right _ h9)))
  refine lv_aload_n hx hb dX3_rebuild_0 rfl (lv_at hl 0 rfl) ?_
  refine lv_iload_n hx hb dX3_rebuild_1 rfl (lv_at hl 1 rfl) ?_
  obtain ⟨y27, e_y27⟩ : ∃ y : Int32, y = (if p1 < 0 then 1 else (if 20 < p1 then 1 else (if p2 < 1 then 1 else (if p2 ≤ 16 then 0 else 1)))) := ⟨_, rfl⟩
  have hm := bnd_e hm e_y27
  have J_27 : W p l e (headSpec wsX3_rebuild ({ frames := 2, cells := 0, slots := 0, locals := 56 } : Room)).room s m ([.ref (md 0), .int p1, .int p2] : List Value).toArray below meth c H locs 0 0 (MQ below (zQi (dC, dI) (wM cI cZ md u_yth u_ybd u_yro u_yrow u_ymk u_yrm u_yst u_ypc ybu u_ybn ymg ysp yjn u_ymd u_ybg u_ymm u_yup u_yun) [(cI, .int), (cZ, .boolean)] A r) ([.ref (md 0), .int p1, .int p2] : List Value).toArray s 0 0 A) (F0 m 27 ls [.int y27, .ref (md 0)]) := by
    refine va_put (D := (dC, dI)) (ci := 3) (v := .int y27) (ty := .int) (C := RX3) (T := TX3) (N := 18) hx hb hts ziX3 tyX3 tyX3_ok nmX3 hown hK hP hD hS 0 rfl rfl 0 (by decide) zw0 (fun _ h9 => h9) rfl (by decide +kernel) rfl rfl (Nat.le_of_ble_eq_true rfl) dX3_rebuild_27 (fun H locs hP hD hS => ?_)
    have hP : va_P (dC, dI) vwCl (wM cI cZ md y27 ybd yro yrow ymk yrm yst ypc ybu ybn ymg ysp yjn ymd ybg ymm yup yun) H := hP
    have hD : va_D A (wM cI cZ md y27 ybd yro yrow ymk yrm yst ypc ybu ybn ymg ysp yjn ymd ybg ymm yup yun) := hD
    refine lv_aload_n hx hb dX3_rebuild_30 rfl (lv_at hl 0 rfl) ?_
    refine va_get (D := (dC, dI)) (ci := 3) (v := .int y27) (C := RX3) (T := TX3) (N := 18) hx hb hts ziX3 hown hK hP 0 rfl rfl 0 (by decide) zw0 (fun _ h9 => h9) rfl dX3_rebuild_31 ?_
    refine lv_if_le (tgt := 39) hx hb dX3_rebuild_34 (by decide) (fun c_34 => ?_) (fun c_34 => ?_)
    · have hm := it_t hm c_34
      refine lv_aload_n hx hb dX3_rebuild_39 rfl (lv_at hl 0 rfl) ?_
      refine lv_iload_n hx hb dX3_rebuild_40 rfl (lv_at hl 1 rfl) ?_
      refine va_put (D := (dC, dI)) (ci := 3) (v := .int p1) (ty := .int) (C := RX3) (T := TX3) (N := 18) hx hb hts ziX3 tyX3 tyX3_ok nmX3 hown hK hP hD hS 0 rfl rfl 1 (by decide) zw1 (fun _ h9 => h9) rfl (by decide +kernel) rfl rfl (Nat.le_of_ble_eq_true rfl) dX3_rebuild_41 (fun H locs hP hD hS => ?_)
      have hP : va_P (dC, dI) vwCl (wM cI cZ md y27 p1 yro yrow ymk yrm yst ypc ybu ybn ymg ysp yjn ymd ybg ymm yup yun) H := hP
      have hD : va_D A (wM cI cZ md y27 p1 yro yrow ymk yrm yst ypc ybu ybn ymg ysp yjn ymd ybg ymm yup yun) := hD
      refine lv_aload_n hx hb dX3_rebuild_44 rfl (lv_at hl 0 rfl) ?_
      refine lv_iload_n hx hb dX3_rebuild_45 rfl (lv_at hl 2 rfl) ?_
      refine va_put (D := (dC, dI)) (ci := 3) (v := .int p2) (ty := .int) (C := RX3) (T := TX3) (N := 18) hx hb hts ziX3 tyX3 tyX3_ok nmX3 hown hK hP hD hS 0 rfl rfl 2 (by decide) zw2 (fun _ h9 => h9) rfl (by decide +kernel) rfl rfl (Nat.le_of_ble_eq_true rfl) dX3_rebuild_46 (fun H locs hP hD hS => ?_)
      have hP : va_P (dC, dI) vwCl (wM cI cZ md y27 p1 p2 yrow ymk yrm yst ypc ybu ybn ymg ysp yjn ymd ybg ymm yup yun) H := hP
      have hD : va_D A (wM cI cZ md y27 p1 p2 yrow ymk yrm yst ypc ybu ybn ymg ysp yjn ymd ybg ymm yup yun) := hD
      refine lv_aload_n hx hb dX3_rebuild_49 rfl (lv_at hl 0 rfl) ?_
      refine lv_iconst (v := 0) hx hb dX3_rebuild_50 (by decide) ?_
      refine va_put (D := (dC, dI)) (ci := 3) (v := .int 0) (ty := .int) (C := RX3) (T := TX3) (N := 18) hx hb hts ziX3 tyX3 tyX3_ok nmX3 hown hK hP hD hS 0 rfl rfl 15 (by decide) zw3 (fun _ h9 => h9) rfl (by decide +kernel) rfl rfl (Nat.le_of_ble_eq_true rfl) dX3_rebuild_51 (fun H locs hP hD hS => ?_)
      have hP : va_P (dC, dI) vwCl (wM cI cZ md y27 p1 p2 yrow ymk yrm yst ypc ybu ybn ymg ysp yjn ymd ybg 0 yup yun) H := hP
      have hD : va_D A (wM cI cZ md y27 p1 p2 yrow ymk yrm yst ypc ybu ybn ymg ysp yjn ymd ybg 0 yup yun) := hD
      refine lv_iconst (v := 0) hx hb dX3_rebuild_54 (by decide) ?_
      refine lv_istore_n (lv' := [(3, .int 0), (0, .ref (md 0)), (1, .int p1), (2, .int p2)]) hx hb dX3_rebuild_55 rfl hl (by decide) rfl (fun ls hl => ?_)
      obtain ⟨z_56, hq_56, hm⟩ := ob hm
      have K_56 : ∀ (ymdx56 : Nat → Int32), ∀ (ymmx56 : Int32), z_56 = (ymdx56, ymmx56) → ∀ (H : Heap) (locs : List Loc), va_P (dC, dI) vwCl (wM cI cZ md y27 p1 p2 yrow ymk yrm yst ypc ybu ybn ymg ysp yjn ymdx56 ybg ymmx56 yup yun) H → va_D A (wM cI cZ md y27 p1 p2 yrow ymk yrm yst ypc ybu ybn ymg ysp yjn ymdx56 ybg ymmx56 yup yun) → va_S A s.heap H locs → ∀ (ls : Array Slot), lv_has ls 4 [(0, .ref (md 0))] → W p l e (headSpec wsX3_rebuild ({ frames := 2, cells := 0, slots := 0, locals := 56 } : Room)).room s m ([.ref (md 0), .int p1, .int p2] : List Value).toArray below meth c H locs 0 0 (MQ below (zQi (dC, dI) (wM cI cZ md u_yth u_ybd u_yro u_yrow u_ymk u_yrm u_yst u_ypc ybu u_ybn ymg ysp yjn u_ymd u_ybg u_ymm u_yup u_yun) [(cI, .int), (cZ, .boolean)] A r) ([.ref (md 0), .int p1, .int p2] : List Value).toArray s 0 0 A) (F0 m 89 ls []) := by
        intro ymdx56 ymmx56 ez H locs hP hD hS ls hl
        rw [ez] at hm
        refine lv_iconst (v := 0) hx hb dX3_rebuild_89 (by decide) ?_
        refine lv_istore_n (lv' := [(3, .int 0), (0, .ref (md 0))]) hx hb dX3_rebuild_90 rfl hl (by decide) rfl (fun ls hl => ?_)
        obtain ⟨z_91, hq_91, hm⟩ := ob hm
        have K_91 : ∀ (ymdx91 : Nat → Int32), ∀ (ymmx91 : Int32), z_91 = (ymdx91, ymmx91) → ∀ (H : Heap) (locs : List Loc), va_P (dC, dI) vwCl (wM cI cZ md y27 p1 p2 yrow ymk yrm yst ypc ybu ybn ymg ysp yjn ymdx91 ybg ymmx91 yup yun) H → va_D A (wM cI cZ md y27 p1 p2 yrow ymk yrm yst ypc ybu ybn ymg ysp yjn ymdx91 ybg ymmx91 yup yun) → va_S A s.heap H locs → ∀ (ls : Array Slot), lv_has ls 4 [(0, .ref (md 0))] → W p l e (headSpec wsX3_rebuild ({ frames := 2, cells := 0, slots := 0, locals := 56 } : Room)).room s m ([.ref (md 0), .int p1, .int p2] : List Value).toArray below meth c H locs 0 0 (MQ below (zQi (dC, dI) (wM cI cZ md u_yth u_ybd u_yro u_yrow u_ymk u_yrm u_yst u_ypc ybu u_ybn ymg ysp yjn u_ymd u_ybg u_ymm u_yup u_yun) [(cI, .int), (cZ, .boolean)] A r) ([.ref (md 0), .int p1, .int p2] : List Value).toArray s 0 0 A) (F0 m 115 ls []) := by
          intro ymdx91 ymmx91 ez H locs hP hD hS ls hl
          rw [ez] at hm
          refine lv_aload_n hx hb dX3_rebuild_115 rfl (lv_at hl 0 rfl) ?_
          refine lv_aload_n hx hb dX3_rebuild_116 rfl (lv_at hl 0 rfl) ?_
          refine lv_iconst (v := 0) hx hb dX3_rebuild_117 (by decide) ?_
          refine lv_iconst (v := 0) hx hb dX3_rebuild_118 (by decide) ?_
          obtain ⟨⟨r119, ybg119, yup119, yun119⟩, h_119, hm⟩ := ob hm
          refine z_callWi (wc := (wM cI cZ md y27 p1 p2 yrow ymk yrm yst ypc ybu ybn ymg ysp yjn ymdx91 ybg ymmx91 yup yun)) (w1 := (wM cI cZ md y27 p1 p2 yrow ymk yrm yst ypc ybu ybn ymg ysp yjn ymdx91 ybg119 ymmx91 yup119 yun119)) (ws := (wM cI cZ md y27 p1 p2 yrow ymk yrm yst ypc ybu ybn ymg ysp yjn ymdx91 ybg ymmx91 yup yun)) (ws' := (wM cI cZ md y27 p1 p2 yrow ymk yrm yst ypc ybu ybn ymg ysp yjn ymdx91 ybg119 ymmx91 yup119 yun119)) (As := [.int 0, .int 0]) (rest := [.ref (md 0)]) (ci := 3) (q := (RX3, TX3, 18)) ⟨hx, hb, hml, hown, hts⟩ (c_X3_cuts l dC dI cI cZ md y27 p1 p2 yrow ymk yrm yst ypc ybu ybn ymg ysp yjn ymdx91 ybg ymmx91 yup yun F 0 0 H.size r119 ybg119 yup119 yun119 h_119) (cwV 2 hts gX3_rebuild_X3_cuts rfl rfl rfl kv_X3_cuts ⟨Nat.le_of_ble_eq_true rfl, Nat.le_of_ble_eq_true rfl⟩) hK hP hD hS hA (z_spAll (wM cI cZ md y27 p1 p2 yrow ymk yrm yst ypc ybu ybn ymg ysp yjn ymdx91 ybg ymmx91 yup yun) (wM cI cZ md y27 p1 p2 yrow ymk yrm yst ypc ybu ybn ymg ysp yjn ymdx91 ybg119 ymmx91 yup119 yun119)) ((paM cI cZ md y27 p1 p2 yrow ymk yrm yst ypc ybu ybn ymg ysp yjn ymdx91 ybg119 ymmx91 yup119 yun119).trans (paM cI cZ md y27 p1 p2 yrow ymk yrm yst ypc ybu ybn ymg ysp yjn ymdx91 ybg ymmx91 yup yun).symm) rfl rfl rfl rfl hl.1 rfl (Nat.le_of_ble_eq_true rfl) dX3_rebuild_119 ⟨Nat.zero_le _, Nat.zero_le _⟩ (fun H locs hP hD hS => ?_)
          obtain ⟨⟨yrow122, ymk122, yrm122, yst122, ypc122, ybn122⟩, h_122, hm⟩ := ob hm
          refine z_callWv (wc := (wM cI cZ md y27 p1 p2 yrow ymk yrm yst ypc ybu ybn ymg ysp yjn ymdx91 ybg119 ymmx91 yup119 yun119)) (w1 := (wM cI cZ md y27 p1 p2 yrow122 ymk122 yrm122 yst122 ypc122 ybu ybn122 ymg ysp yjn ymdx91 ybg119 ymmx91 yup119 yun119)) (ws := (wM cI cZ md y27 p1 p2 yrow ymk yrm yst ypc ybu ybn ymg ysp yjn ymdx91 ybg119 ymmx91 yup119 yun119)) (ws' := (wM cI cZ md y27 p1 p2 yrow122 ymk122 yrm122 yst122 ypc122 ybu ybn122 ymg ysp yjn ymdx91 ybg119 ymmx91 yup119 yun119)) (As := [.int r119]) (rest := []) (ci := 3) (q := (RX3, TX3, 18)) ⟨hx, hb, hml, hown, hts⟩ (c_X3_becomes l dC dI cI cZ md y27 p1 p2 yrow ymk yrm yst ypc ybu ybn ymg ysp yjn ymdx91 ybg119 ymmx91 yup119 yun119 F r119 H.size yrow122 ymk122 yrm122 yst122 ypc122 ybn122 h_122) (cwV 1 hts gX3_rebuild_X3_becomes rfl rfl rfl kv_X3_becomes ⟨Nat.le_of_ble_eq_true rfl, Nat.le_of_ble_eq_true rfl⟩) hK hP hD hS hA (z_spAll (wM cI cZ md y27 p1 p2 yrow ymk yrm yst ypc ybu ybn ymg ysp yjn ymdx91 ybg119 ymmx91 yup119 yun119) (wM cI cZ md y27 p1 p2 yrow122 ymk122 yrm122 yst122 ypc122 ybu ybn122 ymg ysp yjn ymdx91 ybg119 ymmx91 yup119 yun119)) ((paM cI cZ md y27 p1 p2 yrow122 ymk122 yrm122 yst122 ypc122 ybu ybn122 ymg ysp yjn ymdx91 ybg119 ymmx91 yup119 yun119).trans (paM cI cZ md y27 p1 p2 yrow ymk yrm yst ypc ybu ybn ymg ysp yjn ymdx91 ybg119 ymmx91 yup119 yun119).symm) rfl rfl rfl rfl hl.1 rfl (Nat.le_of_ble_eq_true rfl) dX3_rebuild_122 ⟨Nat.zero_le _, Nat.zero_le _⟩ (fun H locs hP hD hS => ?_)
          refine lv_aload_n hx hb dX3_rebuild_125 rfl (lv_at hl 0 rfl) ?_
          refine va_get (D := (dC, dI)) (ci := 3) (v := .int ypc122) (C := RX3) (T := TX3) (N := 18) hx hb hts ziX3 hown hK hP 0 rfl rfl 7 (by decide) zw9 (fun _ h9 => h9) rfl dX3_rebuild_126 ?_
          cases o2 hm
          exact W.iret hx hb hr (fun t ht hW => ⟨⟨_, (), rfl, rfl, by rw [ht]; exact hP, va_K.moved hW.alike hK, hD⟩, hS.F ht⟩) hS.2.2 dX3_rebuild_129
        have L_91 : ∀ (n : Nat) (x3_3 : Int32) (ymdl91 : Nat → Int32) (ymml91 : Int32), X3_rebuild_L91 ybu ybn F n x3_3 ymdl91 ymml91 = some z_91 → ∀ (H : Heap) (locs : List Loc), va_P (dC, dI) vwCl (wM cI cZ md y27 p1 p2 yrow ymk yrm yst ypc ybu ybn ymg ysp yjn ymdl91 ybg ymml91 yup yun) H → va_D A (wM cI cZ md y27 p1 p2 yrow ymk yrm yst ypc ybu ybn ymg ysp yjn ymdl91 ybg ymml91 yup yun) → va_S A s.heap H locs → ∀ (ls : Array Slot), lv_has ls 4 [(3, .int x3_3), (0, .ref (md 0))] → W p l e (headSpec wsX3_rebuild ({ frames := 2, cells := 0, slots := 0, locals := 56 } : Room)).room s m ([.ref (md 0), .int p1, .int p2] : List Value).toArray below meth c H locs 0 0 (MQ below (zQi (dC, dI) (wM cI cZ md u_yth u_ybd u_yro u_yrow u_ymk u_yrm u_yst u_ypc ybu u_ybn ymg ysp yjn u_ymd u_ybg u_ymm u_yup u_yun) [(cI, .int), (cZ, .boolean)] A r) ([.ref (md 0), .int p1, .int p2] : List Value).toArray s 0 0 A) (F0 m 91 ls []) := by
          intro n
          induction n with
          | zero => intro x3_3 ymdl91 ymml91 hm; cases hm
          | succ n ih_91 =>
            intro x3_3 ymdl91 ymml91 hm H locs hP hD hS ls hl
            refine lv_iload_n hx hb dX3_rebuild_91 rfl (lv_at hl 0 rfl) ?_
            refine lv_aload_n hx hb dX3_rebuild_92 rfl (lv_at hl 1 rfl) ?_
            refine va_get (D := (dC, dI)) (ci := 3) (v := .int ybn) (C := RX3) (T := TX3) (N := 18) hx hb hts ziX3 hown hK hP 0 rfl rfl 9 (by decide) zw7 (fun _ h9 => h9) rfl dX3_rebuild_93 ?_
            refine lv_icmp_ge (tgt := 115) hx hb dX3_rebuild_96 (by decide) (fun c_96 => ?_) (fun c_96 => ?_)
            · have hm := it_t hm c_96
              exact K_91 ymdl91 ymml91 (o2 hm) _ _ hP hD hS _ (lv_sub hl [1] rfl)
            · have hm := it_f hm c_96
              refine lv_aload_n hx hb dX3_rebuild_99 rfl (lv_at hl 1 rfl) ?_
              refine lv_aload_n hx hb dX3_rebuild_100 rfl (lv_at hl 1 rfl) ?_
              refine va_get (D := (dC, dI)) (ci := 3) (v := .ref (md 4)) (C := RX3) (T := TX3) (N := 18) hx hb hts ziX3 hown hK hP 0 rfl rfl 8 (by decide) zw8 (fun _ h9 => h9) rfl dX3_rebuild_101 ?_
              refine lv_iload_n hx hb dX3_rebuild_104 rfl (lv_at hl 0 rfl) ?_
              obtain ⟨c_105, hm⟩ := ck hm
              refine va_iald hx hb hK hP 4 0 rfl rfl c_105 dX3_rebuild_105 ?_
              obtain ⟨⟨ymd106, ymm106⟩, h_106, hm⟩ := ob hm
              refine z_callWv (wc := (wM cI cZ md y27 p1 p2 yrow ymk yrm yst ypc ybu ybn ymg ysp yjn ymdl91 ybg ymml91 yup yun)) (w1 := (wM cI cZ md y27 p1 p2 yrow ymk yrm yst ypc ybu ybn ymg ysp yjn ymd106 ybg ymm106 yup yun)) (ws := (wM cI cZ md y27 p1 p2 yrow ymk yrm yst ypc ybu ybn ymg ysp yjn ymdl91 ybg ymml91 yup yun)) (ws' := (wM cI cZ md y27 p1 p2 yrow ymk yrm yst ypc ybu ybn ymg ysp yjn ymd106 ybg ymm106 yup yun)) (As := [.int (ybu (Int32.toNatClampNeg x3_3))]) (rest := []) (ci := 3) (q := (RX3, TX3, 18)) ⟨hx, hb, hml, hown, hts⟩ (c_X3_makes l dC dI cI cZ md y27 p1 p2 yrow ymk yrm yst ypc ybu ybn ymg ysp yjn ymdl91 ybg ymml91 yup yun F (ybu (Int32.toNatClampNeg x3_3)) H.size ymd106 ymm106 h_106) (cwV 1 hts gX3_rebuild_X3_makes rfl rfl rfl kv_X3_makes ⟨Nat.le_of_ble_eq_true rfl, Nat.le_of_ble_eq_true rfl⟩) hK hP hD hS hA (z_spAll (wM cI cZ md y27 p1 p2 yrow ymk yrm yst ypc ybu ybn ymg ysp yjn ymdl91 ybg ymml91 yup yun) (wM cI cZ md y27 p1 p2 yrow ymk yrm yst ypc ybu ybn ymg ysp yjn ymd106 ybg ymm106 yup yun)) ((paM cI cZ md y27 p1 p2 yrow ymk yrm yst ypc ybu ybn ymg ysp yjn ymd106 ybg ymm106 yup yun).trans (paM cI cZ md y27 p1 p2 yrow ymk yrm yst ypc ybu ybn ymg ysp yjn ymdl91 ybg ymml91 yup yun).symm) rfl rfl rfl rfl hl.1 rfl (Nat.le_of_ble_eq_true rfl) dX3_rebuild_106 ⟨Nat.zero_le _, Nat.zero_le _⟩ (fun H locs hP hD hS => ?_)
              obtain ⟨x3_4, e_x3_4⟩ : ∃ y : Int32, y = x3_3 + 1 := ⟨_, rfl⟩
              have hm := bnd_e hm e_x3_4
              refine lv_iinc (v := x3_4) (lv' := [(3, .int x3_4), (0, .ref (md 0))]) hx hb dX3_rebuild_109 hl (k := 0) rfl (by rw [e_x3_4]; rfl) (by decide) rfl (fun ls hl => ?_)
              refine lv_goto (tgt := 91) hx hb dX3_rebuild_112 (by decide) ?_
              exact ih_91 x3_4 ymd106 ymm106 hm _ _ hP hD hS _ (lv_sub hl [0, 1] rfl)
        exact L_91 F 0 ymdx56 ymmx56 hq_91 _ _ hP hD hS _ (lv_sub hl [0, 1] rfl)
      have L_56 : ∀ (n : Nat) (x3 : Int32) (ymdl56 : Nat → Int32) (ymml56 : Int32), X3_rebuild_L56 yrow ymk yrm F n x3 ymdl56 ymml56 = some z_56 → ∀ (H : Heap) (locs : List Loc), va_P (dC, dI) vwCl (wM cI cZ md y27 p1 p2 yrow ymk yrm yst ypc ybu ybn ymg ysp yjn ymdl56 ybg ymml56 yup yun) H → va_D A (wM cI cZ md y27 p1 p2 yrow ymk yrm yst ypc ybu ybn ymg ysp yjn ymdl56 ybg ymml56 yup yun) → va_S A s.heap H locs → ∀ (ls : Array Slot), lv_has ls 4 [(3, .int x3), (0, .ref (md 0))] → W p l e (headSpec wsX3_rebuild ({ frames := 2, cells := 0, slots := 0, locals := 56 } : Room)).room s m ([.ref (md 0), .int p1, .int p2] : List Value).toArray below meth c H locs 0 0 (MQ below (zQi (dC, dI) (wM cI cZ md u_yth u_ybd u_yro u_yrow u_ymk u_yrm u_yst u_ypc ybu u_ybn ymg ysp yjn u_ymd u_ybg u_ymm u_yup u_yun) [(cI, .int), (cZ, .boolean)] A r) ([.ref (md 0), .int p1, .int p2] : List Value).toArray s 0 0 A) (F0 m 56 ls []) := by
        intro n
        induction n with
        | zero => intro x3 ymdl56 ymml56 hm; cases hm
        | succ n ih_56 =>
          intro x3 ymdl56 ymml56 hm H locs hP hD hS ls hl
          refine lv_iload_n hx hb dX3_rebuild_56 rfl (lv_at hl 0 rfl) ?_
          refine lv_aload_n hx hb dX3_rebuild_57 rfl (lv_at hl 1 rfl) ?_
          refine va_get (D := (dC, dI)) (ci := 3) (v := .int yrm) (C := RX3) (T := TX3) (N := 18) hx hb hts ziX3 hown hK hP 0 rfl rfl 5 (by decide) zw4 (fun _ h9 => h9) rfl dX3_rebuild_58 ?_
          refine lv_icmp_ge (tgt := 89) hx hb dX3_rebuild_61 (by decide) (fun c_61 => ?_) (fun c_61 => ?_)
          · have hm := it_t hm c_61
            exact K_56 ymdl56 ymml56 (o2 hm) _ _ hP hD hS _ (lv_sub hl [1] rfl)
          · have hm := it_f hm c_61
            refine lv_aload_n hx hb dX3_rebuild_64 rfl (lv_at hl 1 rfl) ?_
            refine va_get (D := (dC, dI)) (ci := 3) (v := .ref (md 2)) (C := RX3) (T := TX3) (N := 18) hx hb hts ziX3 hown hK hP 0 rfl rfl 4 (by decide) zw5 (fun _ h9 => h9) rfl dX3_rebuild_65 ?_
            refine lv_iload_n hx hb dX3_rebuild_68 rfl (lv_at hl 0 rfl) ?_
            obtain ⟨c_69, hm⟩ := ck hm
            refine va_zald hx hb hK hP 2 1 rfl rfl c_69 dX3_rebuild_69 ?_
            refine lv_if_ne (tgt := 83) hx hb dX3_rebuild_70 (by decide) (fun c_70 => ?_) (fun c_70 => ?_)
            · have hm := it_f hm c_70
              obtain ⟨x3_1, e_x3_1⟩ : ∃ y : Int32, y = x3 + 1 := ⟨_, rfl⟩
              have hm := bnd_e hm e_x3_1
              refine lv_iinc (v := x3_1) (lv' := [(3, .int x3_1), (0, .ref (md 0))]) hx hb dX3_rebuild_83 hl (k := 0) rfl (by rw [e_x3_1]; rfl) (by decide) rfl (fun ls hl => ?_)
              refine lv_goto (tgt := 56) hx hb dX3_rebuild_86 (by decide) ?_
              exact ih_56 x3_1 ymdl56 ymml56 hm _ _ hP hD hS _ (lv_sub hl [0, 1] rfl)
            · have hm := it_t hm c_70
              refine lv_aload_n hx hb dX3_rebuild_73 rfl (lv_at hl 1 rfl) ?_
              refine lv_aload_n hx hb dX3_rebuild_74 rfl (lv_at hl 1 rfl) ?_
              refine va_get (D := (dC, dI)) (ci := 3) (v := .ref (md 1)) (C := RX3) (T := TX3) (N := 18) hx hb hts ziX3 hown hK hP 0 rfl rfl 3 (by decide) zw6 (fun _ h9 => h9) rfl dX3_rebuild_75 ?_
              refine lv_iload_n hx hb dX3_rebuild_78 rfl (lv_at hl 0 rfl) ?_
              obtain ⟨c_79, hm⟩ := ck hm
              refine va_iald hx hb hK hP 1 0 rfl rfl c_79 dX3_rebuild_79 ?_
              obtain ⟨⟨ymd80, ymm80⟩, h_80, hm⟩ := ob hm
              refine z_callWv (wc := (wM cI cZ md y27 p1 p2 yrow ymk yrm yst ypc ybu ybn ymg ysp yjn ymdl56 ybg ymml56 yup yun)) (w1 := (wM cI cZ md y27 p1 p2 yrow ymk yrm yst ypc ybu ybn ymg ysp yjn ymd80 ybg ymm80 yup yun)) (ws := (wM cI cZ md y27 p1 p2 yrow ymk yrm yst ypc ybu ybn ymg ysp yjn ymdl56 ybg ymml56 yup yun)) (ws' := (wM cI cZ md y27 p1 p2 yrow ymk yrm yst ypc ybu ybn ymg ysp yjn ymd80 ybg ymm80 yup yun)) (As := [.int (yrow (Int32.toNatClampNeg x3))]) (rest := []) (ci := 3) (q := (RX3, TX3, 18)) ⟨hx, hb, hml, hown, hts⟩ (c_X3_makes l dC dI cI cZ md y27 p1 p2 yrow ymk yrm yst ypc ybu ybn ymg ysp yjn ymdl56 ybg ymml56 yup yun F (yrow (Int32.toNatClampNeg x3)) H.size ymd80 ymm80 h_80) (cwV 1 hts gX3_rebuild_X3_makes rfl rfl rfl kv_X3_makes ⟨Nat.le_of_ble_eq_true rfl, Nat.le_of_ble_eq_true rfl⟩) hK hP hD hS hA (z_spAll (wM cI cZ md y27 p1 p2 yrow ymk yrm yst ypc ybu ybn ymg ysp yjn ymdl56 ybg ymml56 yup yun) (wM cI cZ md y27 p1 p2 yrow ymk yrm yst ypc ybu ybn ymg ysp yjn ymd80 ybg ymm80 yup yun)) ((paM cI cZ md y27 p1 p2 yrow ymk yrm yst ypc ybu ybn ymg ysp yjn ymd80 ybg ymm80 yup yun).trans (paM cI cZ md y27 p1 p2 yrow ymk yrm yst ypc ybu ybn ymg ysp yjn ymdl56 ybg ymml56 yup yun).symm) rfl rfl rfl rfl hl.1 rfl (Nat.le_of_ble_eq_true rfl) dX3_rebuild_80 ⟨Nat.zero_le _, Nat.zero_le _⟩ (fun H locs hP hD hS => ?_)
              obtain ⟨x3_2, e_x3_2⟩ : ∃ y : Int32, y = x3 + 1 := ⟨_, rfl⟩
              have hm := bnd_e hm e_x3_2
              refine lv_iinc (v := x3_2) (lv' := [(3, .int x3_2), (0, .ref (md 0))]) hx hb dX3_rebuild_83 hl (k := 0) rfl (by rw [e_x3_2]; rfl) (by decide) rfl (fun ls hl => ?_)
              refine lv_goto (tgt := 56) hx hb dX3_rebuild_86 (by decide) ?_
              exact ih_56 x3_2 ymd80 ymm80 hm _ _ hP hD hS _ (lv_sub hl [0, 1] rfl)
      exact L_56 F 0 ymd 0 hq_56 _ _ hP hD hS _ (lv_sub hl [0, 1] rfl)
    · have hm := it_f hm c_34
      refine lv_iconst (v := 0) hx hb dX3_rebuild_37 (by decide) ?_
      cases o2 hm
      exact W.iret hx hb hr (fun t ht hW => ⟨⟨_, (), rfl, rfl, by rw [ht]; exact hP, va_K.moved hW.alike hK, hD⟩, hS.F ht⟩) hS.2.2 dX3_rebuild_38
  refine lv_if_lt (tgt := 22) hx hb dX3_rebuild_2 (by decide) (fun c_2 => ?_) (fun c_2 => ?_)
  · refine lv_iconst (v := 1) hx hb dX3_rebuild_22 (by decide) ?_
    refine lv_goto (tgt := 27) hx hb dX3_rebuild_23 (by decide) ?_
    have e9 : y27 = 1 := by rw [e_y27, if_pos c_2]
    rw [e9] at J_27
    exact J_27
  · refine lv_iload_n hx hb dX3_rebuild_5 rfl (lv_at hl 1 rfl) ?_
    refine lv_bipush (v := 20) hx hb dX3_rebuild_6 (by decide) ?_
    refine lv_icmp_gt (tgt := 22) hx hb dX3_rebuild_8 (by decide) (fun c_8 => ?_) (fun c_8 => ?_)
    · refine lv_iconst (v := 1) hx hb dX3_rebuild_22 (by decide) ?_
      refine lv_goto (tgt := 27) hx hb dX3_rebuild_23 (by decide) ?_
      have e9 : y27 = 1 := by rw [e_y27, if_neg c_2, if_pos c_8]
      rw [e9] at J_27
      exact J_27
    · refine lv_iload_n hx hb dX3_rebuild_11 rfl (lv_at hl 2 rfl) ?_
      refine lv_iconst (v := 1) hx hb dX3_rebuild_12 (by decide) ?_
      refine lv_icmp_lt (tgt := 22) hx hb dX3_rebuild_13 (by decide) (fun c_13 => ?_) (fun c_13 => ?_)
      · refine lv_iconst (v := 1) hx hb dX3_rebuild_22 (by decide) ?_
        refine lv_goto (tgt := 27) hx hb dX3_rebuild_23 (by decide) ?_
        have e9 : y27 = 1 := by rw [e_y27, if_neg c_2, if_neg c_8, if_pos c_13]
        rw [e9] at J_27
        exact J_27
      · refine lv_iload_n hx hb dX3_rebuild_16 rfl (lv_at hl 2 rfl) ?_
        refine lv_bipush (v := 16) hx hb dX3_rebuild_17 (by decide) ?_
        refine lv_icmp_le (tgt := 26) hx hb dX3_rebuild_19 (by decide) (fun c_19 => ?_) (fun c_19 => ?_)
        · refine lv_iconst (v := 0) hx hb dX3_rebuild_26 (by decide) ?_
          have e9 : y27 = 0 := by rw [e_y27, if_neg c_2, if_neg c_8, if_neg c_13, if_pos c_19]
          rw [e9] at J_27
          exact J_27
        · refine lv_iconst (v := 1) hx hb dX3_rebuild_22 (by decide) ?_
          refine lv_goto (tgt := 27) hx hb dX3_rebuild_23 (by decide) ?_
          have e9 : y27 = 1 := by rw [e_y27, if_neg c_2, if_neg c_8, if_neg c_13, if_neg c_19]
          rw [e9] at J_27
          exact J_27
set_option maxHeartbeats 4000000 in
set_option maxRecDepth 100000 in
theorem c_X3_size (l : Launch) (dC : Nat → ClassId) (dI : Nat → Nat → Nat) (cI : ClassId) (cZ : ClassId) (md : Nat → Nat) (yth : Int32) (ybd : Int32) (yro : Int32) (yrow : Nat → Int32) (ymk : Nat → Int32) (yrm : Int32) (yst : Nat → Int32) (ypc : Int32) (ybu : Nat → Int32) (ybn : Int32) (ymg : Int32) (ysp : Int32) (yjn : Int32) (ymd : Nat → Int32) (ybg : Nat → Int32) (ymm : Int32) (yup : Int64) (yun : Int64) (F : Nat) (sz : Nat) (r : Int32) (u_yth : Int32) (hm : X3_size F yth yrow ymk yrm ybu ybn = some (r, u_yth)) : Met l yX3_size wsX3_size ({ frames := 2, cells := 0, slots := 0, locals := 44 }) (va_Pc [.ref (md 0)] (zW (dC, dI) (wM cI cZ md yth ybd yro yrow ymk yrm yst ypc ybu ybn ymg ysp yjn ymd ybg ymm yup yun) [(cI, .int), (cZ, .boolean)] sz)) (zQi (dC, dI) (wM cI cZ md u_yth ybd yro yrow ymk yrm yst ypc ybu ybn ymg ysp yjn ymd ybg ymm yup yun) [(cI, .int), (cZ, .boolean)] (va_A (wM cI cZ md yth ybd yro yrow ymk yrm yst ypc ybu ybn ymg ysp yjn ymd ybg ymm yup yun) sz) r) 0 0 (va_A (wM cI cZ md yth ybd yro yrow ymk yrm yst ypc ybu ybn ymg ysp yjn ymd ybg ymm yup yun) sz) := by
  refine Met.ofW (cc := cX3_size) (maxL := 1) (ret := (some .int)) (by decide) rfl ?_
  intro p e s m args below meth c s₁ B hml hv
  obtain ⟨rfl, hsz, hP, hK, hD0⟩ := hv
  have hx := B.exec
  have hb := B.bytes
  have hr := B.returns
  have hts := atoms_spec (ws := wsX3_size) B.pre
  have hown : s.vm.findClass RX3 = some m.cls := findClass_of_methodNamed B.named
  have hlocks := B.notSynchronized
  subst hsz
  have hD := hD0.self (sz := s.heap.size)
  generalize hAe : va_A (wM cI cZ md yth ybd yro yrow ymk yrm yst ypc ybu ybn ymg ysp yjn ymd ybg ymm yup yun) s.heap.size = A at hD ⊢
  have hA : ∀ q : Nat, s.heap.size ≤ q → A q := fun q h => by rw [← hAe]; exact Or.inr h
  have hS : va_S A s.heap s.heap [] := va_S.rf
  generalize eL : ([] : List Loc) = locs at hS ⊢
  obtain ⟨H, eH⟩ : ∃ z : Heap, z = s.heap := ⟨_, rfl⟩
  have hP : va_P (dC, dI) vwCl (wM cI cZ md yth ybd yro yrow ymk yrm yst ypc ybu ybn ymg ysp yjn ymd ybg ymm yup yun) H := by rw [eH]; exact hP
  have hS : va_S A s.heap H locs := by rw [eH]; exact hS
  refine z_heap eH ?_
  have hl := lv_entry ([.ref (md 0)]) (n := 1) (Nat.le_of_ble_eq_true rfl)
  rw [lg_entry_eq]
  generalize (lg_sl ([.ref (md 0)]) ++ List.replicate (1 - (lg_sl ([.ref (md 0)])).length) Slot.unset).toArray = ls at hl ⊢
  have hl : lv_has ls 1 [(0, .ref (md 0))] := hl
  have zw0 := hts (.fieldLink RX3 36 "LearnedLedgeModel" "thrown" "I") (List.mem_cons_of_mem _ (List.mem_append_left _ (List.mem_of_getElem? (i := 0) rfl)))
  have ziX3 : ∀ w ∈ u_ws RX3 TX3 18, w ∈ wsX3_size := (fun _ h9 => (List.mem_cons_of_mem _ (List.mem_append_right _ h9)))
  refine lv_aload_n hx hb dX3_size_0 rfl (lv_at hl 0 rfl) ?_
  refine lv_iconst (v := 0) hx hb dX3_size_1 (by decide) ?_
  refine va_put (D := (dC, dI)) (ci := 3) (v := .int 0) (ty := .int) (C := RX3) (T := TX3) (N := 18) hx hb hts ziX3 tyX3 tyX3_ok nmX3 hown hK hP hD hS 0 rfl rfl 0 (by decide) zw0 (fun _ h9 => h9) rfl (by decide +kernel) rfl rfl (Nat.le_of_ble_eq_true rfl) dX3_size_2 (fun H locs hP hD hS => ?_)
  have hP : va_P (dC, dI) vwCl (wM cI cZ md 0 ybd yro yrow ymk yrm yst ypc ybu ybn ymg ysp yjn ymd ybg ymm yup yun) H := hP
  have hD : va_D A (wM cI cZ md 0 ybd yro yrow ymk yrm yst ypc ybu ybn ymg ysp yjn ymd ybg ymm yup yun) := hD
  refine lv_aload_n hx hb dX3_size_5 rfl (lv_at hl 0 rfl) ?_
  obtain ⟨r6, h_6, hm⟩ := ob hm
  refine z_callRi (As := []) (rest := []) (ci := 3) (q := (RX3, TX3, 18)) ⟨hx, hb, hml, hown, hts⟩ (c_X3_keys l dC dI cI cZ md 0 ybd yro yrow ymk yrm yst ypc ybu ybn ymg ysp yjn ymd ybg ymm yup yun F r6 h_6) (cwV 0 hts gX3_size_X3_keys rfl rfl rfl kv_X3_keys ⟨Nat.le_of_ble_eq_true rfl, Nat.le_of_ble_eq_true rfl⟩) hK hP rfl rfl rfl rfl hl.1 rfl (Nat.le_of_ble_eq_true rfl) dX3_size_6 ⟨Nat.zero_le _, Nat.zero_le _⟩ ?_
  cases o2 hm
  exact W.iret hx hb hr (fun t ht hW => ⟨⟨_, (), rfl, rfl, by rw [ht]; exact hP, va_K.moved hW.alike hK, hD⟩, hS.F ht⟩) hS.2.2 dX3_size_9
set_option maxHeartbeats 4000000 in
set_option maxRecDepth 100000 in
theorem c_X3_contains (l : Launch) (dC : Nat → ClassId) (dI : Nat → Nat → Nat) (cI : ClassId) (cZ : ClassId) (md : Nat → Nat) (yth : Int32) (ybd : Int32) (yro : Int32) (yrow : Nat → Int32) (ymk : Nat → Int32) (yrm : Int32) (yst : Nat → Int32) (ypc : Int32) (ybu : Nat → Int32) (ybn : Int32) (ymg : Int32) (ysp : Int32) (yjn : Int32) (ymd : Nat → Int32) (ybg : Nat → Int32) (ymm : Int32) (yup : Int64) (yun : Int64) (F : Nat) (p1 : Int32) (sz : Nat) (r : Int32) (u_yth : Int32) (hm : X3_contains F yth yrow ymk yrm ybu ybn p1 = some (r, u_yth)) : Met l yX3_contains wsX3_contains ({ frames := 3, cells := 0, slots := 0, locals := 65 }) (va_Pc [.ref (md 0), .int p1] (zW (dC, dI) (wM cI cZ md yth ybd yro yrow ymk yrm yst ypc ybu ybn ymg ysp yjn ymd ybg ymm yup yun) [(cI, .int), (cZ, .boolean)] sz)) (zQi (dC, dI) (wM cI cZ md u_yth ybd yro yrow ymk yrm yst ypc ybu ybn ymg ysp yjn ymd ybg ymm yup yun) [(cI, .int), (cZ, .boolean)] (va_A (wM cI cZ md yth ybd yro yrow ymk yrm yst ypc ybu ybn ymg ysp yjn ymd ybg ymm yup yun) sz) r) 0 0 (va_A (wM cI cZ md yth ybd yro yrow ymk yrm yst ypc ybu ybn ymg ysp yjn ymd ybg ymm yup yun) sz) := by
  refine Met.ofW (cc := cX3_contains) (maxL := 2) (ret := (some .boolean)) (by decide) rfl ?_
  intro p e s m args below meth c s₁ B hml hv
  obtain ⟨rfl, hsz, hP, hK, hD0⟩ := hv
  have hx := B.exec
  have hb := B.bytes
  have hr := B.returns
  have hts := atoms_spec (ws := wsX3_contains) B.pre
  have hown : s.vm.findClass RX3 = some m.cls := findClass_of_methodNamed B.named
  have hlocks := B.notSynchronized
  subst hsz
  have hD := hD0.self (sz := s.heap.size)
  generalize hAe : va_A (wM cI cZ md yth ybd yro yrow ymk yrm yst ypc ybu ybn ymg ysp yjn ymd ybg ymm yup yun) s.heap.size = A at hD ⊢
  have hA : ∀ q : Nat, s.heap.size ≤ q → A q := fun q h => by rw [← hAe]; exact Or.inr h
  have hS : va_S A s.heap s.heap [] := va_S.rf
  generalize eL : ([] : List Loc) = locs at hS ⊢
  obtain ⟨H, eH⟩ : ∃ z : Heap, z = s.heap := ⟨_, rfl⟩
  have hP : va_P (dC, dI) vwCl (wM cI cZ md yth ybd yro yrow ymk yrm yst ypc ybu ybn ymg ysp yjn ymd ybg ymm yup yun) H := by rw [eH]; exact hP
  have hS : va_S A s.heap H locs := by rw [eH]; exact hS
  refine z_heap eH ?_
  have hl := lv_entry ([.ref (md 0), .int p1]) (n := 2) (Nat.le_of_ble_eq_true rfl)
  rw [lg_entry_eq]
  generalize (lg_sl ([.ref (md 0), .int p1]) ++ List.replicate (2 - (lg_sl ([.ref (md 0), .int p1])).length) Slot.unset).toArray = ls at hl ⊢
  have hl : lv_has ls 2 [(0, .ref (md 0)), (1, .int p1)] := hl
  have zw0 := hts (.fieldLink RX3 36 "LearnedLedgeModel" "thrown" "I") (List.mem_cons_of_mem _ (List.mem_append_left _ (List.mem_of_getElem? (i := 0) rfl)))
  have ziX3 : ∀ w ∈ u_ws RX3 TX3 18, w ∈ wsX3_contains := (fun _ h9 => (List.mem_cons_of_mem _ (List.mem_append_right _ h9)))
  refine lv_aload_n hx hb dX3_contains_0 rfl (lv_at hl 0 rfl) ?_
  refine lv_iconst (v := 0) hx hb dX3_contains_1 (by decide) ?_
  refine va_put (D := (dC, dI)) (ci := 3) (v := .int 0) (ty := .int) (C := RX3) (T := TX3) (N := 18) hx hb hts ziX3 tyX3 tyX3_ok nmX3 hown hK hP hD hS 0 rfl rfl 0 (by decide) zw0 (fun _ h9 => h9) rfl (by decide +kernel) rfl rfl (Nat.le_of_ble_eq_true rfl) dX3_contains_2 (fun H locs hP hD hS => ?_)
  have hP : va_P (dC, dI) vwCl (wM cI cZ md 0 ybd yro yrow ymk yrm yst ypc ybu ybn ymg ysp yjn ymd ybg ymm yup yun) H := hP
  have hD : va_D A (wM cI cZ md 0 ybd yro yrow ymk yrm yst ypc ybu ybn ymg ysp yjn ymd ybg ymm yup yun) := hD
  refine lv_aload_n hx hb dX3_contains_5 rfl (lv_at hl 0 rfl) ?_
  refine lv_iload_n hx hb dX3_contains_6 rfl (lv_at hl 1 rfl) ?_
  obtain ⟨r7, h_7, hm⟩ := ob hm
  refine z_callRi (As := [.int p1]) (rest := []) (ci := 3) (q := (RX3, TX3, 18)) ⟨hx, hb, hml, hown, hts⟩ (c_X3_isThere l dC dI cI cZ md 0 ybd yro yrow ymk yrm yst ypc ybu ybn ymg ysp yjn ymd ybg ymm yup yun F p1 r7 h_7) (cwV 1 hts gX3_contains_X3_isThere rfl rfl rfl kv_X3_isThere ⟨Nat.le_of_ble_eq_true rfl, Nat.le_of_ble_eq_true rfl⟩) hK hP rfl rfl rfl rfl hl.1 rfl (Nat.le_of_ble_eq_true rfl) dX3_contains_7 ⟨Nat.zero_le _, Nat.zero_le _⟩ ?_
  obtain ⟨c_10, hm⟩ := ck hm
  cases o2 hm
  exact W.zret hx hb hr (nar_b c_10) (fun t ht hW => ⟨⟨_, (), rfl, rfl, by rw [ht]; exact hP, va_K.moved hW.alike hK, hD⟩, hS.F ht⟩) hS.2.2 dX3_contains_10
set_option maxHeartbeats 4000000 in
set_option maxRecDepth 100000 in
theorem c_X3_rank (l : Launch) (dC : Nat → ClassId) (dI : Nat → Nat → Nat) (cI : ClassId) (cZ : ClassId) (md : Nat → Nat) (yth : Int32) (ybd : Int32) (yro : Int32) (yrow : Nat → Int32) (ymk : Nat → Int32) (yrm : Int32) (yst : Nat → Int32) (ypc : Int32) (ybu : Nat → Int32) (ybn : Int32) (ymg : Int32) (ysp : Int32) (yjn : Int32) (ymd : Nat → Int32) (ybg : Nat → Int32) (ymm : Int32) (yup : Int64) (yun : Int64) (F : Nat) (p1 : Int32) (sz : Nat) (r : Int32) (u_yth : Int32) (hm : X3_rank F yth yrow ymk yrm ybu ybn p1 = some (r, u_yth)) : Met l yX3_rank wsX3_rank ({ frames := 1, cells := 0, slots := 0, locals := 24 }) (va_Pc [.ref (md 0), .int p1] (zW (dC, dI) (wM cI cZ md yth ybd yro yrow ymk yrm yst ypc ybu ybn ymg ysp yjn ymd ybg ymm yup yun) [(cI, .int), (cZ, .boolean)] sz)) (zQi (dC, dI) (wM cI cZ md u_yth ybd yro yrow ymk yrm yst ypc ybu ybn ymg ysp yjn ymd ybg ymm yup yun) [(cI, .int), (cZ, .boolean)] (va_A (wM cI cZ md yth ybd yro yrow ymk yrm yst ypc ybu ybn ymg ysp yjn ymd ybg ymm yup yun) sz) r) 0 0 (va_A (wM cI cZ md yth ybd yro yrow ymk yrm yst ypc ybu ybn ymg ysp yjn ymd ybg ymm yup yun) sz) := by
  refine Met.ofW (cc := cX3_rank) (maxL := 2) (ret := (some .int)) (by decide) rfl ?_
  intro p e s m args below meth c s₁ B hml hv
  obtain ⟨rfl, hsz, hP, hK, hD0⟩ := hv
  have hx := B.exec
  have hb := B.bytes
  have hr := B.returns
  have hts := atoms_spec (ws := wsX3_rank) B.pre
  have hown : s.vm.findClass RX3 = some m.cls := findClass_of_methodNamed B.named
  have hlocks := B.notSynchronized
  subst hsz
  have hD := hD0.self (sz := s.heap.size)
  generalize hAe : va_A (wM cI cZ md yth ybd yro yrow ymk yrm yst ypc ybu ybn ymg ysp yjn ymd ybg ymm yup yun) s.heap.size = A at hD ⊢
  have hA : ∀ q : Nat, s.heap.size ≤ q → A q := fun q h => by rw [← hAe]; exact Or.inr h
  have hS : va_S A s.heap s.heap [] := va_S.rf
  generalize eL : ([] : List Loc) = locs at hS ⊢
  obtain ⟨H, eH⟩ : ∃ z : Heap, z = s.heap := ⟨_, rfl⟩
  have hP : va_P (dC, dI) vwCl (wM cI cZ md yth ybd yro yrow ymk yrm yst ypc ybu ybn ymg ysp yjn ymd ybg ymm yup yun) H := by rw [eH]; exact hP
  have hS : va_S A s.heap H locs := by rw [eH]; exact hS
  refine z_heap eH ?_
  have hl := lv_entry ([.ref (md 0), .int p1]) (n := 2) (Nat.le_of_ble_eq_true rfl)
  rw [lg_entry_eq]
  generalize (lg_sl ([.ref (md 0), .int p1]) ++ List.replicate (2 - (lg_sl ([.ref (md 0), .int p1])).length) Slot.unset).toArray = ls at hl ⊢
  have hl : lv_has ls 2 [(0, .ref (md 0)), (1, .int p1)] := hl
  have zw0 := hts (.fieldLink RX3 36 "LearnedLedgeModel" "thrown" "I") (List.mem_cons_of_mem _ (List.mem_append_left _ (List.mem_of_getElem? (i := 0) rfl)))
  have ziX3 : ∀ w ∈ u_ws RX3 TX3 18, w ∈ wsX3_rank := (fun _ h9 => (List.mem_cons_of_mem _ (List.mem_append_right _ h9)))
  refine lv_aload_n hx hb dX3_rank_0 rfl (lv_at hl 0 rfl) ?_
  refine lv_iconst (v := 0) hx hb dX3_rank_1 (by decide) ?_
  refine va_put (D := (dC, dI)) (ci := 3) (v := .int 0) (ty := .int) (C := RX3) (T := TX3) (N := 18) hx hb hts ziX3 tyX3 tyX3_ok nmX3 hown hK hP hD hS 0 rfl rfl 0 (by decide) zw0 (fun _ h9 => h9) rfl (by decide +kernel) rfl rfl (Nat.le_of_ble_eq_true rfl) dX3_rank_2 (fun H locs hP hD hS => ?_)
  have hP : va_P (dC, dI) vwCl (wM cI cZ md 0 ybd yro yrow ymk yrm yst ypc ybu ybn ymg ysp yjn ymd ybg ymm yup yun) H := hP
  have hD : va_D A (wM cI cZ md 0 ybd yro yrow ymk yrm yst ypc ybu ybn ymg ysp yjn ymd ybg ymm yup yun) := hD
  refine lv_aload_n hx hb dX3_rank_5 rfl (lv_at hl 0 rfl) ?_
  refine lv_iload_n hx hb dX3_rank_6 rfl (lv_at hl 1 rfl) ?_
  refine lv_i2l hx hb dX3_rank_7 rfl ?_
  obtain ⟨r8, h_8, hm⟩ := ob hm
  refine z_callRi (As := [.long (Int32.toInt64 p1)]) (rest := []) (ci := 3) (q := (RX3, TX3, 18)) ⟨hx, hb, hml, hown, hts⟩ (c_X3_below l dC dI cI cZ md 0 ybd yro yrow ymk yrm yst ypc ybu ybn ymg ysp yjn ymd ybg ymm yup yun F (Int32.toInt64 p1) r8 h_8) (cwV 1 hts gX3_rank_X3_below rfl rfl rfl kv_X3_below ⟨Nat.le_of_ble_eq_true rfl, Nat.le_of_ble_eq_true rfl⟩) hK hP rfl rfl rfl rfl hl.1 rfl (Nat.le_of_ble_eq_true rfl) dX3_rank_8 ⟨Nat.zero_le _, Nat.zero_le _⟩ ?_
  cases o2 hm
  exact W.iret hx hb hr (fun t ht hW => ⟨⟨_, (), rfl, rfl, by rw [ht]; exact hP, va_K.moved hW.alike hK, hD⟩, hS.F ht⟩) hS.2.2 dX3_rank_11
