set_option maxHeartbeats 4000000 in
set_option maxRecDepth 100000 in
theorem c_X3_ends (l : Launch) (dC : Nat → ClassId) (dI : Nat → Nat → Nat) (cI : ClassId) (cZ : ClassId) (md : Nat → Nat) (yth : Int32) (ybd : Int32) (yro : Int32) (yrow : Nat → Int32) (ymk : Nat → Int32) (yrm : Int32) (yst : Nat → Int32) (ypc : Int32) (ybu : Nat → Int32) (ybn : Int32) (ymg : Int32) (ysp : Int32) (yjn : Int32) (ymd : Nat → Int32) (ybg : Nat → Int32) (ymm : Int32) (yup : Int64) (yun : Int64) (F : Nat) (p1 : Int32) (sz : Nat) (u_yrow : Nat → Int32) (u_ymk : Nat → Int32) (u_yrm : Int32) (u_yst : Nat → Int32) (u_ypc : Int32) (u_yup : Int64) (u_yun : Int64) (hm : X3_ends F ybd yrow ymk yrm yst ypc yup yun p1 = some (u_yrow, u_ymk, u_yrm, u_yst, u_ypc, u_yup, u_yun)) : Met l yX3_ends wsX3_ends ({ frames := 1, cells := 0, slots := 0, locals := 32 }) (va_Pc [.ref (md 0), .int p1] (zW (dC, dI) (wM cI cZ md yth ybd yro yrow ymk yrm yst ypc ybu ybn ymg ysp yjn ymd ybg ymm yup yun) [(cI, .int), (cZ, .boolean)] sz)) (zQv (dC, dI) (wM cI cZ md yth ybd yro u_yrow u_ymk u_yrm u_yst u_ypc ybu ybn ymg ysp yjn ymd ybg ymm u_yup u_yun) [(cI, .int), (cZ, .boolean)] (va_A (wM cI cZ md yth ybd yro yrow ymk yrm yst ypc ybu ybn ymg ysp yjn ymd ybg ymm yup yun) sz)) 0 0 (va_A (wM cI cZ md yth ybd yro yrow ymk yrm yst ypc ybu ybn ymg ysp yjn ymd ybg ymm yup yun) sz) := by
  refine Met.ofW (cc := cX3_ends) (maxL := 2) (ret := none) (by decide) rfl ?_
  intro p e s m args below meth c s₁ B hml hv
  obtain ⟨rfl, hsz, hP, hK, hD0⟩ := hv
  have hx := B.exec
  have hb := B.bytes
  have hr := B.returns
  have hts := atoms_spec (ws := wsX3_ends) B.pre
  have hown : s.vm.findClass RX3 = some m.cls := findClass_of_methodNamed B.named
  have hlocks := B.notSynchronized
  subst hsz
  have hD := hD0.self (sz := s.heap.size)
  generalize hAe : va_A (wM cI cZ md yth ybd yro yrow ymk yrm yst ypc ybu ybn ymg ysp yjn ymd ybg ymm yup yun) s.heap.size = A at hD ⊢
  have hA : ∀ q : Nat, s.heap.size ≤ q → A q := fun q h => by rw [← hAe]; exact Or.inr h
  have hS : va_S A s.heap s.heap [] := va_S.rf
  generalize eL : ([] : List Loc) = locs at hS ⊢
  obtain ⟨H, eH⟩ : ∃ z : Heap, z = s.heap := ⟨_, rfl⟩
  have hP : va_P (dC, dI) vwCl (wM cI cZ md yth ybd yro yrow ymk yrm yst ypc ybu ybn ymg ysp yjn ymd ybg ymm yup yun) H := by rw [eH]; exact hP
  have hS : va_S A s.heap H locs := by rw [eH]; exact hS
  refine z_heap eH ?_
  have hl := lv_entry ([.ref (md 0), .int p1]) (n := 2) (Nat.le_of_ble_eq_true rfl)
  rw [lg_entry_eq]
  generalize (lg_sl ([.ref (md 0), .int p1]) ++ List.replicate (2 - (lg_sl ([.ref (md 0), .int p1])).length) Slot.unset).toArray = ls at hl ⊢
  have hl : lv_has ls 2 [(0, .ref (md 0)), (1, .int p1)] := hl
  have zw0 := hts (.fieldLink RX3 16 "LearnedLedgeModel" "row" "[I") (List.mem_cons_of_mem _ (List.mem_append_left _ (List.mem_of_getElem? (i := 0) rfl)))
  have zw1 := hts (.fieldLink RX3 51 "LearnedLedgeModel" "rowMany" "I") (List.mem_cons_of_mem _ (List.mem_append_left _ (List.mem_of_getElem? (i := 1) rfl)))
  have zw2 := hts (.fieldLink RX3 20 "LearnedLedgeModel" "isMarked" "[Z") (List.mem_cons_of_mem _ (List.mem_append_left _ (List.mem_of_getElem? (i := 2) rfl)))
  have zw3 := hts (.fieldLink RX3 48 "LearnedLedgeModel" "pieces" "I") (List.mem_cons_of_mem _ (List.mem_append_left _ (List.mem_of_getElem? (i := 3) rfl)))
  have zw4 := hts (.fieldLink RX3 24 "LearnedLedgeModel" "start" "[I") (List.mem_cons_of_mem _ (List.mem_append_left _ (List.mem_of_getElem? (i := 4) rfl)))
  have ziX3 : ∀ w ∈ u_ws RX3 TX3 18, w ∈ wsX3_ends := (fun _ h9 => (List.mem_cons_of_mem _ (List.mem_append_right _ h9)))
  refine lv_aload_n hx hb dX3_ends_0 rfl (lv_at hl 0 rfl) ?_
  refine va_get (D := (dC, dI)) (ci := 3) (v := .ref (md 1)) (C := RX3) (T := TX3) (N := 18) hx hb hts ziX3 hown hK hP 0 rfl rfl 3 (by decide) zw0 (fun _ h9 => h9) rfl dX3_ends_1 ?_
  refine lv_aload_n hx hb dX3_ends_4 rfl (lv_at hl 0 rfl) ?_
  refine va_get (D := (dC, dI)) (ci := 3) (v := .int yrm) (C := RX3) (T := TX3) (N := 18) hx hb hts ziX3 hown hK hP 0 rfl rfl 5 (by decide) zw1 (fun _ h9 => h9) rfl dX3_ends_5 ?_
  refine lv_iload_n hx hb dX3_ends_8 rfl (lv_at hl 1 rfl) ?_
  obtain ⟨c_9, hm⟩ := ck hm
  refine va_iast hx hb hK hP hD hS 1 0 rfl rfl c_9 dX3_ends_9 (fun H locs hP hD hS => ?_)
  have hP : va_P (dC, dI) vwCl (wM cI cZ md yth ybd yro (upd yrow (Int32.toNatClampNeg yrm) p1) ymk yrm yst ypc ybu ybn ymg ysp yjn ymd ybg ymm yup yun) H := hP
  have hD : va_D A (wM cI cZ md yth ybd yro (upd yrow (Int32.toNatClampNeg yrm) p1) ymk yrm yst ypc ybu ybn ymg ysp yjn ymd ybg ymm yup yun) := hD
  refine lv_aload_n hx hb dX3_ends_10 rfl (lv_at hl 0 rfl) ?_
  refine va_get (D := (dC, dI)) (ci := 3) (v := .ref (md 2)) (C := RX3) (T := TX3) (N := 18) hx hb hts ziX3 hown hK hP 0 rfl rfl 4 (by decide) zw2 (fun _ h9 => h9) rfl dX3_ends_11 ?_
  refine lv_aload_n hx hb dX3_ends_14 rfl (lv_at hl 0 rfl) ?_
  refine va_get (D := (dC, dI)) (ci := 3) (v := .int yrm) (C := RX3) (T := TX3) (N := 18) hx hb hts ziX3 hown hK hP 0 rfl rfl 5 (by decide) zw1 (fun _ h9 => h9) rfl dX3_ends_15 ?_
  refine lv_iconst (v := 0) hx hb dX3_ends_18 (by decide) ?_
  obtain ⟨c_19, hm⟩ := ck hm
  refine va_zast hx hb hK hP hD hS 2 1 rfl rfl c_19 dX3_ends_19 (fun H locs hP hD hS => ?_)
  have hP : va_P (dC, dI) vwCl (wM cI cZ md yth ybd yro (upd yrow (Int32.toNatClampNeg yrm) p1) (upd ymk (Int32.toNatClampNeg yrm) 0) yrm yst ypc ybu ybn ymg ysp yjn ymd ybg ymm yup yun) H := hP
  have hD : va_D A (wM cI cZ md yth ybd yro (upd yrow (Int32.toNatClampNeg yrm) p1) (upd ymk (Int32.toNatClampNeg yrm) 0) yrm yst ypc ybu ybn ymg ysp yjn ymd ybg ymm yup yun) := hD
  refine lv_aload_n hx hb dX3_ends_20 rfl (lv_at hl 0 rfl) ?_
  refine lv_dup hx hb dX3_ends_21 rfl ?_
  refine va_get (D := (dC, dI)) (ci := 3) (v := .int yrm) (C := RX3) (T := TX3) (N := 18) hx hb hts ziX3 hown hK hP 0 rfl rfl 5 (by decide) zw1 (fun _ h9 => h9) rfl dX3_ends_22 ?_
  refine lv_iconst (v := 1) hx hb dX3_ends_25 (by decide) ?_
  refine lv_iadd hx hb dX3_ends_26 ?_
  refine va_put (D := (dC, dI)) (ci := 3) (v := .int (yrm + 1)) (ty := .int) (C := RX3) (T := TX3) (N := 18) hx hb hts ziX3 tyX3 tyX3_ok nmX3 hown hK hP hD hS 0 rfl rfl 5 (by decide) zw1 (fun _ h9 => h9) rfl (by decide +kernel) rfl rfl (Nat.le_of_ble_eq_true rfl) dX3_ends_27 (fun H locs hP hD hS => ?_)
  have hP : va_P (dC, dI) vwCl (wM cI cZ md yth ybd yro (upd yrow (Int32.toNatClampNeg yrm) p1) (upd ymk (Int32.toNatClampNeg yrm) 0) (yrm + 1) yst ypc ybu ybn ymg ysp yjn ymd ybg ymm yup yun) H := hP
  have hD : va_D A (wM cI cZ md yth ybd yro (upd yrow (Int32.toNatClampNeg yrm) p1) (upd ymk (Int32.toNatClampNeg yrm) 0) (yrm + 1) yst ypc ybu ybn ymg ysp yjn ymd ybg ymm yup yun) := hD
  refine lv_aload_n hx hb dX3_ends_30 rfl (lv_at hl 0 rfl) ?_
  refine va_get (D := (dC, dI)) (ci := 3) (v := .int ypc) (C := RX3) (T := TX3) (N := 18) hx hb hts ziX3 hown hK hP 0 rfl rfl 7 (by decide) zw3 (fun _ h9 => h9) rfl dX3_ends_31 ?_
  refine lv_if_eq (tgt := 63) hx hb dX3_ends_34 (by decide) (fun c_34 => ?_) (fun c_34 => ?_)
  · have hm := it_t hm c_34
    refine lv_aload_n hx hb dX3_ends_63 rfl (lv_at hl 0 rfl) ?_
    refine va_get (D := (dC, dI)) (ci := 3) (v := .ref (md 3)) (C := RX3) (T := TX3) (N := 18) hx hb hts ziX3 hown hK hP 0 rfl rfl 6 (by decide) zw4 (fun _ h9 => h9) rfl dX3_ends_64 ?_
    refine lv_aload_n hx hb dX3_ends_67 rfl (lv_at hl 0 rfl) ?_
    refine va_get (D := (dC, dI)) (ci := 3) (v := .int ypc) (C := RX3) (T := TX3) (N := 18) hx hb hts ziX3 hown hK hP 0 rfl rfl 7 (by decide) zw3 (fun _ h9 => h9) rfl dX3_ends_68 ?_
    refine lv_aload_n hx hb dX3_ends_71 rfl (lv_at hl 0 rfl) ?_
    refine va_get (D := (dC, dI)) (ci := 3) (v := .int (yrm + 1)) (C := RX3) (T := TX3) (N := 18) hx hb hts ziX3 hown hK hP 0 rfl rfl 5 (by decide) zw1 (fun _ h9 => h9) rfl dX3_ends_72 ?_
    refine lv_iconst (v := 1) hx hb dX3_ends_75 (by decide) ?_
    refine lv_isub hx hb dX3_ends_76 ?_
    obtain ⟨c_77, hm⟩ := ck hm
    refine va_iast hx hb hK hP hD hS 3 0 rfl rfl c_77 dX3_ends_77 (fun H locs hP hD hS => ?_)
    have hP : va_P (dC, dI) vwCl (wM cI cZ md yth ybd yro (upd yrow (Int32.toNatClampNeg yrm) p1) (upd ymk (Int32.toNatClampNeg yrm) 0) (yrm + 1) (upd yst (Int32.toNatClampNeg ypc) ((yrm + 1) - 1)) ypc ybu ybn ymg ysp yjn ymd ybg ymm yup yun) H := hP
    have hD : va_D A (wM cI cZ md yth ybd yro (upd yrow (Int32.toNatClampNeg yrm) p1) (upd ymk (Int32.toNatClampNeg yrm) 0) (yrm + 1) (upd yst (Int32.toNatClampNeg ypc) ((yrm + 1) - 1)) ypc ybu ybn ymg ysp yjn ymd ybg ymm yup yun) := hD
    refine lv_aload_n hx hb dX3_ends_78 rfl (lv_at hl 0 rfl) ?_
    refine lv_dup hx hb dX3_ends_79 rfl ?_
    refine va_get (D := (dC, dI)) (ci := 3) (v := .int ypc) (C := RX3) (T := TX3) (N := 18) hx hb hts ziX3 hown hK hP 0 rfl rfl 7 (by decide) zw3 (fun _ h9 => h9) rfl dX3_ends_80 ?_
    refine lv_iconst (v := 1) hx hb dX3_ends_83 (by decide) ?_
    refine lv_iadd hx hb dX3_ends_84 ?_
    refine va_put (D := (dC, dI)) (ci := 3) (v := .int (ypc + 1)) (ty := .int) (C := RX3) (T := TX3) (N := 18) hx hb hts ziX3 tyX3 tyX3_ok nmX3 hown hK hP hD hS 0 rfl rfl 7 (by decide) zw3 (fun _ h9 => h9) rfl (by decide +kernel) rfl rfl (Nat.le_of_ble_eq_true rfl) dX3_ends_85 (fun H locs hP hD hS => ?_)
    have hP : va_P (dC, dI) vwCl (wM cI cZ md yth ybd yro (upd yrow (Int32.toNatClampNeg yrm) p1) (upd ymk (Int32.toNatClampNeg yrm) 0) (yrm + 1) (upd yst (Int32.toNatClampNeg ypc) ((yrm + 1) - 1)) (ypc + 1) ybu ybn ymg ysp yjn ymd ybg ymm yup yun) H := hP
    have hD : va_D A (wM cI cZ md yth ybd yro (upd yrow (Int32.toNatClampNeg yrm) p1) (upd ymk (Int32.toNatClampNeg yrm) 0) (yrm + 1) (upd yst (Int32.toNatClampNeg ypc) ((yrm + 1) - 1)) (ypc + 1) ybu ybn ymg ysp yjn ymd ybg ymm yup yun) := hD
    cases o2 hm
    exact W.vret hx hb hr (fun t ht hW => ⟨⟨(), rfl, trivial, by rw [ht]; exact hP, va_K.moved hW.alike hK, hD⟩, hS.F ht⟩) hS.2.2 dX3_ends_88
  · have hm := it_f hm c_34
    refine lv_aload_n hx hb dX3_ends_37 rfl (lv_at hl 0 rfl) ?_
    refine lv_aload_n hx hb dX3_ends_38 rfl (lv_at hl 0 rfl) ?_
    refine va_get (D := (dC, dI)) (ci := 3) (v := .ref (md 1)) (C := RX3) (T := TX3) (N := 18) hx hb hts ziX3 hown hK hP 0 rfl rfl 3 (by decide) zw0 (fun _ h9 => h9) rfl dX3_ends_39 ?_
    refine lv_aload_n hx hb dX3_ends_42 rfl (lv_at hl 0 rfl) ?_
    refine va_get (D := (dC, dI)) (ci := 3) (v := .ref (md 3)) (C := RX3) (T := TX3) (N := 18) hx hb hts ziX3 hown hK hP 0 rfl rfl 6 (by decide) zw4 (fun _ h9 => h9) rfl dX3_ends_43 ?_
    refine lv_aload_n hx hb dX3_ends_46 rfl (lv_at hl 0 rfl) ?_
    refine va_get (D := (dC, dI)) (ci := 3) (v := .int ypc) (C := RX3) (T := TX3) (N := 18) hx hb hts ziX3 hown hK hP 0 rfl rfl 7 (by decide) zw3 (fun _ h9 => h9) rfl dX3_ends_47 ?_
    refine lv_iconst (v := 1) hx hb dX3_ends_50 (by decide) ?_
    refine lv_isub hx hb dX3_ends_51 ?_
    obtain ⟨c_52, hm⟩ := ck hm
    refine va_iald hx hb hK hP 3 0 rfl rfl c_52 dX3_ends_52 ?_
    refine lv_aload_n hx hb dX3_ends_53 rfl (lv_at hl 0 rfl) ?_
    refine va_get (D := (dC, dI)) (ci := 3) (v := .int (yrm + 1)) (C := RX3) (T := TX3) (N := 18) hx hb hts ziX3 hown hK hP 0 rfl rfl 5 (by decide) zw1 (fun _ h9 => h9) rfl dX3_ends_54 ?_
    obtain ⟨⟨r57, yup57, yun57⟩, h_57, hm⟩ := ob hm
    refine z_callWi (wc := (wM cI cZ md yth ybd yro (upd yrow (Int32.toNatClampNeg yrm) p1) (upd ymk (Int32.toNatClampNeg yrm) 0) (yrm + 1) yst ypc ybu ybn ymg ysp yjn ymd ybg ymm yup yun)) (w1 := (wM cI cZ md yth ybd yro (upd yrow (Int32.toNatClampNeg yrm) p1) (upd ymk (Int32.toNatClampNeg yrm) 0) (yrm + 1) yst ypc ybu ybn ymg ysp yjn ymd ybg ymm yup57 yun57)) (ws := (wM cI cZ md yth ybd yro (upd yrow (Int32.toNatClampNeg yrm) p1) (upd ymk (Int32.toNatClampNeg yrm) 0) (yrm + 1) yst ypc ybu ybn ymg ysp yjn ymd ybg ymm yup yun)) (ws' := (wM cI cZ md yth ybd yro (upd yrow (Int32.toNatClampNeg yrm) p1) (upd ymk (Int32.toNatClampNeg yrm) 0) (yrm + 1) yst ypc ybu ybn ymg ysp yjn ymd ybg ymm yup57 yun57)) (As := [.ref (md 1), .int (yst (Int32.toNatClampNeg (ypc - 1))), .int (yrm + 1)]) (rest := []) (ci := 3) (q := (RX3, TX3, 18)) ⟨hx, hb, hml, hown, hts⟩ (c_X3_fits_row l dC dI cI cZ md yth ybd yro (upd yrow (Int32.toNatClampNeg yrm) p1) (upd ymk (Int32.toNatClampNeg yrm) 0) (yrm + 1) yst ypc ybu ybn ymg ysp yjn ymd ybg ymm yup yun F (yst (Int32.toNatClampNeg (ypc - 1))) (yrm + 1) H.size r57 yup57 yun57 h_57) (cwV 3 hts gX3_ends_X3_fits rfl rfl rfl kv_X3_fits ⟨Nat.le_of_ble_eq_true rfl, Nat.le_of_ble_eq_true rfl⟩) hK hP hD hS hA (z_spAll (wM cI cZ md yth ybd yro (upd yrow (Int32.toNatClampNeg yrm) p1) (upd ymk (Int32.toNatClampNeg yrm) 0) (yrm + 1) yst ypc ybu ybn ymg ysp yjn ymd ybg ymm yup yun) (wM cI cZ md yth ybd yro (upd yrow (Int32.toNatClampNeg yrm) p1) (upd ymk (Int32.toNatClampNeg yrm) 0) (yrm + 1) yst ypc ybu ybn ymg ysp yjn ymd ybg ymm yup57 yun57)) ((paM cI cZ md yth ybd yro (upd yrow (Int32.toNatClampNeg yrm) p1) (upd ymk (Int32.toNatClampNeg yrm) 0) (yrm + 1) yst ypc ybu ybn ymg ysp yjn ymd ybg ymm yup57 yun57).trans (paM cI cZ md yth ybd yro (upd yrow (Int32.toNatClampNeg yrm) p1) (upd ymk (Int32.toNatClampNeg yrm) 0) (yrm + 1) yst ypc ybu ybn ymg ysp yjn ymd ybg ymm yup yun).symm) rfl rfl rfl rfl hl.1 rfl (Nat.le_of_ble_eq_true rfl) dX3_ends_57 ⟨Nat.zero_le _, Nat.zero_le _⟩ (fun H locs hP hD hS => ?_)
    refine lv_if_ne (tgt := 88) hx hb dX3_ends_60 (by decide) (fun c_60 => ?_) (fun c_60 => ?_)
    · have hm := it_f hm c_60
      cases o2 hm
      exact W.vret hx hb hr (fun t ht hW => ⟨⟨(), rfl, trivial, by rw [ht]; exact hP, va_K.moved hW.alike hK, hD⟩, hS.F ht⟩) hS.2.2 dX3_ends_88
    · have hm := it_t hm c_60
      refine lv_aload_n hx hb dX3_ends_63 rfl (lv_at hl 0 rfl) ?_
      refine va_get (D := (dC, dI)) (ci := 3) (v := .ref (md 3)) (C := RX3) (T := TX3) (N := 18) hx hb hts ziX3 hown hK hP 0 rfl rfl 6 (by decide) zw4 (fun _ h9 => h9) rfl dX3_ends_64 ?_
      refine lv_aload_n hx hb dX3_ends_67 rfl (lv_at hl 0 rfl) ?_
      refine va_get (D := (dC, dI)) (ci := 3) (v := .int ypc) (C := RX3) (T := TX3) (N := 18) hx hb hts ziX3 hown hK hP 0 rfl rfl 7 (by decide) zw3 (fun _ h9 => h9) rfl dX3_ends_68 ?_
      refine lv_aload_n hx hb dX3_ends_71 rfl (lv_at hl 0 rfl) ?_
      refine va_get (D := (dC, dI)) (ci := 3) (v := .int (yrm + 1)) (C := RX3) (T := TX3) (N := 18) hx hb hts ziX3 hown hK hP 0 rfl rfl 5 (by decide) zw1 (fun _ h9 => h9) rfl dX3_ends_72 ?_
      refine lv_iconst (v := 1) hx hb dX3_ends_75 (by decide) ?_
      refine lv_isub hx hb dX3_ends_76 ?_
      obtain ⟨c_77, hm⟩ := ck hm
      refine va_iast hx hb hK hP hD hS 3 0 rfl rfl c_77 dX3_ends_77 (fun H locs hP hD hS => ?_)
      have hP : va_P (dC, dI) vwCl (wM cI cZ md yth ybd yro (upd yrow (Int32.toNatClampNeg yrm) p1) (upd ymk (Int32.toNatClampNeg yrm) 0) (yrm + 1) (upd yst (Int32.toNatClampNeg ypc) ((yrm + 1) - 1)) ypc ybu ybn ymg ysp yjn ymd ybg ymm yup57 yun57) H := hP
      have hD : va_D A (wM cI cZ md yth ybd yro (upd yrow (Int32.toNatClampNeg yrm) p1) (upd ymk (Int32.toNatClampNeg yrm) 0) (yrm + 1) (upd yst (Int32.toNatClampNeg ypc) ((yrm + 1) - 1)) ypc ybu ybn ymg ysp yjn ymd ybg ymm yup57 yun57) := hD
      refine lv_aload_n hx hb dX3_ends_78 rfl (lv_at hl 0 rfl) ?_
      refine lv_dup hx hb dX3_ends_79 rfl ?_
      refine va_get (D := (dC, dI)) (ci := 3) (v := .int ypc) (C := RX3) (T := TX3) (N := 18) hx hb hts ziX3 hown hK hP 0 rfl rfl 7 (by decide) zw3 (fun _ h9 => h9) rfl dX3_ends_80 ?_
      refine lv_iconst (v := 1) hx hb dX3_ends_83 (by decide) ?_
      refine lv_iadd hx hb dX3_ends_84 ?_
      refine va_put (D := (dC, dI)) (ci := 3) (v := .int (ypc + 1)) (ty := .int) (C := RX3) (T := TX3) (N := 18) hx hb hts ziX3 tyX3 tyX3_ok nmX3 hown hK hP hD hS 0 rfl rfl 7 (by decide) zw3 (fun _ h9 => h9) rfl (by decide +kernel) rfl rfl (Nat.le_of_ble_eq_true rfl) dX3_ends_85 (fun H locs hP hD hS => ?_)
      have hP : va_P (dC, dI) vwCl (wM cI cZ md yth ybd yro (upd yrow (Int32.toNatClampNeg yrm) p1) (upd ymk (Int32.toNatClampNeg yrm) 0) (yrm + 1) (upd yst (Int32.toNatClampNeg ypc) ((yrm + 1) - 1)) (ypc + 1) ybu ybn ymg ysp yjn ymd ybg ymm yup57 yun57) H := hP
      have hD : va_D A (wM cI cZ md yth ybd yro (upd yrow (Int32.toNatClampNeg yrm) p1) (upd ymk (Int32.toNatClampNeg yrm) 0) (yrm + 1) (upd yst (Int32.toNatClampNeg ypc) ((yrm + 1) - 1)) (ypc + 1) ybu ybn ymg ysp yjn ymd ybg ymm yup57 yun57) := hD
      cases o2 hm
      exact W.vret hx hb hr (fun t ht hW => ⟨⟨(), rfl, trivial, by rw [ht]; exact hP, va_K.moved hW.alike hK, hD⟩, hS.F ht⟩) hS.2.2 dX3_ends_88
set_option maxHeartbeats 4000000 in
set_option maxRecDepth 100000 in
theorem c_X3_append (l : Launch) (dC : Nat → ClassId) (dI : Nat → Nat → Nat) (cI : ClassId) (cZ : ClassId) (md : Nat → Nat) (yth : Int32) (ybd : Int32) (yro : Int32) (yrow : Nat → Int32) (ymk : Nat → Int32) (yrm : Int32) (yst : Nat → Int32) (ypc : Int32) (ybu : Nat → Int32) (ybn : Int32) (ymg : Int32) (ysp : Int32) (yjn : Int32) (ymd : Nat → Int32) (ybg : Nat → Int32) (ymm : Int32) (yup : Int64) (yun : Int64) (F : Nat) (p1 : Int32) (sz : Nat) (r : Int32) (u_yth : Int32) (u_yrow : Nat → Int32) (u_ymk : Nat → Int32) (u_yrm : Int32) (u_yst : Nat → Int32) (u_ypc : Int32) (u_yup : Int64) (u_yun : Int64) (hm : X3_append F yth ybd yrow ymk yrm yst ypc ybu ybn yup yun p1 = some (r, u_yth, u_yrow, u_ymk, u_yrm, u_yst, u_ypc, u_yup, u_yun)) : Met l yX3_append wsX3_append ({ frames := 2, cells := 0, slots := 0, locals := 53 }) (va_Pc [.ref (md 0), .int p1] (zW (dC, dI) (wM cI cZ md yth ybd yro yrow ymk yrm yst ypc ybu ybn ymg ysp yjn ymd ybg ymm yup yun) [(cI, .int), (cZ, .boolean)] sz)) (zQi (dC, dI) (wM cI cZ md u_yth ybd yro u_yrow u_ymk u_yrm u_yst u_ypc ybu ybn ymg ysp yjn ymd ybg ymm u_yup u_yun) [(cI, .int), (cZ, .boolean)] (va_A (wM cI cZ md yth ybd yro yrow ymk yrm yst ypc ybu ybn ymg ysp yjn ymd ybg ymm yup yun) sz) r) 0 0 (va_A (wM cI cZ md yth ybd yro yrow ymk yrm yst ypc ybu ybn ymg ysp yjn ymd ybg ymm yup yun) sz) := by
  refine Met.ofW (cc := cX3_append) (maxL := 2) (ret := (some .int)) (by decide) rfl ?_
  intro p e s m args below meth c s₁ B hml hv
  obtain ⟨rfl, hsz, hP, hK, hD0⟩ := hv
  have hx := B.exec
  have hb := B.bytes
  have hr := B.returns
  have hts := atoms_spec (ws := wsX3_append) B.pre
  have hown : s.vm.findClass RX3 = some m.cls := findClass_of_methodNamed B.named
  have hlocks := B.notSynchronized
  subst hsz
  have hD := hD0.self (sz := s.heap.size)
  generalize hAe : va_A (wM cI cZ md yth ybd yro yrow ymk yrm yst ypc ybu ybn ymg ysp yjn ymd ybg ymm yup yun) s.heap.size = A at hD ⊢
  have hA : ∀ q : Nat, s.heap.size ≤ q → A q := fun q h => by rw [← hAe]; exact Or.inr h
  have hS : va_S A s.heap s.heap [] := va_S.rf
  generalize eL : ([] : List Loc) = locs at hS ⊢
  obtain ⟨H, eH⟩ : ∃ z : Heap, z = s.heap := ⟨_, rfl⟩
  have hP : va_P (dC, dI) vwCl (wM cI cZ md yth ybd yro yrow ymk yrm yst ypc ybu ybn ymg ysp yjn ymd ybg ymm yup yun) H := by rw [eH]; exact hP
  have hS : va_S A s.heap H locs := by rw [eH]; exact hS
  refine z_heap eH ?_
  have hl := lv_entry ([.ref (md 0), .int p1]) (n := 2) (Nat.le_of_ble_eq_true rfl)
  rw [lg_entry_eq]
  generalize (lg_sl ([.ref (md 0), .int p1]) ++ List.replicate (2 - (lg_sl ([.ref (md 0), .int p1])).length) Slot.unset).toArray = ls at hl ⊢
  have hl : lv_has ls 2 [(0, .ref (md 0)), (1, .int p1)] := hl
  have zw0 := hts (.fieldLink RX3 36 "LearnedLedgeModel" "thrown" "I") (List.mem_cons_of_mem _ (List.mem_append_left _ (List.mem_append_left _ (List.mem_of_getElem? (i := 0) rfl))))
  have zw1 := hts (.fieldLink RX3 48 "LearnedLedgeModel" "pieces" "I") (List.mem_cons_of_mem _ (List.mem_append_left _ (List.mem_append_left _ (List.mem_of_getElem? (i := 1) rfl))))
  have ziX3 : ∀ w ∈ u_ws RX3 TX3 18, w ∈ wsX3_append := (fun _ h9 => (List.mem_cons_of_mem _ (List.mem_append_right _ h9)))
  refine lv_aload_n hx hb dX3_append_0 rfl (lv_at hl 0 rfl) ?_
  refine lv_iload_n hx hb dX3_append_1 rfl (lv_at hl 1 rfl) ?_
  obtain ⟨r2, h_2, hm⟩ := ob hm
  refine z_callSi (As := [.int p1]) (rest := [.ref (md 0)]) ⟨hx, hb, hml, hown, hts⟩ (c_X3_isKey l dC dI F p1 r2 h_2) (va_cwS 1 hts gX3_append_X3_isKey rfl rfl rfl ks_X3_isKey ⟨Nat.le_of_ble_eq_true rfl, Nat.le_of_ble_eq_true rfl⟩) (hK.sub (tys' := []) [] rfl) z_P0 rfl hl.1 rfl (Nat.le_of_ble_eq_true rfl) dX3_append_2 ⟨Nat.zero_le _, Nat.zero_le _⟩ ?_
  obtain ⟨z_35, hq_35, hm⟩ := ob hm
  have J_35 : ∀ (y35 : Int32), z_35 = y35 → W p l e (headSpec wsX3_append ({ frames := 2, cells := 0, slots := 0, locals := 53 } : Room)).room s m ([.ref (md 0), .int p1] : List Value).toArray below meth c H locs 0 0 (MQ below (zQi (dC, dI) (wM cI cZ md u_yth ybd yro u_yrow u_ymk u_yrm u_yst u_ypc ybu ybn ymg ysp yjn ymd ybg ymm u_yup u_yun) [(cI, .int), (cZ, .boolean)] A r) ([.ref (md 0), .int p1] : List Value).toArray s 0 0 A) (F0 m 35 ls [.int y35, .ref (md 0)]) := by
    intro y35 ez
    rw [ez] at hm
    refine va_put (D := (dC, dI)) (ci := 3) (v := .int y35) (ty := .int) (C := RX3) (T := TX3) (N := 18) hx hb hts ziX3 tyX3 tyX3_ok nmX3 hown hK hP hD hS 0 rfl rfl 0 (by decide) zw0 (fun _ h9 => h9) rfl (by decide +kernel) rfl rfl (Nat.le_of_ble_eq_true rfl) dX3_append_35 (fun H locs hP hD hS => ?_)
    have hP : va_P (dC, dI) vwCl (wM cI cZ md y35 ybd yro yrow ymk yrm yst ypc ybu ybn ymg ysp yjn ymd ybg ymm yup yun) H := hP
    have hD : va_D A (wM cI cZ md y35 ybd yro yrow ymk yrm yst ypc ybu ybn ymg ysp yjn ymd ybg ymm yup yun) := hD
    refine lv_aload_n hx hb dX3_append_38 rfl (lv_at hl 0 rfl) ?_
    refine va_get (D := (dC, dI)) (ci := 3) (v := .int y35) (C := RX3) (T := TX3) (N := 18) hx hb hts ziX3 hown hK hP 0 rfl rfl 0 (by decide) zw0 (fun _ h9 => h9) rfl dX3_append_39 ?_
    refine lv_if_ne (tgt := 50) hx hb dX3_append_42 (by decide) (fun c_42 => ?_) (fun c_42 => ?_)
    · have hm := it_f hm c_42
      refine lv_aload_n hx hb dX3_append_50 rfl (lv_at hl 0 rfl) ?_
      refine va_get (D := (dC, dI)) (ci := 3) (v := .int ypc) (C := RX3) (T := TX3) (N := 18) hx hb hts ziX3 hown hK hP 0 rfl rfl 7 (by decide) zw1 (fun _ h9 => h9) rfl dX3_append_51 ?_
      cases o2 hm
      exact W.iret hx hb hr (fun t ht hW => ⟨⟨_, (), rfl, rfl, by rw [ht]; exact hP, va_K.moved hW.alike hK, hD⟩, hS.F ht⟩) hS.2.2 dX3_append_54
    · have hm := it_t hm c_42
      refine lv_aload_n hx hb dX3_append_45 rfl (lv_at hl 0 rfl) ?_
      refine lv_iload_n hx hb dX3_append_46 rfl (lv_at hl 1 rfl) ?_
      obtain ⟨⟨yrow47, ymk47, yrm47, yst47, ypc47, yup47, yun47⟩, h_47, hm⟩ := ob hm
      refine z_callWv (wc := (wM cI cZ md y35 ybd yro yrow ymk yrm yst ypc ybu ybn ymg ysp yjn ymd ybg ymm yup yun)) (w1 := (wM cI cZ md y35 ybd yro yrow47 ymk47 yrm47 yst47 ypc47 ybu ybn ymg ysp yjn ymd ybg ymm yup47 yun47)) (ws := (wM cI cZ md y35 ybd yro yrow ymk yrm yst ypc ybu ybn ymg ysp yjn ymd ybg ymm yup yun)) (ws' := (wM cI cZ md y35 ybd yro yrow47 ymk47 yrm47 yst47 ypc47 ybu ybn ymg ysp yjn ymd ybg ymm yup47 yun47)) (As := [.int p1]) (rest := []) (ci := 3) (q := (RX3, TX3, 18)) ⟨hx, hb, hml, hown, hts⟩ (c_X3_ends l dC dI cI cZ md y35 ybd yro yrow ymk yrm yst ypc ybu ybn ymg ysp yjn ymd ybg ymm yup yun F p1 H.size yrow47 ymk47 yrm47 yst47 ypc47 yup47 yun47 h_47) (cwV 1 hts gX3_append_X3_ends rfl rfl rfl kv_X3_ends ⟨Nat.le_of_ble_eq_true rfl, Nat.le_of_ble_eq_true rfl⟩) hK hP hD hS hA (z_spAll (wM cI cZ md y35 ybd yro yrow ymk yrm yst ypc ybu ybn ymg ysp yjn ymd ybg ymm yup yun) (wM cI cZ md y35 ybd yro yrow47 ymk47 yrm47 yst47 ypc47 ybu ybn ymg ysp yjn ymd ybg ymm yup47 yun47)) ((paM cI cZ md y35 ybd yro yrow47 ymk47 yrm47 yst47 ypc47 ybu ybn ymg ysp yjn ymd ybg ymm yup47 yun47).trans (paM cI cZ md y35 ybd yro yrow ymk yrm yst ypc ybu ybn ymg ysp yjn ymd ybg ymm yup yun).symm) rfl rfl rfl rfl hl.1 rfl (Nat.le_of_ble_eq_true rfl) dX3_append_47 ⟨Nat.zero_le _, Nat.zero_le _⟩ (fun H locs hP hD hS => ?_)
      refine lv_aload_n hx hb dX3_append_50 rfl (lv_at hl 0 rfl) ?_
      refine va_get (D := (dC, dI)) (ci := 3) (v := .int ypc47) (C := RX3) (T := TX3) (N := 18) hx hb hts ziX3 hown hK hP 0 rfl rfl 7 (by decide) zw1 (fun _ h9 => h9) rfl dX3_append_51 ?_
      cases o2 hm
      exact W.iret hx hb hr (fun t ht hW => ⟨⟨_, (), rfl, rfl, by rw [ht]; exact hP, va_K.moved hW.alike hK, hD⟩, hS.F ht⟩) hS.2.2 dX3_append_54
  have hm := hq_35
  refine lv_if_ne (tgt := 12) hx hb dX3_append_5 (by decide) (fun c_5 => ?_) (fun c_5 => ?_)
  · have hm := it_f hm c_5
    refine lv_aload_n hx hb dX3_append_12 rfl (lv_at hl 0 rfl) ?_
    obtain ⟨r13, h_13, hm⟩ := ob hm
    refine z_callRi (As := []) (rest := [.ref (md 0)]) (ci := 3) (q := (RX3, TX3, 18)) ⟨hx, hb, hml, hown, hts⟩ (c_X3_many l dC dI cI cZ md yth ybd yro yrow ymk yrm yst ypc ybu ybn ymg ysp yjn ymd ybg ymm yup yun F r13 h_13) (cwV 0 hts gX3_append_X3_many rfl rfl rfl kv_X3_many ⟨Nat.le_of_ble_eq_true rfl, Nat.le_of_ble_eq_true rfl⟩) hK hP rfl rfl rfl rfl hl.1 rfl (Nat.le_of_ble_eq_true rfl) dX3_append_13 ⟨Nat.zero_le _, Nat.zero_le _⟩ ?_
    refine lv_sipush (v := 256) hx hb dX3_append_16 (by decide) ?_
    refine lv_icmp_eq (tgt := 30) hx hb dX3_append_19 (by decide) (fun c_19 => ?_) (fun c_19 => ?_)
    · have hm := it_t hm c_19
      refine lv_iconst (v := 2) hx hb dX3_append_30 (by decide) ?_
      refine lv_goto (tgt := 35) hx hb dX3_append_31 (by decide) ?_
      exact J_35 2 (o2 hm)
    · have hm := it_f hm c_19
      refine lv_aload_n hx hb dX3_append_22 rfl (lv_at hl 0 rfl) ?_
      refine lv_iload_n hx hb dX3_append_23 rfl (lv_at hl 1 rfl) ?_
      obtain ⟨r24, h_24, hm⟩ := ob hm
      refine z_callRi (As := [.int p1]) (rest := [.ref (md 0)]) (ci := 3) (q := (RX3, TX3, 18)) ⟨hx, hb, hml, hown, hts⟩ (c_X3_isAbove l dC dI cI cZ md yth ybd yro yrow ymk yrm yst ypc ybu ybn ymg ysp yjn ymd ybg ymm yup yun F p1 r24 h_24) (cwV 1 hts gX3_append_X3_isAbove rfl rfl rfl kv_X3_isAbove ⟨Nat.le_of_ble_eq_true rfl, Nat.le_of_ble_eq_true rfl⟩) hK hP rfl rfl rfl rfl hl.1 rfl (Nat.le_of_ble_eq_true rfl) dX3_append_24 ⟨Nat.zero_le _, Nat.zero_le _⟩ ?_
      refine lv_if_ne (tgt := 34) hx hb dX3_append_27 (by decide) (fun c_27 => ?_) (fun c_27 => ?_)
      · have hm := it_f hm c_27
        refine lv_iconst (v := 0) hx hb dX3_append_34 (by decide) ?_
        exact J_35 0 (o2 hm)
      · have hm := it_t hm c_27
        refine lv_iconst (v := 2) hx hb dX3_append_30 (by decide) ?_
        refine lv_goto (tgt := 35) hx hb dX3_append_31 (by decide) ?_
        exact J_35 2 (o2 hm)
  · have hm := it_t hm c_5
    refine lv_iconst (v := 1) hx hb dX3_append_8 (by decide) ?_
    refine lv_goto (tgt := 35) hx hb dX3_append_9 (by decide) ?_
    exact J_35 1 (o2 hm)
