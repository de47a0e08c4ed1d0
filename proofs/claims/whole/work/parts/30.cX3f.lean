set_option maxHeartbeats 4000000 in
set_option maxRecDepth 100000 in
theorem c_X3_guess (l : Launch) (dC : Nat → ClassId) (dI : Nat → Nat → Nat) (cI : ClassId) (cZ : ClassId) (md : Nat → Nat) (yth : Int32) (ybd : Int32) (yro : Int32) (yrow : Nat → Int32) (ymk : Nat → Int32) (yrm : Int32) (yst : Nat → Int32) (ypc : Int32) (ybu : Nat → Int32) (ybn : Int32) (ymg : Int32) (ysp : Int32) (yjn : Int32) (ymd : Nat → Int32) (ybg : Nat → Int32) (ymm : Int32) (yup : Int64) (yun : Int64) (F : Nat) (p1 : Int32) (sz : Nat) (r : Int64) (u_yth : Int32) (u_yup : Int64) (u_yun : Int64) (hm : X3_guess F yth ybd yrow yrm yst ypc yup yun p1 = some (r, u_yth, u_yup, u_yun)) : Met l yX3_guess wsX3_guess ({ frames := 3, cells := 0, slots := 0, locals := 77 }) (va_Pc [.ref (md 0), .int p1] (zW (dC, dI) (wM cI cZ md yth ybd yro yrow ymk yrm yst ypc ybu ybn ymg ysp yjn ymd ybg ymm yup yun) [(cI, .int), (cZ, .boolean)] sz)) (zQl (dC, dI) (wM cI cZ md u_yth ybd yro yrow ymk yrm yst ypc ybu ybn ymg ysp yjn ymd ybg ymm u_yup u_yun) [(cI, .int), (cZ, .boolean)] (va_A (wM cI cZ md yth ybd yro yrow ymk yrm yst ypc ybu ybn ymg ysp yjn ymd ybg ymm yup yun) sz) r) 0 0 (va_A (wM cI cZ md yth ybd yro yrow ymk yrm yst ypc ybu ybn ymg ysp yjn ymd ybg ymm yup yun) sz) := by
  refine Met.ofW (cc := cX3_guess) (maxL := 3) (ret := (some .long)) (by decide) rfl ?_
  intro p e s m args below meth c s₁ B hml hv
  obtain ⟨rfl, hsz, hP, hK, hD0⟩ := hv
  have hx := B.exec
  have hb := B.bytes
  have hr := B.returns
  have hts := atoms_spec (ws := wsX3_guess) B.pre
  have hown : s.vm.findClass RX3 = some m.cls := findClass_of_methodNamed B.named
  have hlocks := B.notSynchronized
  subst hsz
  have hD := hD0.self (sz := s.heap.size)
  generalize hAe : va_A (wM cI cZ md yth ybd yro yrow ymk yrm yst ypc ybu ybn ymg ysp yjn ymd ybg ymm yup yun) s.heap.size = A at hD ⊢
  have hA : ∀ q : Nat, s.heap.size ≤ q → A q := fun q h => by rw [← hAe]; exact Or.inr h
  have hS : va_S A s.heap s.heap [] := va_S.rf
  generalize eL : ([] : List Loc) = locs at hS ⊢
  obtain ⟨H, eH⟩ : ∃ z : Heap, z = s.heap := ⟨_, rfl⟩
  have hP : va_P (dC, dI) vwCl (wM cI cZ md yth ybd yro yrow ymk yrm yst ypc ybu ybn ymg ysp yjn ymd ybg ymm yup yun) H := by rw [eH]; exact hP
  have hS : va_S A s.heap H locs := by rw [eH]; exact hS
  refine z_heap eH ?_
  have hl := lv_entry ([.ref (md 0), .int p1]) (n := 3) (Nat.le_of_ble_eq_true rfl)
  rw [lg_entry_eq]
  generalize (lg_sl ([.ref (md 0), .int p1]) ++ List.replicate (3 - (lg_sl ([.ref (md 0), .int p1])).length) Slot.unset).toArray = ls at hl ⊢
  have hl : lv_has ls 3 [(0, .ref (md 0)), (1, .int p1)] := hl
  have zw0 := hts (.fieldLink RX3 36 "LearnedLedgeModel" "thrown" "I") (by decide +kernel)
  have zw1 := hts (.constantLong RX3 145 (-1)) (by decide +kernel)
  have ziX3 : ∀ w ∈ u_ws RX3 TX3 18, w ∈ wsX3_guess := by decide +kernel
  refine lv_aload_n hx hb dX3_guess_0 rfl (lv_at hl 0 rfl) ?_
  refine lv_iload_n hx hb dX3_guess_1 rfl (lv_at hl 1 rfl) ?_
  obtain ⟨r2, h_2, hm⟩ := ob hm
  refine z_callSi (As := [.int p1]) (rest := [.ref (md 0)]) ⟨hx, hb, hml, hown, hts⟩ (c_X3_isKey l dC dI F p1 r2 h_2) (va_cwS 1 hts gX3_guess_X3_isKey rfl rfl rfl ks_X3_isKey ⟨Nat.le_of_ble_eq_true rfl, Nat.le_of_ble_eq_true rfl⟩) (hK.sub (tys' := []) [] rfl) z_P0 rfl hl.1 rfl (Nat.le_of_ble_eq_true rfl) dX3_guess_2 ⟨Nat.zero_le _, Nat.zero_le _⟩ ?_
  obtain ⟨y13, e_y13⟩ : ∃ y : Int32, y = (if r2 = 0 then 1 else 0) := ⟨_, rfl⟩
  have hm := bnd_e hm e_y13
  have J_13 : W p l e (headSpec wsX3_guess ({ frames := 3, cells := 0, slots := 0, locals := 77 } : Room)).room s m ([.ref (md 0), .int p1] : List Value).toArray below meth c H locs 0 0 (MQ below (zQl (dC, dI) (wM cI cZ md u_yth ybd yro yrow ymk yrm yst ypc ybu ybn ymg ysp yjn ymd ybg ymm u_yup u_yun) [(cI, .int), (cZ, .boolean)] A r) ([.ref (md 0), .int p1] : List Value).toArray s 0 0 A) (F0 m 13 ls [.int y13, .ref (md 0)]) := by
    refine va_put (D := (dC, dI)) (ci := 3) (v := .int y13) (ty := .int) (C := RX3) (T := TX3) (N := 18) hx hb hts ziX3 tyX3 tyX3_ok nmX3 hown hK hP hD hS 0 rfl rfl 0 (by decide) zw0 (fun _ h9 => h9) rfl (by decide +kernel) rfl rfl (Nat.le_of_ble_eq_true rfl) dX3_guess_13 (fun H locs hP hD hS => ?_)
    have hP : va_P (dC, dI) vwCl (wM cI cZ md y13 ybd yro yrow ymk yrm yst ypc ybu ybn ymg ysp yjn ymd ybg ymm yup yun) H := hP
    have hD : va_D A (wM cI cZ md y13 ybd yro yrow ymk yrm yst ypc ybu ybn ymg ysp yjn ymd ybg ymm yup yun) := hD
    refine lv_aload_n hx hb dX3_guess_16 rfl (lv_at hl 0 rfl) ?_
    refine lv_iload_n hx hb dX3_guess_17 rfl (lv_at hl 1 rfl) ?_
    obtain ⟨r18, h_18, hm⟩ := ob hm
    refine z_callRi (As := [.int p1]) (rest := []) (ci := 3) (q := (RX3, TX3, 18)) ⟨hx, hb, hml, hown, hts⟩ (c_X3_pieceOf l dC dI cI cZ md y13 ybd yro yrow ymk yrm yst ypc ybu ybn ymg ysp yjn ymd ybg ymm yup yun F p1 r18 h_18) (cwV 1 hts gX3_guess_X3_pieceOf rfl rfl rfl kv_X3_pieceOf ⟨Nat.le_of_ble_eq_true rfl, Nat.le_of_ble_eq_true rfl⟩) hK hP rfl rfl rfl rfl hl.1 rfl (Nat.le_of_ble_eq_true rfl) dX3_guess_18 ⟨Nat.zero_le _, Nat.zero_le _⟩ ?_
    refine lv_istore_n (lv' := [(2, .int r18), (0, .ref (md 0)), (1, .int p1)]) hx hb dX3_guess_21 rfl hl (by decide) rfl (fun ls hl => ?_)
    refine lv_aload_n hx hb dX3_guess_22 rfl (lv_at hl 1 rfl) ?_
    refine va_get (D := (dC, dI)) (ci := 3) (v := .int y13) (C := RX3) (T := TX3) (N := 18) hx hb hts ziX3 hown hK hP 0 rfl rfl 0 (by decide) zw0 (fun _ h9 => h9) rfl dX3_guess_23 ?_
    refine lv_if_gt (tgt := 34) hx hb dX3_guess_26 (by decide) (fun c_26 => ?_) (fun c_26 => ?_)
    · have hm := it_t hm c_26
      refine lv_ldc2 hx hb hown zw1 dX3_guess_34 ?_
      refine lv_goto (tgt := 46) hx hb dX3_guess_37 (by decide) ?_
      cases o2 hm
      exact W.lret hx hb hr (fun t ht hW => ⟨⟨_, (), rfl, rfl, by rw [ht]; exact hP, va_K.moved hW.alike hK, hD⟩, hS.F ht⟩) hS.2.2 dX3_guess_46
    · have hm := it_f hm c_26
      refine lv_iload_n hx hb dX3_guess_29 rfl (lv_at hl 0 rfl) ?_
      refine lv_iconst (v := (-1)) hx hb dX3_guess_30 (by decide) ?_
      refine lv_icmp_ne (tgt := 40) hx hb dX3_guess_31 (by decide) (fun c_31 => ?_) (fun c_31 => ?_)
      · have hm := it_f hm c_31
        refine lv_aload_n hx hb dX3_guess_40 rfl (lv_at hl 1 rfl) ?_
        refine lv_iload_n hx hb dX3_guess_41 rfl (lv_at hl 2 rfl) ?_
        refine lv_iload_n hx hb dX3_guess_42 rfl (lv_at hl 0 rfl) ?_
        obtain ⟨⟨r43, yup43, yun43⟩, h_43, hm⟩ := ob hm
        refine z_callWl (wc := (wM cI cZ md y13 ybd yro yrow ymk yrm yst ypc ybu ybn ymg ysp yjn ymd ybg ymm yup yun)) (w1 := (wM cI cZ md y13 ybd yro yrow ymk yrm yst ypc ybu ybn ymg ysp yjn ymd ybg ymm yup43 yun43)) (ws := (wM cI cZ md y13 ybd yro yrow ymk yrm yst ypc ybu ybn ymg ysp yjn ymd ybg ymm yup yun)) (ws' := (wM cI cZ md y13 ybd yro yrow ymk yrm yst ypc ybu ybn ymg ysp yjn ymd ybg ymm yup43 yun43)) [0, 1, 2, 3, 4, 5, 6] [] 7 (As := [.int p1, .int r18]) (rest := []) (ci := 3) (q := (RX3, TX3, 18)) ⟨hx, hb, hml, hown, hts⟩ (c_X3_guessOf l dC dI cI cZ md y13 ybd yro yrow ymk yrm yst ypc ybu ybn ymg ysp yjn ymd ybg ymm yup yun F p1 r18 H.size r43 yup43 yun43 h_43) (cwV 2 hts gX3_guess_X3_guessOf rfl rfl rfl kv_X3_guessOf ⟨Nat.le_of_ble_eq_true rfl, Nat.le_of_ble_eq_true rfl⟩) hK hP hD hS hA hP hD rfl rfl (by decide) rfl rfl (by decide) rfl rfl rfl rfl rfl hl.1 rfl (Nat.le_of_ble_eq_true rfl) dX3_guess_43 ⟨Nat.zero_le _, Nat.zero_le _⟩ (fun H locs hP hD hS => ?_)
        cases o2 hm
        exact W.lret hx hb hr (fun t ht hW => ⟨⟨_, (), rfl, rfl, by rw [ht]; exact hP, va_K.moved hW.alike hK, hD⟩, hS.F ht⟩) hS.2.2 dX3_guess_46
      · have hm := it_t hm c_31
        refine lv_ldc2 hx hb hown zw1 dX3_guess_34 ?_
        refine lv_goto (tgt := 46) hx hb dX3_guess_37 (by decide) ?_
        cases o2 hm
        exact W.lret hx hb hr (fun t ht hW => ⟨⟨_, (), rfl, rfl, by rw [ht]; exact hP, va_K.moved hW.alike hK, hD⟩, hS.F ht⟩) hS.2.2 dX3_guess_46
  refine lv_if_eq (tgt := 12) hx hb dX3_guess_5 (by decide) (fun c_5 => ?_) (fun c_5 => ?_)
  · refine lv_iconst (v := 1) hx hb dX3_guess_12 (by decide) ?_
    have e9 : y13 = 1 := by rw [e_y13, if_pos c_5]
    rw [e9] at J_13
    exact J_13
  · refine lv_iconst (v := 0) hx hb dX3_guess_8 (by decide) ?_
    refine lv_goto (tgt := 13) hx hb dX3_guess_9 (by decide) ?_
    have e9 : y13 = 0 := by rw [e_y13, if_neg c_5]
    rw [e9] at J_13
    exact J_13
set_option maxHeartbeats 4000000 in
set_option maxRecDepth 100000 in
theorem c_X3_looks (l : Launch) (dC : Nat → ClassId) (dI : Nat → Nat → Nat) (cI : ClassId) (cZ : ClassId) (md : Nat → Nat) (yth : Int32) (ybd : Int32) (yro : Int32) (yrow : Nat → Int32) (ymk : Nat → Int32) (yrm : Int32) (yst : Nat → Int32) (ypc : Int32) (ybu : Nat → Int32) (ybn : Int32) (ymg : Int32) (ysp : Int32) (yjn : Int32) (ymd : Nat → Int32) (ybg : Nat → Int32) (ymm : Int32) (yup : Int64) (yun : Int64) (F : Nat) (p1 : Int32) (sz : Nat) (r : Int32) (u_yth : Int32) (u_yup : Int64) (u_yun : Int64) (hm : X3_looks F yth ybd yrow yrm yst ypc yup yun p1 = some (r, u_yth, u_yup, u_yun)) : Met l yX3_looks wsX3_looks ({ frames := 3, cells := 0, slots := 0, locals := 77 }) (va_Pc [.ref (md 0), .int p1] (zW (dC, dI) (wM cI cZ md yth ybd yro yrow ymk yrm yst ypc ybu ybn ymg ysp yjn ymd ybg ymm yup yun) [(cI, .int), (cZ, .boolean)] sz)) (zQi (dC, dI) (wM cI cZ md u_yth ybd yro yrow ymk yrm yst ypc ybu ybn ymg ysp yjn ymd ybg ymm u_yup u_yun) [(cI, .int), (cZ, .boolean)] (va_A (wM cI cZ md yth ybd yro yrow ymk yrm yst ypc ybu ybn ymg ysp yjn ymd ybg ymm yup yun) sz) r) 0 0 (va_A (wM cI cZ md yth ybd yro yrow ymk yrm yst ypc ybu ybn ymg ysp yjn ymd ybg ymm yup yun) sz) := by
  refine Met.ofW (cc := cX3_looks) (maxL := 13) (ret := (some .int)) (by decide) rfl ?_
  intro p e s m args below meth c s₁ B hml hv
  obtain ⟨rfl, hsz, hP, hK, hD0⟩ := hv
  have hx := B.exec
  have hb := B.bytes
  have hr := B.returns
  have hts := atoms_spec (ws := wsX3_looks) B.pre
  have hown : s.vm.findClass RX3 = some m.cls := findClass_of_methodNamed B.named
  have hlocks := B.notSynchronized
  subst hsz
  have hD := hD0.self (sz := s.heap.size)
  generalize hAe : va_A (wM cI cZ md yth ybd yro yrow ymk yrm yst ypc ybu ybn ymg ysp yjn ymd ybg ymm yup yun) s.heap.size = A at hD ⊢
  have hA : ∀ q : Nat, s.heap.size ≤ q → A q := fun q h => by rw [← hAe]; exact Or.inr h
  have hS : va_S A s.heap s.heap [] := va_S.rf
  generalize eL : ([] : List Loc) = locs at hS ⊢
  obtain ⟨H, eH⟩ : ∃ z : Heap, z = s.heap := ⟨_, rfl⟩
  have hP : va_P (dC, dI) vwCl (wM cI cZ md yth ybd yro yrow ymk yrm yst ypc ybu ybn ymg ysp yjn ymd ybg ymm yup yun) H := by rw [eH]; exact hP
  have hS : va_S A s.heap H locs := by rw [eH]; exact hS
  refine z_heap eH ?_
  have hl := lv_entry ([.ref (md 0), .int p1]) (n := 13) (Nat.le_of_ble_eq_true rfl)
  rw [lg_entry_eq]
  generalize (lg_sl ([.ref (md 0), .int p1]) ++ List.replicate (13 - (lg_sl ([.ref (md 0), .int p1])).length) Slot.unset).toArray = ls at hl ⊢
  have hl : lv_has ls 13 [(0, .ref (md 0)), (1, .int p1)] := hl
  have zw0 := hts (.fieldLink RX3 36 "LearnedLedgeModel" "thrown" "I") (by decide +kernel)
  have zw1 := hts (.fieldLink RX3 7 "LearnedLedgeModel" "bound" "I") (by decide +kernel)
  have zw2 := hts (.fieldLink RX3 24 "LearnedLedgeModel" "start" "[I") (by decide +kernel)
  have zw3 := hts (.constantLong RX3 151 (2)) (by decide +kernel)
  have zw4 := hts (.fieldLink RX3 16 "LearnedLedgeModel" "row" "[I") (by decide +kernel)
  have ziX3 : ∀ w ∈ u_ws RX3 TX3 18, w ∈ wsX3_looks := by decide +kernel
  refine lv_aload_n hx hb dX3_looks_0 rfl (lv_at hl 0 rfl) ?_
  refine lv_iload_n hx hb dX3_looks_1 rfl (lv_at hl 1 rfl) ?_
  obtain ⟨r2, h_2, hm⟩ := ob hm
  refine z_callSi (As := [.int p1]) (rest := [.ref (md 0)]) ⟨hx, hb, hml, hown, hts⟩ (c_X3_isKey l dC dI F p1 r2 h_2) (va_cwS 1 hts gX3_looks_X3_isKey rfl rfl rfl ks_X3_isKey ⟨Nat.le_of_ble_eq_true rfl, Nat.le_of_ble_eq_true rfl⟩) (hK.sub (tys' := []) [] rfl) z_P0 rfl hl.1 rfl (Nat.le_of_ble_eq_true rfl) dX3_looks_2 ⟨Nat.zero_le _, Nat.zero_le _⟩ ?_
  obtain ⟨y13, e_y13⟩ : ∃ y : Int32, y = (if r2 = 0 then 1 else 0) := ⟨_, rfl⟩
  have hm := bnd_e hm e_y13
  have J_13 : W p l e (headSpec wsX3_looks ({ frames := 3, cells := 0, slots := 0, locals := 77 } : Room)).room s m ([.ref (md 0), .int p1] : List Value).toArray below meth c H locs 0 0 (MQ below (zQi (dC, dI) (wM cI cZ md u_yth ybd yro yrow ymk yrm yst ypc ybu ybn ymg ysp yjn ymd ybg ymm u_yup u_yun) [(cI, .int), (cZ, .boolean)] A r) ([.ref (md 0), .int p1] : List Value).toArray s 0 0 A) (F0 m 13 ls [.int y13, .ref (md 0)]) := by
    refine va_put (D := (dC, dI)) (ci := 3) (v := .int y13) (ty := .int) (C := RX3) (T := TX3) (N := 18) hx hb hts ziX3 tyX3 tyX3_ok nmX3 hown hK hP hD hS 0 rfl rfl 0 (by decide) zw0 (fun _ h9 => h9) rfl (by decide +kernel) rfl rfl (Nat.le_of_ble_eq_true rfl) dX3_looks_13 (fun H locs hP hD hS => ?_)
    have hP : va_P (dC, dI) vwCl (wM cI cZ md y13 ybd yro yrow ymk yrm yst ypc ybu ybn ymg ysp yjn ymd ybg ymm yup yun) H := hP
    have hD : va_D A (wM cI cZ md y13 ybd yro yrow ymk yrm yst ypc ybu ybn ymg ysp yjn ymd ybg ymm yup yun) := hD
    refine lv_aload_n hx hb dX3_looks_16 rfl (lv_at hl 0 rfl) ?_
    refine lv_iload_n hx hb dX3_looks_17 rfl (lv_at hl 1 rfl) ?_
    obtain ⟨r18, h_18, hm⟩ := ob hm
    refine z_callRi (As := [.int p1]) (rest := []) (ci := 3) (q := (RX3, TX3, 18)) ⟨hx, hb, hml, hown, hts⟩ (c_X3_pieceOf l dC dI cI cZ md y13 ybd yro yrow ymk yrm yst ypc ybu ybn ymg ysp yjn ymd ybg ymm yup yun F p1 r18 h_18) (cwV 1 hts gX3_looks_X3_pieceOf rfl rfl rfl kv_X3_pieceOf ⟨Nat.le_of_ble_eq_true rfl, Nat.le_of_ble_eq_true rfl⟩) hK hP rfl rfl rfl rfl hl.1 rfl (Nat.le_of_ble_eq_true rfl) dX3_looks_18 ⟨Nat.zero_le _, Nat.zero_le _⟩ ?_
    refine lv_istore_n (lv' := [(2, .int r18), (0, .ref (md 0)), (1, .int p1)]) hx hb dX3_looks_21 rfl hl (by decide) rfl (fun ls hl => ?_)
    refine lv_aload_n hx hb dX3_looks_22 rfl (lv_at hl 1 rfl) ?_
    refine va_get (D := (dC, dI)) (ci := 3) (v := .int y13) (C := RX3) (T := TX3) (N := 18) hx hb hts ziX3 hown hK hP 0 rfl rfl 0 (by decide) zw0 (fun _ h9 => h9) rfl dX3_looks_23 ?_
    refine lv_if_gt (tgt := 34) hx hb dX3_looks_26 (by decide) (fun c_26 => ?_) (fun c_26 => ?_)
    · have hm := it_t hm c_26
      refine lv_iconst (v := 0) hx hb dX3_looks_34 (by decide) ?_
      cases o2 hm
      exact W.iret hx hb hr (fun t ht hW => ⟨⟨_, (), rfl, rfl, by rw [ht]; exact hP, va_K.moved hW.alike hK, hD⟩, hS.F ht⟩) hS.2.2 dX3_looks_35
    · have hm := it_f hm c_26
      refine lv_iload_n hx hb dX3_looks_29 rfl (lv_at hl 0 rfl) ?_
      refine lv_iconst (v := (-1)) hx hb dX3_looks_30 (by decide) ?_
      refine lv_icmp_ne (tgt := 36) hx hb dX3_looks_31 (by decide) (fun c_31 => ?_) (fun c_31 => ?_)
      · have hm := it_f hm c_31
        refine lv_aload_n hx hb dX3_looks_36 rfl (lv_at hl 1 rfl) ?_
        refine lv_iload_n hx hb dX3_looks_37 rfl (lv_at hl 2 rfl) ?_
        refine lv_iload_n hx hb dX3_looks_38 rfl (lv_at hl 0 rfl) ?_
        obtain ⟨⟨r39, yup39, yun39⟩, h_39, hm⟩ := ob hm
        refine z_callWl (wc := (wM cI cZ md y13 ybd yro yrow ymk yrm yst ypc ybu ybn ymg ysp yjn ymd ybg ymm yup yun)) (w1 := (wM cI cZ md y13 ybd yro yrow ymk yrm yst ypc ybu ybn ymg ysp yjn ymd ybg ymm yup39 yun39)) (ws := (wM cI cZ md y13 ybd yro yrow ymk yrm yst ypc ybu ybn ymg ysp yjn ymd ybg ymm yup yun)) (ws' := (wM cI cZ md y13 ybd yro yrow ymk yrm yst ypc ybu ybn ymg ysp yjn ymd ybg ymm yup39 yun39)) [0, 1, 2, 3, 4, 5, 6] [] 7 (As := [.int p1, .int r18]) (rest := []) (ci := 3) (q := (RX3, TX3, 18)) ⟨hx, hb, hml, hown, hts⟩ (c_X3_guessOf l dC dI cI cZ md y13 ybd yro yrow ymk yrm yst ypc ybu ybn ymg ysp yjn ymd ybg ymm yup yun F p1 r18 H.size r39 yup39 yun39 h_39) (cwV 2 hts gX3_looks_X3_guessOf rfl rfl rfl kv_X3_guessOf ⟨Nat.le_of_ble_eq_true rfl, Nat.le_of_ble_eq_true rfl⟩) hK hP hD hS hA hP hD rfl rfl (by decide) rfl rfl (by decide) rfl rfl rfl rfl rfl hl.1 rfl (Nat.le_of_ble_eq_true rfl) dX3_looks_39 ⟨Nat.zero_le _, Nat.zero_le _⟩ (fun H locs hP hD hS => ?_)
        refine lv_lstore_n (lv' := [(3, .long r39), (2, .int r18), (0, .ref (md 0)), (1, .int p1)]) hx hb dX3_looks_42 rfl hl (by decide) rfl (fun ls hl => ?_)
        refine lv_aload_n hx hb dX3_looks_43 rfl (lv_at hl 2 rfl) ?_
        refine lv_iload_n hx hb dX3_looks_44 rfl (lv_at hl 1 rfl) ?_
        obtain ⟨r45, h_45, hm⟩ := ob hm
        refine z_callRi (As := [.int r18]) (rest := []) (ci := 3) (q := (RX3, TX3, 18)) ⟨hx, hb, hml, hown, hts⟩ (c_X3_behind l dC dI cI cZ md y13 ybd yro yrow ymk yrm yst ypc ybu ybn ymg ysp yjn ymd ybg ymm yup39 yun39 F r18 r45 h_45) (cwV 1 hts gX3_looks_X3_behind rfl rfl rfl kv_X3_behind ⟨Nat.le_of_ble_eq_true rfl, Nat.le_of_ble_eq_true rfl⟩) hK hP rfl rfl rfl rfl hl.1 rfl (Nat.le_of_ble_eq_true rfl) dX3_looks_45 ⟨Nat.zero_le _, Nat.zero_le _⟩ ?_
        refine lv_istore (lv' := [(5, .int r45), (3, .long r39), (2, .int r18), (0, .ref (md 0)), (1, .int p1)]) hx hb dX3_looks_48 hl (by decide) rfl (fun ls hl => ?_)
        refine lv_lload_n hx hb dX3_looks_50 rfl (lv_at hl 1 rfl) ?_
        refine lv_aload_n hx hb dX3_looks_51 rfl (lv_at hl 3 rfl) ?_
        refine va_get (D := (dC, dI)) (ci := 3) (v := .int ybd) (C := RX3) (T := TX3) (N := 18) hx hb hts ziX3 hown hK hP 0 rfl rfl 1 (by decide) zw1 (fun _ h9 => h9) rfl dX3_looks_52 ?_
        refine lv_i2l hx hb dX3_looks_55 rfl ?_
        refine lv_lsub hx hb dX3_looks_56 ?_
        refine lv_aload_n hx hb dX3_looks_57 rfl (lv_at hl 3 rfl) ?_
        refine va_get (D := (dC, dI)) (ci := 3) (v := .ref (md 3)) (C := RX3) (T := TX3) (N := 18) hx hb hts ziX3 hown hK hP 0 rfl rfl 6 (by decide) zw2 (fun _ h9 => h9) rfl dX3_looks_58 ?_
        refine lv_iload_n hx hb dX3_looks_61 rfl (lv_at hl 2 rfl) ?_
        obtain ⟨c_62, hm⟩ := ck hm
        refine va_iald hx hb hK hP 3 0 rfl rfl c_62 dX3_looks_62 ?_
        refine lv_i2l hx hb dX3_looks_63 rfl ?_
        refine W.lcmp hx hb dX3_looks_64 ?_
        obtain ⟨z_85, hq_85, hm⟩ := ob hm
        have J_85 : ∀ (y85 : Int64), z_85 = y85 → W p l e (headSpec wsX3_looks ({ frames := 3, cells := 0, slots := 0, locals := 77 } : Room)).room s m ([.ref (md 0), .int p1] : List Value).toArray below meth c H locs 0 0 (MQ below (zQi (dC, dI) (wM cI cZ md u_yth ybd yro yrow ymk yrm yst ypc ybu ybn ymg ysp yjn ymd ybg ymm u_yup u_yun) [(cI, .int), (cZ, .boolean)] A r) ([.ref (md 0), .int p1] : List Value).toArray s 0 0 A) (F0 m 85 ls [.long y85]) := by
          intro y85 ez
          rw [ez] at hm
          refine lv_lstore (lv' := [(6, .long y85), (5, .int r45), (3, .long r39), (2, .int r18), (0, .ref (md 0)), (1, .int p1)]) hx hb dX3_looks_85 hl (by decide) rfl (fun ls hl => ?_)
          refine lv_lload hx hb dX3_looks_87 (lv_at hl 0 rfl) ?_
          refine lv_iload hx hb dX3_looks_89 (lv_at hl 1 rfl) ?_
          refine lv_i2l hx hb dX3_looks_91 rfl ?_
          refine W.lcmp hx hb dX3_looks_92 ?_
          obtain ⟨y104, e_y104⟩ : ∃ y : Int64, y = (if (Int32.toInt64 r45) ≤ y85 then (Int32.toInt64 r45) else y85) := ⟨_, rfl⟩
          have hm := bnd_e hm e_y104
          have J_104 : W p l e (headSpec wsX3_looks ({ frames := 3, cells := 0, slots := 0, locals := 77 } : Room)).room s m ([.ref (md 0), .int p1] : List Value).toArray below meth c H locs 0 0 (MQ below (zQi (dC, dI) (wM cI cZ md u_yth ybd yro yrow ymk yrm yst ypc ybu ybn ymg ysp yjn ymd ybg ymm u_yup u_yun) [(cI, .int), (cZ, .boolean)] A r) ([.ref (md 0), .int p1] : List Value).toArray s 0 0 A) (F0 m 104 ls [.long y104]) := by
            refine lv_lstore (lv' := [(6, .long y104), (5, .int r45), (3, .long r39), (2, .int r18), (0, .ref (md 0)), (1, .int p1)]) hx hb dX3_looks_104 hl (by decide) rfl (fun ls hl => ?_)
            refine lv_lload_n hx hb dX3_looks_106 rfl (lv_at hl 2 rfl) ?_
            refine lv_aload_n hx hb dX3_looks_107 rfl (lv_at hl 4 rfl) ?_
            refine va_get (D := (dC, dI)) (ci := 3) (v := .int ybd) (C := RX3) (T := TX3) (N := 18) hx hb hts ziX3 hown hK hP 0 rfl rfl 1 (by decide) zw1 (fun _ h9 => h9) rfl dX3_looks_108 ?_
            refine lv_i2l hx hb dX3_looks_111 rfl ?_
            refine lv_ladd hx hb dX3_looks_112 ?_
            refine lv_lconst (v := 1) hx hb dX3_looks_113 (by decide) ?_
            refine lv_ladd hx hb dX3_looks_114 ?_
            refine lv_iload hx hb dX3_looks_115 (lv_at hl 1 rfl) ?_
            refine lv_i2l hx hb dX3_looks_117 rfl ?_
            refine W.lcmp hx hb dX3_looks_118 ?_
            obtain ⟨y137, e_y137⟩ : ∃ y : Int64, y = (if (Int32.toInt64 r45) ≤ ((r39 + (Int32.toInt64 ybd)) + 1) then (Int32.toInt64 r45) else ((r39 + (Int32.toInt64 ybd)) + 1)) := ⟨_, rfl⟩
            have hm := bnd_e hm e_y137
            have J_137 : W p l e (headSpec wsX3_looks ({ frames := 3, cells := 0, slots := 0, locals := 77 } : Room)).room s m ([.ref (md 0), .int p1] : List Value).toArray below meth c H locs 0 0 (MQ below (zQi (dC, dI) (wM cI cZ md u_yth ybd yro yrow ymk yrm yst ypc ybu ybn ymg ysp yjn ymd ybg ymm u_yup u_yun) [(cI, .int), (cZ, .boolean)] A r) ([.ref (md 0), .int p1] : List Value).toArray s 0 0 A) (F0 m 137 ls [.long y137]) := by
              refine lv_lstore (lv' := [(8, .long y137), (6, .long y104), (5, .int r45), (3, .long r39), (2, .int r18), (0, .ref (md 0)), (1, .int p1)]) hx hb dX3_looks_137 hl (by decide) rfl (fun ls hl => ?_)
              refine lv_iconst (v := 0) hx hb dX3_looks_139 (by decide) ?_
              refine lv_istore (lv' := [(10, .int 0), (8, .long y137), (6, .long y104), (5, .int r45), (3, .long r39), (2, .int r18), (0, .ref (md 0)), (1, .int p1)]) hx hb dX3_looks_140 hl (by decide) rfl (fun ls hl => ?_)
              obtain ⟨z_142, hq_142, hm⟩ := ob hm
              have K_142 : ∀ (x10_2 : Int32), z_142 = x10_2 → ∀ (ls : Array Slot), lv_has ls 13 [(10, .int x10_2)] → W p l e (headSpec wsX3_looks ({ frames := 3, cells := 0, slots := 0, locals := 77 } : Room)).room s m ([.ref (md 0), .int p1] : List Value).toArray below meth c H locs 0 0 (MQ below (zQi (dC, dI) (wM cI cZ md u_yth ybd yro yrow ymk yrm yst ypc ybu ybn ymg ysp yjn ymd ybg ymm u_yup u_yun) [(cI, .int), (cZ, .boolean)] A r) ([.ref (md 0), .int p1] : List Value).toArray s 0 0 A) (F0 m 192 ls []) := by
                intro x10_2 ez ls hl
                rw [ez] at hm
                refine lv_iload hx hb dX3_looks_192 (lv_at hl 0 rfl) ?_
                cases o2 hm
                exact W.iret hx hb hr (fun t ht hW => ⟨⟨_, (), rfl, rfl, by rw [ht]; exact hP, va_K.moved hW.alike hK, hD⟩, hS.F ht⟩) hS.2.2 dX3_looks_194
              have L_142 : ∀ (n : Nat) (x10 : Int32) (x8 : Int64) (x6 : Int64), X3_looks_L142 p1 yrow n x10 x8 x6 = some z_142 → ∀ (ls : Array Slot), lv_has ls 13 [(10, .int x10), (8, .long x8), (6, .long x6), (0, .ref (md 0)), (1, .int p1)] → W p l e (headSpec wsX3_looks ({ frames := 3, cells := 0, slots := 0, locals := 77 } : Room)).room s m ([.ref (md 0), .int p1] : List Value).toArray below meth c H locs 0 0 (MQ below (zQi (dC, dI) (wM cI cZ md u_yth ybd yro yrow ymk yrm yst ypc ybu ybn ymg ysp yjn ymd ybg ymm u_yup u_yun) [(cI, .int), (cZ, .boolean)] A r) ([.ref (md 0), .int p1] : List Value).toArray s 0 0 A) (F0 m 142 ls []) := by
                intro n
                induction n with
                | zero => intro x10 x8 x6 hm; cases hm
                | succ n ih_142 =>
                  intro x10 x8 x6 hm ls hl
                  refine lv_lload hx hb dX3_looks_142 (lv_at hl 2 rfl) ?_
                  refine lv_lload hx hb dX3_looks_144 (lv_at hl 1 rfl) ?_
                  refine W.lcmp hx hb dX3_looks_146 ?_
                  refine lv_if_ge (tgt := 192) hx hb dX3_looks_147 (by decide) (fun c_147 => ?_) (fun c_147 => ?_)
                  · have c_147 : x8 ≤ x6 := (lg_cmp_ge _ _).mp c_147
                    have hm := it_t hm c_147
                    exact K_142 x10 (o2 hm) _ (lv_sub hl [0] rfl)
                  · have c_147 : ¬ (x8 ≤ x6) := fun h => c_147 ((lg_cmp_ge _ _).mpr h)
                    have hm := it_f hm c_147
                    refine lv_lload hx hb dX3_looks_150 (lv_at hl 2 rfl) ?_
                    refine lv_lload hx hb dX3_looks_152 (lv_at hl 1 rfl) ?_
                    refine lv_ladd hx hb dX3_looks_154 ?_
                    refine lv_ldc2 hx hb hown zw3 dX3_looks_155 ?_
                    refine lv_ldiv hx hb dX3_looks_158 (by decide) ?_
                    refine lv_topl (fun x11 e_x11 => ?_)
                    have hm := bnd_e hm e_x11
                    refine lv_lstore (lv' := [(11, .long x11), (10, .int x10), (8, .long x8), (6, .long x6), (0, .ref (md 0)), (1, .int p1)]) hx hb dX3_looks_159 hl (by decide) rfl (fun ls hl => ?_)
                    obtain ⟨x10_1, e_x10_1⟩ : ∃ y : Int32, y = x10 + 1 := ⟨_, rfl⟩
                    have hm := bnd_e hm e_x10_1
                    refine lv_iinc (v := x10_1) (lv' := [(10, .int x10_1), (11, .long x11), (8, .long x8), (6, .long x6), (0, .ref (md 0)), (1, .int p1)]) hx hb dX3_looks_161 hl (k := 1) rfl (by rw [e_x10_1]; rfl) (by decide) rfl (fun ls hl => ?_)
                    refine lv_aload_n hx hb dX3_looks_164 rfl (lv_at hl 4 rfl) ?_
                    refine va_get (D := (dC, dI)) (ci := 3) (v := .ref (md 1)) (C := RX3) (T := TX3) (N := 18) hx hb hts ziX3 hown hK hP 0 rfl rfl 3 (by decide) zw4 (fun _ h9 => h9) rfl dX3_looks_165 ?_
                    refine lv_lload hx hb dX3_looks_168 (lv_at hl 1 rfl) ?_
                    refine lv_l2i hx hb dX3_looks_170 rfl ?_
                    obtain ⟨c_171, hm⟩ := ck hm
                    refine va_iald hx hb hK hP 1 0 rfl rfl c_171 dX3_looks_171 ?_
                    refine lv_iload_n hx hb dX3_looks_172 rfl (lv_at hl 5 rfl) ?_
                    refine lv_icmp_ge (tgt := 185) hx hb dX3_looks_173 (by decide) (fun c_173 => ?_) (fun c_173 => ?_)
                    · have hm := it_t hm c_173
                      refine lv_lload hx hb dX3_looks_185 (lv_at hl 1 rfl) ?_
                      refine lv_lstore (lv' := [(8, .long x11), (10, .int x10_1), (11, .long x11), (6, .long x6), (0, .ref (md 0)), (1, .int p1)]) hx hb dX3_looks_187 hl (by decide) rfl (fun ls hl => ?_)
                      refine lv_goto (tgt := 142) hx hb dX3_looks_189 (by decide) ?_
                      exact ih_142 x10_1 x11 x6 hm _ (lv_sub hl [1, 0, 3, 4, 5] rfl)
                    · have hm := it_f hm c_173
                      refine lv_lload hx hb dX3_looks_176 (lv_at hl 1 rfl) ?_
                      refine lv_lconst (v := 1) hx hb dX3_looks_178 (by decide) ?_
                      refine lv_ladd hx hb dX3_looks_179 ?_
                      refine lv_topl (fun x6_1 e_x6_1 => ?_)
                      have hm := bnd_e hm e_x6_1
                      refine lv_lstore (lv' := [(6, .long x6_1), (10, .int x10_1), (11, .long x11), (8, .long x8), (0, .ref (md 0)), (1, .int p1)]) hx hb dX3_looks_180 hl (by decide) rfl (fun ls hl => ?_)
                      refine lv_goto (tgt := 189) hx hb dX3_looks_182 (by decide) ?_
                      refine lv_goto (tgt := 142) hx hb dX3_looks_189 (by decide) ?_
                      exact ih_142 x10_1 x8 x6_1 hm _ (lv_sub hl [1, 3, 0, 4, 5] rfl)
              exact L_142 F 0 y137 y104 hq_142 _ (lv_sub hl [0, 1, 2, 6, 7] rfl)
            refine lv_if_ge (tgt := 134) hx hb dX3_looks_119 (by decide) (fun c_119 => ?_) (fun c_119 => ?_)
            · have c_119 : (Int32.toInt64 r45) ≤ ((r39 + (Int32.toInt64 ybd)) + 1) := (lg_cmp_ge _ _).mp c_119
              refine lv_iload hx hb dX3_looks_134 (lv_at hl 1 rfl) ?_
              refine lv_i2l hx hb dX3_looks_136 rfl ?_
              have e9 : y137 = (Int32.toInt64 r45) := by rw [e_y137, if_pos c_119]
              rw [e9] at J_137
              exact J_137
            · have c_119 : ¬ ((Int32.toInt64 r45) ≤ ((r39 + (Int32.toInt64 ybd)) + 1)) := fun h => c_119 ((lg_cmp_ge _ _).mpr h)
              refine lv_lload_n hx hb dX3_looks_122 rfl (lv_at hl 2 rfl) ?_
              refine lv_aload_n hx hb dX3_looks_123 rfl (lv_at hl 4 rfl) ?_
              refine va_get (D := (dC, dI)) (ci := 3) (v := .int ybd) (C := RX3) (T := TX3) (N := 18) hx hb hts ziX3 hown hK hP 0 rfl rfl 1 (by decide) zw1 (fun _ h9 => h9) rfl dX3_looks_124 ?_
              refine lv_i2l hx hb dX3_looks_127 rfl ?_
              refine lv_ladd hx hb dX3_looks_128 ?_
              refine lv_lconst (v := 1) hx hb dX3_looks_129 (by decide) ?_
              refine lv_ladd hx hb dX3_looks_130 ?_
              refine lv_goto (tgt := 137) hx hb dX3_looks_131 (by decide) ?_
              have e9 : y137 = ((r39 + (Int32.toInt64 ybd)) + 1) := by rw [e_y137, if_neg c_119]
              rw [e9] at J_137
              exact J_137
          refine lv_if_ge (tgt := 101) hx hb dX3_looks_93 (by decide) (fun c_93 => ?_) (fun c_93 => ?_)
          · have c_93 : (Int32.toInt64 r45) ≤ y85 := (lg_cmp_ge _ _).mp c_93
            refine lv_iload hx hb dX3_looks_101 (lv_at hl 1 rfl) ?_
            refine lv_i2l hx hb dX3_looks_103 rfl ?_
            have e9 : y104 = (Int32.toInt64 r45) := by rw [e_y104, if_pos c_93]
            rw [e9] at J_104
            exact J_104
          · have c_93 : ¬ ((Int32.toInt64 r45) ≤ y85) := fun h => c_93 ((lg_cmp_ge _ _).mpr h)
            refine lv_lload hx hb dX3_looks_96 (lv_at hl 0 rfl) ?_
            refine lv_goto (tgt := 104) hx hb dX3_looks_98 (by decide) ?_
            have e9 : y104 = y85 := by rw [e_y104, if_neg c_93]
            rw [e9] at J_104
            exact J_104
        have hm := hq_85
        refine lv_if_le (tgt := 78) hx hb dX3_looks_65 (by decide) (fun c_65 => ?_) (fun c_65 => ?_)
        · have c_65 : (r39 - (Int32.toInt64 ybd)) ≤ (Int32.toInt64 (yst (Int32.toNatClampNeg r18))) := (lg_cmp_le _ _).mp c_65
          have hm := it_t hm c_65
          refine lv_aload_n hx hb dX3_looks_78 rfl (lv_at hl 3 rfl) ?_
          refine va_get (D := (dC, dI)) (ci := 3) (v := .ref (md 3)) (C := RX3) (T := TX3) (N := 18) hx hb hts ziX3 hown hK hP 0 rfl rfl 6 (by decide) zw2 (fun _ h9 => h9) rfl dX3_looks_79 ?_
          refine lv_iload_n hx hb dX3_looks_82 rfl (lv_at hl 2 rfl) ?_
          obtain ⟨c_83, hm⟩ := ck hm
          refine va_iald hx hb hK hP 3 0 rfl rfl c_83 dX3_looks_83 ?_
          refine lv_i2l hx hb dX3_looks_84 rfl ?_
          exact J_85 (Int32.toInt64 (yst (Int32.toNatClampNeg r18))) (o2 hm)
        · have c_65 : ¬ ((r39 - (Int32.toInt64 ybd)) ≤ (Int32.toInt64 (yst (Int32.toNatClampNeg r18)))) := fun h => c_65 ((lg_cmp_le _ _).mpr h)
          have hm := it_f hm c_65
          refine lv_lload_n hx hb dX3_looks_68 rfl (lv_at hl 1 rfl) ?_
          refine lv_aload_n hx hb dX3_looks_69 rfl (lv_at hl 3 rfl) ?_
          refine va_get (D := (dC, dI)) (ci := 3) (v := .int ybd) (C := RX3) (T := TX3) (N := 18) hx hb hts ziX3 hown hK hP 0 rfl rfl 1 (by decide) zw1 (fun _ h9 => h9) rfl dX3_looks_70 ?_
          refine lv_i2l hx hb dX3_looks_73 rfl ?_
          refine lv_lsub hx hb dX3_looks_74 ?_
          refine lv_goto (tgt := 85) hx hb dX3_looks_75 (by decide) ?_
          exact J_85 (r39 - (Int32.toInt64 ybd)) (o2 hm)
      · have hm := it_t hm c_31
        refine lv_iconst (v := 0) hx hb dX3_looks_34 (by decide) ?_
        cases o2 hm
        exact W.iret hx hb hr (fun t ht hW => ⟨⟨_, (), rfl, rfl, by rw [ht]; exact hP, va_K.moved hW.alike hK, hD⟩, hS.F ht⟩) hS.2.2 dX3_looks_35
  refine lv_if_eq (tgt := 12) hx hb dX3_looks_5 (by decide) (fun c_5 => ?_) (fun c_5 => ?_)
  · refine lv_iconst (v := 1) hx hb dX3_looks_12 (by decide) ?_
    have e9 : y13 = 1 := by rw [e_y13, if_pos c_5]
    rw [e9] at J_13
    exact J_13
  · refine lv_iconst (v := 0) hx hb dX3_looks_8 (by decide) ?_
    refine lv_goto (tgt := 13) hx hb dX3_looks_9 (by decide) ?_
    have e9 : y13 = 0 := by rw [e_y13, if_neg c_5]
    rw [e9] at J_13
    exact J_13
set_option maxHeartbeats 4000000 in
set_option maxRecDepth 100000 in
theorem c_X3_worstError (l : Launch) (dC : Nat → ClassId) (dI : Nat → Nat → Nat) (cI : ClassId) (cZ : ClassId) (md : Nat → Nat) (yth : Int32) (ybd : Int32) (yro : Int32) (yrow : Nat → Int32) (ymk : Nat → Int32) (yrm : Int32) (yst : Nat → Int32) (ypc : Int32) (ybu : Nat → Int32) (ybn : Int32) (ymg : Int32) (ysp : Int32) (yjn : Int32) (ymd : Nat → Int32) (ybg : Nat → Int32) (ymm : Int32) (yup : Int64) (yun : Int64) (F : Nat) (sz : Nat) (r : Int32) (u_yth : Int32) (u_yup : Int64) (u_yun : Int64) (hm : X3_worstError F yth ybd yrow yrm yst ypc yup yun = some (r, u_yth, u_yup, u_yun)) : Met l yX3_worstError wsX3_worstError ({ frames := 3, cells := 0, slots := 0, locals := 77 }) (va_Pc [.ref (md 0)] (zW (dC, dI) (wM cI cZ md yth ybd yro yrow ymk yrm yst ypc ybu ybn ymg ysp yjn ymd ybg ymm yup yun) [(cI, .int), (cZ, .boolean)] sz)) (zQi (dC, dI) (wM cI cZ md u_yth ybd yro yrow ymk yrm yst ypc ybu ybn ymg ysp yjn ymd ybg ymm u_yup u_yun) [(cI, .int), (cZ, .boolean)] (va_A (wM cI cZ md yth ybd yro yrow ymk yrm yst ypc ybu ybn ymg ysp yjn ymd ybg ymm yup yun) sz) r) 0 0 (va_A (wM cI cZ md yth ybd yro yrow ymk yrm yst ypc ybu ybn ymg ysp yjn ymd ybg ymm yup yun) sz) := by
  refine Met.ofW (cc := cX3_worstError) (maxL := 6) (ret := (some .int)) (by decide) rfl ?_
  intro p e s m args below meth c s₁ B hml hv
  obtain ⟨rfl, hsz, hP, hK, hD0⟩ := hv
  have hx := B.exec
  have hb := B.bytes
  have hr := B.returns
  have hts := atoms_spec (ws := wsX3_worstError) B.pre
  have hown : s.vm.findClass RX3 = some m.cls := findClass_of_methodNamed B.named
  have hlocks := B.notSynchronized
  subst hsz
  have hD := hD0.self (sz := s.heap.size)
  generalize hAe : va_A (wM cI cZ md yth ybd yro yrow ymk yrm yst ypc ybu ybn ymg ysp yjn ymd ybg ymm yup yun) s.heap.size = A at hD ⊢
  have hA : ∀ q : Nat, s.heap.size ≤ q → A q := fun q h => by rw [← hAe]; exact Or.inr h
  have hS : va_S A s.heap s.heap [] := va_S.rf
  generalize eL : ([] : List Loc) = locs at hS ⊢
  obtain ⟨H, eH⟩ : ∃ z : Heap, z = s.heap := ⟨_, rfl⟩
  have hP : va_P (dC, dI) vwCl (wM cI cZ md yth ybd yro yrow ymk yrm yst ypc ybu ybn ymg ysp yjn ymd ybg ymm yup yun) H := by rw [eH]; exact hP
  have hS : va_S A s.heap H locs := by rw [eH]; exact hS
  refine z_heap eH ?_
  have hl := lv_entry ([.ref (md 0)]) (n := 6) (Nat.le_of_ble_eq_true rfl)
  rw [lg_entry_eq]
  generalize (lg_sl ([.ref (md 0)]) ++ List.replicate (6 - (lg_sl ([.ref (md 0)])).length) Slot.unset).toArray = ls at hl ⊢
  have hl : lv_has ls 6 [(0, .ref (md 0))] := hl
  have zw0 := hts (.fieldLink RX3 36 "LearnedLedgeModel" "thrown" "I") (by decide +kernel)
  have zw1 := hts (.fieldLink RX3 51 "LearnedLedgeModel" "rowMany" "I") (by decide +kernel)
  have zw2 := hts (.fieldLink RX3 16 "LearnedLedgeModel" "row" "[I") (by decide +kernel)
  have ziX3 : ∀ w ∈ u_ws RX3 TX3 18, w ∈ wsX3_worstError := by decide +kernel
  refine lv_aload_n hx hb dX3_worstError_0 rfl (lv_at hl 0 rfl) ?_
  refine lv_iconst (v := 0) hx hb dX3_worstError_1 (by decide) ?_
  refine va_put (D := (dC, dI)) (ci := 3) (v := .int 0) (ty := .int) (C := RX3) (T := TX3) (N := 18) hx hb hts ziX3 tyX3 tyX3_ok nmX3 hown hK hP hD hS 0 rfl rfl 0 (by decide) zw0 (fun _ h9 => h9) rfl (by decide +kernel) rfl rfl (Nat.le_of_ble_eq_true rfl) dX3_worstError_2 (fun H locs hP hD hS => ?_)
  have hP : va_P (dC, dI) vwCl (wM cI cZ md 0 ybd yro yrow ymk yrm yst ypc ybu ybn ymg ysp yjn ymd ybg ymm yup yun) H := hP
  have hD : va_D A (wM cI cZ md 0 ybd yro yrow ymk yrm yst ypc ybu ybn ymg ysp yjn ymd ybg ymm yup yun) := hD
  refine lv_lconst (v := 0) hx hb dX3_worstError_5 (by decide) ?_
  refine lv_lstore_n (lv' := [(1, .long 0), (0, .ref (md 0))]) hx hb dX3_worstError_6 rfl hl (by decide) rfl (fun ls hl => ?_)
  refine lv_iconst (v := 0) hx hb dX3_worstError_7 (by decide) ?_
  refine lv_istore_n (lv' := [(3, .int 0), (1, .long 0), (0, .ref (md 0))]) hx hb dX3_worstError_8 rfl hl (by decide) rfl (fun ls hl => ?_)
  obtain ⟨z_9, hq_9, hm⟩ := ob hm
  have K_9 : ∀ (x1_1 : Int64), ∀ (yupx9 : Int64), ∀ (yunx9 : Int64), z_9 = (x1_1, yupx9, yunx9) → ∀ (H : Heap) (locs : List Loc), va_P (dC, dI) vwCl (wM cI cZ md 0 ybd yro yrow ymk yrm yst ypc ybu ybn ymg ysp yjn ymd ybg ymm yupx9 yunx9) H → va_D A (wM cI cZ md 0 ybd yro yrow ymk yrm yst ypc ybu ybn ymg ysp yjn ymd ybg ymm yupx9 yunx9) → va_S A s.heap H locs → ∀ (ls : Array Slot), lv_has ls 6 [(1, .long x1_1)] → W p l e (headSpec wsX3_worstError ({ frames := 3, cells := 0, slots := 0, locals := 77 } : Room)).room s m ([.ref (md 0)] : List Value).toArray below meth c H locs 0 0 (MQ below (zQi (dC, dI) (wM cI cZ md u_yth ybd yro yrow ymk yrm yst ypc ybu ybn ymg ysp yjn ymd ybg ymm u_yup u_yun) [(cI, .int), (cZ, .boolean)] A r) ([.ref (md 0)] : List Value).toArray s 0 0 A) (F0 m 79 ls []) := by
    intro x1_1 yupx9 yunx9 ez H locs hP hD hS ls hl
    rw [ez] at hm
    refine lv_lload_n hx hb dX3_worstError_79 rfl (lv_at hl 0 rfl) ?_
    refine lv_l2i hx hb dX3_worstError_80 rfl ?_
    cases o2 hm
    exact W.iret hx hb hr (fun t ht hW => ⟨⟨_, (), rfl, rfl, by rw [ht]; exact hP, va_K.moved hW.alike hK, hD⟩, hS.F ht⟩) hS.2.2 dX3_worstError_81
  have L_9 : ∀ (n : Nat) (x3 : Int32) (x1 : Int64) (yupl9 : Int64) (yunl9 : Int64), X3_worstError_L9 ybd yrow yrm yst ypc F n x3 x1 yupl9 yunl9 = some z_9 → ∀ (H : Heap) (locs : List Loc), va_P (dC, dI) vwCl (wM cI cZ md 0 ybd yro yrow ymk yrm yst ypc ybu ybn ymg ysp yjn ymd ybg ymm yupl9 yunl9) H → va_D A (wM cI cZ md 0 ybd yro yrow ymk yrm yst ypc ybu ybn ymg ysp yjn ymd ybg ymm yupl9 yunl9) → va_S A s.heap H locs → ∀ (ls : Array Slot), lv_has ls 6 [(3, .int x3), (1, .long x1), (0, .ref (md 0))] → W p l e (headSpec wsX3_worstError ({ frames := 3, cells := 0, slots := 0, locals := 77 } : Room)).room s m ([.ref (md 0)] : List Value).toArray below meth c H locs 0 0 (MQ below (zQi (dC, dI) (wM cI cZ md u_yth ybd yro yrow ymk yrm yst ypc ybu ybn ymg ysp yjn ymd ybg ymm u_yup u_yun) [(cI, .int), (cZ, .boolean)] A r) ([.ref (md 0)] : List Value).toArray s 0 0 A) (F0 m 9 ls []) := by
    intro n
    induction n with
    | zero => intro x3 x1 yupl9 yunl9 hm; cases hm
    | succ n ih_9 =>
      intro x3 x1 yupl9 yunl9 hm H locs hP hD hS ls hl
      refine lv_iload_n hx hb dX3_worstError_9 rfl (lv_at hl 0 rfl) ?_
      refine lv_aload_n hx hb dX3_worstError_10 rfl (lv_at hl 2 rfl) ?_
      refine va_get (D := (dC, dI)) (ci := 3) (v := .int yrm) (C := RX3) (T := TX3) (N := 18) hx hb hts ziX3 hown hK hP 0 rfl rfl 5 (by decide) zw1 (fun _ h9 => h9) rfl dX3_worstError_11 ?_
      refine lv_icmp_ge (tgt := 79) hx hb dX3_worstError_14 (by decide) (fun c_14 => ?_) (fun c_14 => ?_)
      · have hm := it_t hm c_14
        exact K_9 x1 yupl9 yunl9 (o2 hm) _ _ hP hD hS _ (lv_sub hl [1] rfl)
      · have hm := it_f hm c_14
        refine lv_aload_n hx hb dX3_worstError_17 rfl (lv_at hl 2 rfl) ?_
        refine lv_aload_n hx hb dX3_worstError_18 rfl (lv_at hl 2 rfl) ?_
        refine va_get (D := (dC, dI)) (ci := 3) (v := .ref (md 1)) (C := RX3) (T := TX3) (N := 18) hx hb hts ziX3 hown hK hP 0 rfl rfl 3 (by decide) zw2 (fun _ h9 => h9) rfl dX3_worstError_19 ?_
        refine lv_iload_n hx hb dX3_worstError_22 rfl (lv_at hl 0 rfl) ?_
        obtain ⟨c_23, hm⟩ := ck hm
        refine va_iald hx hb hK hP 1 0 rfl rfl c_23 dX3_worstError_23 ?_
        refine lv_aload_n hx hb dX3_worstError_24 rfl (lv_at hl 2 rfl) ?_
        refine lv_aload_n hx hb dX3_worstError_25 rfl (lv_at hl 2 rfl) ?_
        refine va_get (D := (dC, dI)) (ci := 3) (v := .ref (md 1)) (C := RX3) (T := TX3) (N := 18) hx hb hts ziX3 hown hK hP 0 rfl rfl 3 (by decide) zw2 (fun _ h9 => h9) rfl dX3_worstError_26 ?_
        refine lv_iload_n hx hb dX3_worstError_29 rfl (lv_at hl 0 rfl) ?_
        obtain ⟨c_30, hm⟩ := ck hm
        refine va_iald hx hb hK hP 1 0 rfl rfl c_30 dX3_worstError_30 ?_
        obtain ⟨r31, h_31, hm⟩ := ob hm
        refine z_callRi (As := [.int (yrow (Int32.toNatClampNeg x3))]) (rest := [.int (yrow (Int32.toNatClampNeg x3)), .ref (md 0)]) (ci := 3) (q := (RX3, TX3, 18)) ⟨hx, hb, hml, hown, hts⟩ (c_X3_pieceOf l dC dI cI cZ md 0 ybd yro yrow ymk yrm yst ypc ybu ybn ymg ysp yjn ymd ybg ymm yupl9 yunl9 F (yrow (Int32.toNatClampNeg x3)) r31 h_31) (cwV 1 hts gX3_worstError_X3_pieceOf rfl rfl rfl kv_X3_pieceOf ⟨Nat.le_of_ble_eq_true rfl, Nat.le_of_ble_eq_true rfl⟩) hK hP rfl rfl rfl rfl hl.1 rfl (Nat.le_of_ble_eq_true rfl) dX3_worstError_31 ⟨Nat.zero_le _, Nat.zero_le _⟩ ?_
        obtain ⟨⟨r34, yup34, yun34⟩, h_34, hm⟩ := ob hm
        refine z_callWl (wc := (wM cI cZ md 0 ybd yro yrow ymk yrm yst ypc ybu ybn ymg ysp yjn ymd ybg ymm yupl9 yunl9)) (w1 := (wM cI cZ md 0 ybd yro yrow ymk yrm yst ypc ybu ybn ymg ysp yjn ymd ybg ymm yup34 yun34)) (ws := (wM cI cZ md 0 ybd yro yrow ymk yrm yst ypc ybu ybn ymg ysp yjn ymd ybg ymm yupl9 yunl9)) (ws' := (wM cI cZ md 0 ybd yro yrow ymk yrm yst ypc ybu ybn ymg ysp yjn ymd ybg ymm yup34 yun34)) [0, 1, 2, 3, 4, 5, 6] [] 7 (As := [.int (yrow (Int32.toNatClampNeg x3)), .int r31]) (rest := []) (ci := 3) (q := (RX3, TX3, 18)) ⟨hx, hb, hml, hown, hts⟩ (c_X3_guessOf l dC dI cI cZ md 0 ybd yro yrow ymk yrm yst ypc ybu ybn ymg ysp yjn ymd ybg ymm yupl9 yunl9 F (yrow (Int32.toNatClampNeg x3)) r31 H.size r34 yup34 yun34 h_34) (cwV 2 hts gX3_worstError_X3_guessOf rfl rfl rfl kv_X3_guessOf ⟨Nat.le_of_ble_eq_true rfl, Nat.le_of_ble_eq_true rfl⟩) hK hP hD hS hA hP hD rfl rfl (by decide) rfl rfl (by decide) rfl rfl rfl rfl rfl hl.1 rfl (Nat.le_of_ble_eq_true rfl) dX3_worstError_34 ⟨Nat.zero_le _, Nat.zero_le _⟩ (fun H locs hP hD hS => ?_)
        refine lv_iload_n hx hb dX3_worstError_37 rfl (lv_at hl 0 rfl) ?_
        refine lv_i2l hx hb dX3_worstError_38 rfl ?_
        refine lv_lsub hx hb dX3_worstError_39 ?_
        refine lv_topl (fun x4 e_x4 => ?_)
        have hm := bnd_e hm e_x4
        refine lv_lstore (lv' := [(4, .long x4), (3, .int x3), (1, .long x1), (0, .ref (md 0))]) hx hb dX3_worstError_40 hl (by decide) rfl (fun ls hl => ?_)
        refine lv_lload hx hb dX3_worstError_42 (lv_at hl 0 rfl) ?_
        refine lv_lconst (v := 0) hx hb dX3_worstError_44 (by decide) ?_
        refine W.lcmp hx hb dX3_worstError_45 ?_
        obtain ⟨y57, e_y57⟩ : ∃ y : Int64, y = (if 0 ≤ x4 then x4 else (-x4)) := ⟨_, rfl⟩
        have hm := bnd_e hm e_y57
        have J_57 : W p l e (headSpec wsX3_worstError ({ frames := 3, cells := 0, slots := 0, locals := 77 } : Room)).room s m ([.ref (md 0)] : List Value).toArray below meth c H locs 0 0 (MQ below (zQi (dC, dI) (wM cI cZ md u_yth ybd yro yrow ymk yrm yst ypc ybu ybn ymg ysp yjn ymd ybg ymm u_yup u_yun) [(cI, .int), (cZ, .boolean)] A r) ([.ref (md 0)] : List Value).toArray s 0 0 A) (F0 m 57 ls [.long y57]) := by
          refine lv_lstore (lv' := [(4, .long y57), (3, .int x3), (1, .long x1), (0, .ref (md 0))]) hx hb dX3_worstError_57 hl (by decide) rfl (fun ls hl => ?_)
          refine lv_lload hx hb dX3_worstError_59 (lv_at hl 0 rfl) ?_
          refine lv_lload_n hx hb dX3_worstError_61 rfl (lv_at hl 2 rfl) ?_
          refine W.lcmp hx hb dX3_worstError_62 ?_
          refine lv_if_le (tgt := 71) hx hb dX3_worstError_63 (by decide) (fun c_63 => ?_) (fun c_63 => ?_)
          · have c_63 : y57 ≤ x1 := (lg_cmp_le _ _).mp c_63
            have hm := it_t hm c_63
            refine lv_lload_n hx hb dX3_worstError_71 rfl (lv_at hl 2 rfl) ?_
            refine lv_lstore_n (lv' := [(1, .long x1), (4, .long y57), (3, .int x3), (0, .ref (md 0))]) hx hb dX3_worstError_72 rfl hl (by decide) rfl (fun ls hl => ?_)
            obtain ⟨x3_1, e_x3_1⟩ : ∃ y : Int32, y = x3 + 1 := ⟨_, rfl⟩
            have hm := bnd_e hm e_x3_1
            refine lv_iinc (v := x3_1) (lv' := [(3, .int x3_1), (1, .long x1), (4, .long y57), (0, .ref (md 0))]) hx hb dX3_worstError_73 hl (k := 2) rfl (by rw [e_x3_1]; rfl) (by decide) rfl (fun ls hl => ?_)
            refine lv_goto (tgt := 9) hx hb dX3_worstError_76 (by decide) ?_
            exact ih_9 x3_1 x1 yup34 yun34 hm _ _ hP hD hS _ (lv_sub hl [0, 1, 3] rfl)
          · have c_63 : ¬ (y57 ≤ x1) := fun h => c_63 ((lg_cmp_le _ _).mpr h)
            have hm := it_f hm c_63
            refine lv_lload hx hb dX3_worstError_66 (lv_at hl 0 rfl) ?_
            refine lv_goto (tgt := 72) hx hb dX3_worstError_68 (by decide) ?_
            refine lv_lstore_n (lv' := [(1, .long y57), (4, .long y57), (3, .int x3), (0, .ref (md 0))]) hx hb dX3_worstError_72 rfl hl (by decide) rfl (fun ls hl => ?_)
            obtain ⟨x3_2, e_x3_2⟩ : ∃ y : Int32, y = x3 + 1 := ⟨_, rfl⟩
            have hm := bnd_e hm e_x3_2
            refine lv_iinc (v := x3_2) (lv' := [(3, .int x3_2), (1, .long y57), (4, .long y57), (0, .ref (md 0))]) hx hb dX3_worstError_73 hl (k := 2) rfl (by rw [e_x3_2]; rfl) (by decide) rfl (fun ls hl => ?_)
            refine lv_goto (tgt := 9) hx hb dX3_worstError_76 (by decide) ?_
            exact ih_9 x3_2 y57 yup34 yun34 hm _ _ hP hD hS _ (lv_sub hl [0, 1, 3] rfl)
        refine lv_if_ge (tgt := 55) hx hb dX3_worstError_46 (by decide) (fun c_46 => ?_) (fun c_46 => ?_)
        · have c_46 : 0 ≤ x4 := (lg_cmp_ge _ _).mp c_46
          refine lv_lload hx hb dX3_worstError_55 (lv_at hl 0 rfl) ?_
          have e9 : y57 = x4 := by rw [e_y57, if_pos c_46]
          rw [e9] at J_57
          exact J_57
        · have c_46 : ¬ (0 ≤ x4) := fun h => c_46 ((lg_cmp_ge _ _).mpr h)
          refine lv_lload hx hb dX3_worstError_49 (lv_at hl 0 rfl) ?_
          refine lv_lneg hx hb dX3_worstError_51 ?_
          refine lv_goto (tgt := 57) hx hb dX3_worstError_52 (by decide) ?_
          have e9 : y57 = (-x4) := by rw [e_y57, if_neg c_46]
          rw [e9] at J_57
          exact J_57
  exact L_9 F 0 0 yup yun hq_9 _ _ hP hD hS _ (lv_sub hl [0, 1, 2] rfl)
set_option maxHeartbeats 4000000 in
set_option maxRecDepth 100000 in
theorem c_X3_pieces (l : Launch) (dC : Nat → ClassId) (dI : Nat → Nat → Nat) (cI : ClassId) (cZ : ClassId) (md : Nat → Nat) (yth : Int32) (ybd : Int32) (yro : Int32) (yrow : Nat → Int32) (ymk : Nat → Int32) (yrm : Int32) (yst : Nat → Int32) (ypc : Int32) (ybu : Nat → Int32) (ybn : Int32) (ymg : Int32) (ysp : Int32) (yjn : Int32) (ymd : Nat → Int32) (ybg : Nat → Int32) (ymm : Int32) (yup : Int64) (yun : Int64) (F : Nat) (sz : Nat) (r : Int32) (u_yth : Int32) (hm : X3_pieces F yth ypc = some (r, u_yth)) : Met l yX3_pieces wsX3_pieces ({ frames := 0, cells := 0, slots := 0, locals := 0 }) (va_Pc [.ref (md 0)] (zW (dC, dI) (wM cI cZ md yth ybd yro yrow ymk yrm yst ypc ybu ybn ymg ysp yjn ymd ybg ymm yup yun) [(cI, .int), (cZ, .boolean)] sz)) (zQi (dC, dI) (wM cI cZ md u_yth ybd yro yrow ymk yrm yst ypc ybu ybn ymg ysp yjn ymd ybg ymm yup yun) [(cI, .int), (cZ, .boolean)] (va_A (wM cI cZ md yth ybd yro yrow ymk yrm yst ypc ybu ybn ymg ysp yjn ymd ybg ymm yup yun) sz) r) 0 0 (va_A (wM cI cZ md yth ybd yro yrow ymk yrm yst ypc ybu ybn ymg ysp yjn ymd ybg ymm yup yun) sz) := by
  refine Met.ofW (cc := cX3_pieces) (maxL := 1) (ret := (some .int)) (by decide) rfl ?_
  intro p e s m args below meth c s₁ B hml hv
  obtain ⟨rfl, hsz, hP, hK, hD0⟩ := hv
  have hx := B.exec
  have hb := B.bytes
  have hr := B.returns
  have hts := atoms_spec (ws := wsX3_pieces) B.pre
  have hown : s.vm.findClass RX3 = some m.cls := findClass_of_methodNamed B.named
  have hlocks := B.notSynchronized
  subst hsz
  have hD := hD0.self (sz := s.heap.size)
  generalize hAe : va_A (wM cI cZ md yth ybd yro yrow ymk yrm yst ypc ybu ybn ymg ysp yjn ymd ybg ymm yup yun) s.heap.size = A at hD ⊢
  have hA : ∀ q : Nat, s.heap.size ≤ q → A q := fun q h => by rw [← hAe]; exact Or.inr h
  have hS : va_S A s.heap s.heap [] := va_S.rf
  generalize eL : ([] : List Loc) = locs at hS ⊢
  obtain ⟨H, eH⟩ : ∃ z : Heap, z = s.heap := ⟨_, rfl⟩
  have hP : va_P (dC, dI) vwCl (wM cI cZ md yth ybd yro yrow ymk yrm yst ypc ybu ybn ymg ysp yjn ymd ybg ymm yup yun) H := by rw [eH]; exact hP
  have hS : va_S A s.heap H locs := by rw [eH]; exact hS
  refine z_heap eH ?_
  have hl := lv_entry ([.ref (md 0)]) (n := 1) (Nat.le_of_ble_eq_true rfl)
  rw [lg_entry_eq]
  generalize (lg_sl ([.ref (md 0)]) ++ List.replicate (1 - (lg_sl ([.ref (md 0)])).length) Slot.unset).toArray = ls at hl ⊢
  have hl : lv_has ls 1 [(0, .ref (md 0))] := hl
  have zw0 := hts (.fieldLink RX3 36 "LearnedLedgeModel" "thrown" "I") (by decide +kernel)
  have zw1 := hts (.fieldLink RX3 48 "LearnedLedgeModel" "pieces" "I") (by decide +kernel)
  have ziX3 : ∀ w ∈ u_ws RX3 TX3 18, w ∈ wsX3_pieces := by decide +kernel
  refine lv_aload_n hx hb dX3_pieces_0 rfl (lv_at hl 0 rfl) ?_
  refine lv_iconst (v := 0) hx hb dX3_pieces_1 (by decide) ?_
  refine va_put (D := (dC, dI)) (ci := 3) (v := .int 0) (ty := .int) (C := RX3) (T := TX3) (N := 18) hx hb hts ziX3 tyX3 tyX3_ok nmX3 hown hK hP hD hS 0 rfl rfl 0 (by decide) zw0 (fun _ h9 => h9) rfl (by decide +kernel) rfl rfl (Nat.le_of_ble_eq_true rfl) dX3_pieces_2 (fun H locs hP hD hS => ?_)
  have hP : va_P (dC, dI) vwCl (wM cI cZ md 0 ybd yro yrow ymk yrm yst ypc ybu ybn ymg ysp yjn ymd ybg ymm yup yun) H := hP
  have hD : va_D A (wM cI cZ md 0 ybd yro yrow ymk yrm yst ypc ybu ybn ymg ysp yjn ymd ybg ymm yup yun) := hD
  refine lv_aload_n hx hb dX3_pieces_5 rfl (lv_at hl 0 rfl) ?_
  refine va_get (D := (dC, dI)) (ci := 3) (v := .int ypc) (C := RX3) (T := TX3) (N := 18) hx hb hts ziX3 hown hK hP 0 rfl rfl 7 (by decide) zw1 (fun _ h9 => h9) rfl dX3_pieces_6 ?_
  cases o2 hm
  exact W.iret hx hb hr (fun t ht hW => ⟨⟨_, (), rfl, rfl, by rw [ht]; exact hP, va_K.moved hW.alike hK, hD⟩, hS.F ht⟩) hS.2.2 dX3_pieces_9
set_option maxHeartbeats 4000000 in
set_option maxRecDepth 100000 in
theorem c_X3_asks (l : Launch) (dC : Nat → ClassId) (dI : Nat → Nat → Nat) (cI : ClassId) (cZ : ClassId) (md : Nat → Nat) (yth : Int32) (ybd : Int32) (yro : Int32) (yrow : Nat → Int32) (ymk : Nat → Int32) (yrm : Int32) (yst : Nat → Int32) (ypc : Int32) (ybu : Nat → Int32) (ybn : Int32) (ymg : Int32) (ysp : Int32) (yjn : Int32) (ymd : Nat → Int32) (ybg : Nat → Int32) (ymm : Int32) (yup : Int64) (yun : Int64) (F : Nat) (p1 : Int32) (sz : Nat) (r : Int32) (u_yth : Int32) (hm : X3_asks F yth ypc p1 = some (r, u_yth)) : Met l yX3_asks wsX3_asks ({ frames := 0, cells := 0, slots := 0, locals := 0 }) (va_Pc [.ref (md 0), .int p1] (zW (dC, dI) (wM cI cZ md yth ybd yro yrow ymk yrm yst ypc ybu ybn ymg ysp yjn ymd ybg ymm yup yun) [(cI, .int), (cZ, .boolean)] sz)) (zQi (dC, dI) (wM cI cZ md u_yth ybd yro yrow ymk yrm yst ypc ybu ybn ymg ysp yjn ymd ybg ymm yup yun) [(cI, .int), (cZ, .boolean)] (va_A (wM cI cZ md yth ybd yro yrow ymk yrm yst ypc ybu ybn ymg ysp yjn ymd ybg ymm yup yun) sz) r) 0 0 (va_A (wM cI cZ md yth ybd yro yrow ymk yrm yst ypc ybu ybn ymg ysp yjn ymd ybg ymm yup yun) sz) := by
  refine Met.ofW (cc := cX3_asks) (maxL := 2) (ret := (some .boolean)) (by decide) rfl ?_
  intro p e s m args below meth c s₁ B hml hv
  obtain ⟨rfl, hsz, hP, hK, hD0⟩ := hv
  have hx := B.exec
  have hb := B.bytes
  have hr := B.returns
  have hts := atoms_spec (ws := wsX3_asks) B.pre
  have hown : s.vm.findClass RX3 = some m.cls := findClass_of_methodNamed B.named
  have hlocks := B.notSynchronized
  subst hsz
  have hD := hD0.self (sz := s.heap.size)
  generalize hAe : va_A (wM cI cZ md yth ybd yro yrow ymk yrm yst ypc ybu ybn ymg ysp yjn ymd ybg ymm yup yun) s.heap.size = A at hD ⊢
  have hA : ∀ q : Nat, s.heap.size ≤ q → A q := fun q h => by rw [← hAe]; exact Or.inr h
  have hS : va_S A s.heap s.heap [] := va_S.rf
  generalize eL : ([] : List Loc) = locs at hS ⊢
  obtain ⟨H, eH⟩ : ∃ z : Heap, z = s.heap := ⟨_, rfl⟩
  have hP : va_P (dC, dI) vwCl (wM cI cZ md yth ybd yro yrow ymk yrm yst ypc ybu ybn ymg ysp yjn ymd ybg ymm yup yun) H := by rw [eH]; exact hP
  have hS : va_S A s.heap H locs := by rw [eH]; exact hS
  refine z_heap eH ?_
  have hl := lv_entry ([.ref (md 0), .int p1]) (n := 2) (Nat.le_of_ble_eq_true rfl)
  rw [lg_entry_eq]
  generalize (lg_sl ([.ref (md 0), .int p1]) ++ List.replicate (2 - (lg_sl ([.ref (md 0), .int p1])).length) Slot.unset).toArray = ls at hl ⊢
  have hl : lv_has ls 2 [(0, .ref (md 0)), (1, .int p1)] := hl
  have zw0 := hts (.fieldLink RX3 48 "LearnedLedgeModel" "pieces" "I") (by decide +kernel)
  have zw1 := hts (.fieldLink RX3 36 "LearnedLedgeModel" "thrown" "I") (by decide +kernel)
  have ziX3 : ∀ w ∈ u_ws RX3 TX3 18, w ∈ wsX3_asks := by decide +kernel
  refine lv_aload_n hx hb dX3_asks_0 rfl (lv_at hl 0 rfl) ?_
  refine lv_iload_n hx hb dX3_asks_1 rfl (lv_at hl 1 rfl) ?_
  obtain ⟨y18, e_y18⟩ : ∃ y : Int32, y = (if p1 < 0 then 1 else (if ypc ≤ p1 then 1 else 0)) := ⟨_, rfl⟩
  have hm := bnd_e hm e_y18
  have J_18 : W p l e (headSpec wsX3_asks ({ frames := 0, cells := 0, slots := 0, locals := 0 } : Room)).room s m ([.ref (md 0), .int p1] : List Value).toArray below meth c H locs 0 0 (MQ below (zQi (dC, dI) (wM cI cZ md u_yth ybd yro yrow ymk yrm yst ypc ybu ybn ymg ysp yjn ymd ybg ymm yup yun) [(cI, .int), (cZ, .boolean)] A r) ([.ref (md 0), .int p1] : List Value).toArray s 0 0 A) (F0 m 18 ls [.int y18, .ref (md 0)]) := by
    refine va_put (D := (dC, dI)) (ci := 3) (v := .int y18) (ty := .int) (C := RX3) (T := TX3) (N := 18) hx hb hts ziX3 tyX3 tyX3_ok nmX3 hown hK hP hD hS 0 rfl rfl 0 (by decide) zw1 (fun _ h9 => h9) rfl (by decide +kernel) rfl rfl (Nat.le_of_ble_eq_true rfl) dX3_asks_18 (fun H locs hP hD hS => ?_)
    have hP : va_P (dC, dI) vwCl (wM cI cZ md y18 ybd yro yrow ymk yrm yst ypc ybu ybn ymg ysp yjn ymd ybg ymm yup yun) H := hP
    have hD : va_D A (wM cI cZ md y18 ybd yro yrow ymk yrm yst ypc ybu ybn ymg ysp yjn ymd ybg ymm yup yun) := hD
    refine lv_aload_n hx hb dX3_asks_21 rfl (lv_at hl 0 rfl) ?_
    refine va_get (D := (dC, dI)) (ci := 3) (v := .int y18) (C := RX3) (T := TX3) (N := 18) hx hb hts ziX3 hown hK hP 0 rfl rfl 0 (by decide) zw1 (fun _ h9 => h9) rfl dX3_asks_22 ?_
    refine lv_if_ne (tgt := 32) hx hb dX3_asks_25 (by decide) (fun c_25 => ?_) (fun c_25 => ?_)
    · have hm := it_f hm c_25
      refine lv_iconst (v := 0) hx hb dX3_asks_32 (by decide) ?_
      cases o2 hm
      exact W.zret hx hb hr rfl (fun t ht hW => ⟨⟨_, (), rfl, rfl, by rw [ht]; exact hP, va_K.moved hW.alike hK, hD⟩, hS.F ht⟩) hS.2.2 dX3_asks_33
    · have hm := it_t hm c_25
      refine lv_iconst (v := 1) hx hb dX3_asks_28 (by decide) ?_
      refine lv_goto (tgt := 33) hx hb dX3_asks_29 (by decide) ?_
      cases o2 hm
      exact W.zret hx hb hr rfl (fun t ht hW => ⟨⟨_, (), rfl, rfl, by rw [ht]; exact hP, va_K.moved hW.alike hK, hD⟩, hS.F ht⟩) hS.2.2 dX3_asks_33
  refine lv_if_lt (tgt := 17) hx hb dX3_asks_2 (by decide) (fun c_2 => ?_) (fun c_2 => ?_)
  · refine lv_iconst (v := 1) hx hb dX3_asks_17 (by decide) ?_
    have e9 : y18 = 1 := by rw [e_y18, if_pos c_2]
    rw [e9] at J_18
    exact J_18
  · refine lv_iload_n hx hb dX3_asks_5 rfl (lv_at hl 1 rfl) ?_
    refine lv_aload_n hx hb dX3_asks_6 rfl (lv_at hl 0 rfl) ?_
    refine va_get (D := (dC, dI)) (ci := 3) (v := .int ypc) (C := RX3) (T := TX3) (N := 18) hx hb hts ziX3 hown hK hP 0 rfl rfl 7 (by decide) zw0 (fun _ h9 => h9) rfl dX3_asks_7 ?_
    refine lv_icmp_ge (tgt := 17) hx hb dX3_asks_10 (by decide) (fun c_10 => ?_) (fun c_10 => ?_)
    · refine lv_iconst (v := 1) hx hb dX3_asks_17 (by decide) ?_
      have e9 : y18 = 1 := by rw [e_y18, if_neg c_2, if_pos c_10]
      rw [e9] at J_18
      exact J_18
    · refine lv_iconst (v := 0) hx hb dX3_asks_13 (by decide) ?_
      refine lv_goto (tgt := 18) hx hb dX3_asks_14 (by decide) ?_
      have e9 : y18 = 0 := by rw [e_y18, if_neg c_2, if_neg c_10]
      rw [e9] at J_18
      exact J_18
set_option maxHeartbeats 4000000 in
set_option maxRecDepth 100000 in
theorem c_X3_start (l : Launch) (dC : Nat → ClassId) (dI : Nat → Nat → Nat) (cI : ClassId) (cZ : ClassId) (md : Nat → Nat) (yth : Int32) (ybd : Int32) (yro : Int32) (yrow : Nat → Int32) (ymk : Nat → Int32) (yrm : Int32) (yst : Nat → Int32) (ypc : Int32) (ybu : Nat → Int32) (ybn : Int32) (ymg : Int32) (ysp : Int32) (yjn : Int32) (ymd : Nat → Int32) (ybg : Nat → Int32) (ymm : Int32) (yup : Int64) (yun : Int64) (F : Nat) (p1 : Int32) (sz : Nat) (r : Int32) (u_yth : Int32) (hm : X3_start F yth yst ypc p1 = some (r, u_yth)) : Met l yX3_start wsX3_start ({ frames := 1, cells := 0, slots := 0, locals := 21 }) (va_Pc [.ref (md 0), .int p1] (zW (dC, dI) (wM cI cZ md yth ybd yro yrow ymk yrm yst ypc ybu ybn ymg ysp yjn ymd ybg ymm yup yun) [(cI, .int), (cZ, .boolean)] sz)) (zQi (dC, dI) (wM cI cZ md u_yth ybd yro yrow ymk yrm yst ypc ybu ybn ymg ysp yjn ymd ybg ymm yup yun) [(cI, .int), (cZ, .boolean)] (va_A (wM cI cZ md yth ybd yro yrow ymk yrm yst ypc ybu ybn ymg ysp yjn ymd ybg ymm yup yun) sz) r) 0 0 (va_A (wM cI cZ md yth ybd yro yrow ymk yrm yst ypc ybu ybn ymg ysp yjn ymd ybg ymm yup yun) sz) := by
  refine Met.ofW (cc := cX3_start) (maxL := 2) (ret := (some .int)) (by decide) rfl ?_
  intro p e s m args below meth c s₁ B hml hv
  obtain ⟨rfl, hsz, hP, hK, hD0⟩ := hv
  have hx := B.exec
  have hb := B.bytes
  have hr := B.returns
  have hts := atoms_spec (ws := wsX3_start) B.pre
  have hown : s.vm.findClass RX3 = some m.cls := findClass_of_methodNamed B.named
  have hlocks := B.notSynchronized
  subst hsz
  have hD := hD0.self (sz := s.heap.size)
  generalize hAe : va_A (wM cI cZ md yth ybd yro yrow ymk yrm yst ypc ybu ybn ymg ysp yjn ymd ybg ymm yup yun) s.heap.size = A at hD ⊢
  have hA : ∀ q : Nat, s.heap.size ≤ q → A q := fun q h => by rw [← hAe]; exact Or.inr h
  have hS : va_S A s.heap s.heap [] := va_S.rf
  generalize eL : ([] : List Loc) = locs at hS ⊢
  obtain ⟨H, eH⟩ : ∃ z : Heap, z = s.heap := ⟨_, rfl⟩
  have hP : va_P (dC, dI) vwCl (wM cI cZ md yth ybd yro yrow ymk yrm yst ypc ybu ybn ymg ysp yjn ymd ybg ymm yup yun) H := by rw [eH]; exact hP
  have hS : va_S A s.heap H locs := by rw [eH]; exact hS
  refine z_heap eH ?_
  have hl := lv_entry ([.ref (md 0), .int p1]) (n := 2) (Nat.le_of_ble_eq_true rfl)
  rw [lg_entry_eq]
  generalize (lg_sl ([.ref (md 0), .int p1]) ++ List.replicate (2 - (lg_sl ([.ref (md 0), .int p1])).length) Slot.unset).toArray = ls at hl ⊢
  have hl : lv_has ls 2 [(0, .ref (md 0)), (1, .int p1)] := hl
  have zw0 := hts (.fieldLink RX3 24 "LearnedLedgeModel" "start" "[I") (by decide +kernel)
  have ziX3 : ∀ w ∈ u_ws RX3 TX3 18, w ∈ wsX3_start := by decide +kernel
  refine lv_aload_n hx hb dX3_start_0 rfl (lv_at hl 0 rfl) ?_
  refine lv_iload_n hx hb dX3_start_1 rfl (lv_at hl 1 rfl) ?_
  obtain ⟨⟨r2, yth2⟩, h_2, hm⟩ := ob hm
  refine z_callWi (wc := (wM cI cZ md yth ybd yro yrow ymk yrm yst ypc ybu ybn ymg ysp yjn ymd ybg ymm yup yun)) (w1 := (wM cI cZ md yth2 ybd yro yrow ymk yrm yst ypc ybu ybn ymg ysp yjn ymd ybg ymm yup yun)) (ws := (wM cI cZ md yth ybd yro yrow ymk yrm yst ypc ybu ybn ymg ysp yjn ymd ybg ymm yup yun)) (ws' := (wM cI cZ md yth2 ybd yro yrow ymk yrm yst ypc ybu ybn ymg ysp yjn ymd ybg ymm yup yun)) [0, 1, 2, 3, 4, 5, 6] [] 7 (As := [.int p1]) (rest := []) (ci := 3) (q := (RX3, TX3, 18)) ⟨hx, hb, hml, hown, hts⟩ (c_X3_asks l dC dI cI cZ md yth ybd yro yrow ymk yrm yst ypc ybu ybn ymg ysp yjn ymd ybg ymm yup yun F p1 H.size r2 yth2 h_2) (cwV 1 hts gX3_start_X3_asks rfl rfl rfl kv_X3_asks ⟨Nat.le_of_ble_eq_true rfl, Nat.le_of_ble_eq_true rfl⟩) hK hP hD hS hA hP hD rfl rfl (by decide) rfl rfl (by decide) rfl rfl rfl rfl rfl hl.1 rfl (Nat.le_of_ble_eq_true rfl) dX3_start_2 ⟨Nat.zero_le _, Nat.zero_le _⟩ (fun H locs hP hD hS => ?_)
  refine lv_if_eq (tgt := 17) hx hb dX3_start_5 (by decide) (fun c_5 => ?_) (fun c_5 => ?_)
  · have hm := it_t hm c_5
    refine lv_iconst (v := 0) hx hb dX3_start_17 (by decide) ?_
    cases o2 hm
    exact W.iret hx hb hr (fun t ht hW => ⟨⟨_, (), rfl, rfl, by rw [ht]; exact hP, va_K.moved hW.alike hK, hD⟩, hS.F ht⟩) hS.2.2 dX3_start_18
  · have hm := it_f hm c_5
    refine lv_aload_n hx hb dX3_start_8 rfl (lv_at hl 0 rfl) ?_
    refine va_get (D := (dC, dI)) (ci := 3) (v := .ref (md 3)) (C := RX3) (T := TX3) (N := 18) hx hb hts ziX3 hown hK hP 0 rfl rfl 6 (by decide) zw0 (fun _ h9 => h9) rfl dX3_start_9 ?_
    refine lv_iload_n hx hb dX3_start_12 rfl (lv_at hl 1 rfl) ?_
    obtain ⟨c_13, hm⟩ := ck hm
    refine va_iald hx hb hK hP 3 0 rfl rfl c_13 dX3_start_13 ?_
    refine lv_goto (tgt := 18) hx hb dX3_start_14 (by decide) ?_
    cases o2 hm
    exact W.iret hx hb hr (fun t ht hW => ⟨⟨_, (), rfl, rfl, by rw [ht]; exact hP, va_K.moved hW.alike hK, hD⟩, hS.F ht⟩) hS.2.2 dX3_start_18
set_option maxHeartbeats 4000000 in
set_option maxRecDepth 100000 in
theorem c_X3_firstKey (l : Launch) (dC : Nat → ClassId) (dI : Nat → Nat → Nat) (cI : ClassId) (cZ : ClassId) (md : Nat → Nat) (yth : Int32) (ybd : Int32) (yro : Int32) (yrow : Nat → Int32) (ymk : Nat → Int32) (yrm : Int32) (yst : Nat → Int32) (ypc : Int32) (ybu : Nat → Int32) (ybn : Int32) (ymg : Int32) (ysp : Int32) (yjn : Int32) (ymd : Nat → Int32) (ybg : Nat → Int32) (ymm : Int32) (yup : Int64) (yun : Int64) (F : Nat) (p1 : Int32) (sz : Nat) (r : Int32) (u_yth : Int32) (hm : X3_firstKey F yth yrow yst ypc p1 = some (r, u_yth)) : Met l yX3_firstKey wsX3_firstKey ({ frames := 1, cells := 0, slots := 0, locals := 21 }) (va_Pc [.ref (md 0), .int p1] (zW (dC, dI) (wM cI cZ md yth ybd yro yrow ymk yrm yst ypc ybu ybn ymg ysp yjn ymd ybg ymm yup yun) [(cI, .int), (cZ, .boolean)] sz)) (zQi (dC, dI) (wM cI cZ md u_yth ybd yro yrow ymk yrm yst ypc ybu ybn ymg ysp yjn ymd ybg ymm yup yun) [(cI, .int), (cZ, .boolean)] (va_A (wM cI cZ md yth ybd yro yrow ymk yrm yst ypc ybu ybn ymg ysp yjn ymd ybg ymm yup yun) sz) r) 0 0 (va_A (wM cI cZ md yth ybd yro yrow ymk yrm yst ypc ybu ybn ymg ysp yjn ymd ybg ymm yup yun) sz) := by
  refine Met.ofW (cc := cX3_firstKey) (maxL := 2) (ret := (some .int)) (by decide) rfl ?_
  intro p e s m args below meth c s₁ B hml hv
  obtain ⟨rfl, hsz, hP, hK, hD0⟩ := hv
  have hx := B.exec
  have hb := B.bytes
  have hr := B.returns
  have hts := atoms_spec (ws := wsX3_firstKey) B.pre
  have hown : s.vm.findClass RX3 = some m.cls := findClass_of_methodNamed B.named
  have hlocks := B.notSynchronized
  subst hsz
  have hD := hD0.self (sz := s.heap.size)
  generalize hAe : va_A (wM cI cZ md yth ybd yro yrow ymk yrm yst ypc ybu ybn ymg ysp yjn ymd ybg ymm yup yun) s.heap.size = A at hD ⊢
  have hA : ∀ q : Nat, s.heap.size ≤ q → A q := fun q h => by rw [← hAe]; exact Or.inr h
  have hS : va_S A s.heap s.heap [] := va_S.rf
  generalize eL : ([] : List Loc) = locs at hS ⊢
  obtain ⟨H, eH⟩ : ∃ z : Heap, z = s.heap := ⟨_, rfl⟩
  have hP : va_P (dC, dI) vwCl (wM cI cZ md yth ybd yro yrow ymk yrm yst ypc ybu ybn ymg ysp yjn ymd ybg ymm yup yun) H := by rw [eH]; exact hP
  have hS : va_S A s.heap H locs := by rw [eH]; exact hS
  refine z_heap eH ?_
  have hl := lv_entry ([.ref (md 0), .int p1]) (n := 2) (Nat.le_of_ble_eq_true rfl)
  rw [lg_entry_eq]
  generalize (lg_sl ([.ref (md 0), .int p1]) ++ List.replicate (2 - (lg_sl ([.ref (md 0), .int p1])).length) Slot.unset).toArray = ls at hl ⊢
  have hl : lv_has ls 2 [(0, .ref (md 0)), (1, .int p1)] := hl
  have zw0 := hts (.fieldLink RX3 16 "LearnedLedgeModel" "row" "[I") (by decide +kernel)
  have zw1 := hts (.fieldLink RX3 24 "LearnedLedgeModel" "start" "[I") (by decide +kernel)
  have ziX3 : ∀ w ∈ u_ws RX3 TX3 18, w ∈ wsX3_firstKey := by decide +kernel
  refine lv_aload_n hx hb dX3_firstKey_0 rfl (lv_at hl 0 rfl) ?_
  refine lv_iload_n hx hb dX3_firstKey_1 rfl (lv_at hl 1 rfl) ?_
  obtain ⟨⟨r2, yth2⟩, h_2, hm⟩ := ob hm
  refine z_callWi (wc := (wM cI cZ md yth ybd yro yrow ymk yrm yst ypc ybu ybn ymg ysp yjn ymd ybg ymm yup yun)) (w1 := (wM cI cZ md yth2 ybd yro yrow ymk yrm yst ypc ybu ybn ymg ysp yjn ymd ybg ymm yup yun)) (ws := (wM cI cZ md yth ybd yro yrow ymk yrm yst ypc ybu ybn ymg ysp yjn ymd ybg ymm yup yun)) (ws' := (wM cI cZ md yth2 ybd yro yrow ymk yrm yst ypc ybu ybn ymg ysp yjn ymd ybg ymm yup yun)) [0, 1, 2, 3, 4, 5, 6] [] 7 (As := [.int p1]) (rest := []) (ci := 3) (q := (RX3, TX3, 18)) ⟨hx, hb, hml, hown, hts⟩ (c_X3_asks l dC dI cI cZ md yth ybd yro yrow ymk yrm yst ypc ybu ybn ymg ysp yjn ymd ybg ymm yup yun F p1 H.size r2 yth2 h_2) (cwV 1 hts gX3_firstKey_X3_asks rfl rfl rfl kv_X3_asks ⟨Nat.le_of_ble_eq_true rfl, Nat.le_of_ble_eq_true rfl⟩) hK hP hD hS hA hP hD rfl rfl (by decide) rfl rfl (by decide) rfl rfl rfl rfl rfl hl.1 rfl (Nat.le_of_ble_eq_true rfl) dX3_firstKey_2 ⟨Nat.zero_le _, Nat.zero_le _⟩ (fun H locs hP hD hS => ?_)
  refine lv_if_eq (tgt := 22) hx hb dX3_firstKey_5 (by decide) (fun c_5 => ?_) (fun c_5 => ?_)
  · have hm := it_t hm c_5
    refine lv_iconst (v := 0) hx hb dX3_firstKey_22 (by decide) ?_
    cases o2 hm
    exact W.iret hx hb hr (fun t ht hW => ⟨⟨_, (), rfl, rfl, by rw [ht]; exact hP, va_K.moved hW.alike hK, hD⟩, hS.F ht⟩) hS.2.2 dX3_firstKey_23
  · have hm := it_f hm c_5
    refine lv_aload_n hx hb dX3_firstKey_8 rfl (lv_at hl 0 rfl) ?_
    refine va_get (D := (dC, dI)) (ci := 3) (v := .ref (md 1)) (C := RX3) (T := TX3) (N := 18) hx hb hts ziX3 hown hK hP 0 rfl rfl 3 (by decide) zw0 (fun _ h9 => h9) rfl dX3_firstKey_9 ?_
    refine lv_aload_n hx hb dX3_firstKey_12 rfl (lv_at hl 0 rfl) ?_
    refine va_get (D := (dC, dI)) (ci := 3) (v := .ref (md 3)) (C := RX3) (T := TX3) (N := 18) hx hb hts ziX3 hown hK hP 0 rfl rfl 6 (by decide) zw1 (fun _ h9 => h9) rfl dX3_firstKey_13 ?_
    refine lv_iload_n hx hb dX3_firstKey_16 rfl (lv_at hl 1 rfl) ?_
    obtain ⟨c_17, hm⟩ := ck hm
    refine va_iald hx hb hK hP 3 0 rfl rfl c_17 dX3_firstKey_17 ?_
    obtain ⟨c_18, hm⟩ := ck hm
    refine va_iald hx hb hK hP 1 0 rfl rfl c_18 dX3_firstKey_18 ?_
    refine lv_goto (tgt := 23) hx hb dX3_firstKey_19 (by decide) ?_
    cases o2 hm
    exact W.iret hx hb hr (fun t ht hW => ⟨⟨_, (), rfl, rfl, by rw [ht]; exact hP, va_K.moved hW.alike hK, hD⟩, hS.F ht⟩) hS.2.2 dX3_firstKey_23
set_option maxHeartbeats 4000000 in
set_option maxRecDepth 100000 in
theorem c_X3_riseOf (l : Launch) (dC : Nat → ClassId) (dI : Nat → Nat → Nat) (cI : ClassId) (cZ : ClassId) (md : Nat → Nat) (yth : Int32) (ybd : Int32) (yro : Int32) (yrow : Nat → Int32) (ymk : Nat → Int32) (yrm : Int32) (yst : Nat → Int32) (ypc : Int32) (ybu : Nat → Int32) (ybn : Int32) (ymg : Int32) (ysp : Int32) (yjn : Int32) (ymd : Nat → Int32) (ybg : Nat → Int32) (ymm : Int32) (yup : Int64) (yun : Int64) (F : Nat) (p1 : Int32) (sz : Nat) (r : Int32) (u_yup : Int64) (u_yun : Int64) (hm : X3_riseOf F ybd yrow yrm yst ypc yup yun p1 = some (r, u_yup, u_yun)) : Met l yX3_riseOf wsX3_riseOf ({ frames := 2, cells := 0, slots := 0, locals := 55 }) (va_Pc [.ref (md 0), .int p1] (zW (dC, dI) (wM cI cZ md yth ybd yro yrow ymk yrm yst ypc ybu ybn ymg ysp yjn ymd ybg ymm yup yun) [(cI, .int), (cZ, .boolean)] sz)) (zQi (dC, dI) (wM cI cZ md yth ybd yro yrow ymk yrm yst ypc ybu ybn ymg ysp yjn ymd ybg ymm u_yup u_yun) [(cI, .int), (cZ, .boolean)] (va_A (wM cI cZ md yth ybd yro yrow ymk yrm yst ypc ybu ybn ymg ysp yjn ymd ybg ymm yup yun) sz) r) 0 0 (va_A (wM cI cZ md yth ybd yro yrow ymk yrm yst ypc ybu ybn ymg ysp yjn ymd ybg ymm yup yun) sz) := by
  refine Met.ofW (cc := cX3_riseOf) (maxL := 2) (ret := (some .int)) (by decide) rfl ?_
  intro p e s m args below meth c s₁ B hml hv
  obtain ⟨rfl, hsz, hP, hK, hD0⟩ := hv
  have hx := B.exec
  have hb := B.bytes
  have hr := B.returns
  have hts := atoms_spec (ws := wsX3_riseOf) B.pre
  have hown : s.vm.findClass RX3 = some m.cls := findClass_of_methodNamed B.named
  have hlocks := B.notSynchronized
  subst hsz
  have hD := hD0.self (sz := s.heap.size)
  generalize hAe : va_A (wM cI cZ md yth ybd yro yrow ymk yrm yst ypc ybu ybn ymg ysp yjn ymd ybg ymm yup yun) s.heap.size = A at hD ⊢
  have hA : ∀ q : Nat, s.heap.size ≤ q → A q := fun q h => by rw [← hAe]; exact Or.inr h
  have hS : va_S A s.heap s.heap [] := va_S.rf
  generalize eL : ([] : List Loc) = locs at hS ⊢
  obtain ⟨H, eH⟩ : ∃ z : Heap, z = s.heap := ⟨_, rfl⟩
  have hP : va_P (dC, dI) vwCl (wM cI cZ md yth ybd yro yrow ymk yrm yst ypc ybu ybn ymg ysp yjn ymd ybg ymm yup yun) H := by rw [eH]; exact hP
  have hS : va_S A s.heap H locs := by rw [eH]; exact hS
  refine z_heap eH ?_
  have hl := lv_entry ([.ref (md 0), .int p1]) (n := 2) (Nat.le_of_ble_eq_true rfl)
  rw [lg_entry_eq]
  generalize (lg_sl ([.ref (md 0), .int p1]) ++ List.replicate (2 - (lg_sl ([.ref (md 0), .int p1])).length) Slot.unset).toArray = ls at hl ⊢
  have hl : lv_has ls 2 [(0, .ref (md 0)), (1, .int p1)] := hl
  have zw0 := hts (.fieldLink RX3 41 "LearnedLedgeModel" "leastUp" "J") (by decide +kernel)
  have ziX3 : ∀ w ∈ u_ws RX3 TX3 18, w ∈ wsX3_riseOf := by decide +kernel
  refine lv_aload_n hx hb dX3_riseOf_0 rfl (lv_at hl 0 rfl) ?_
  refine lv_iload_n hx hb dX3_riseOf_1 rfl (lv_at hl 1 rfl) ?_
  obtain ⟨⟨yup2, yun2⟩, h_2, hm⟩ := ob hm
  refine z_callWv (wc := (wM cI cZ md yth ybd yro yrow ymk yrm yst ypc ybu ybn ymg ysp yjn ymd ybg ymm yup yun)) (w1 := (wM cI cZ md yth ybd yro yrow ymk yrm yst ypc ybu ybn ymg ysp yjn ymd ybg ymm yup2 yun2)) (ws := (wM cI cZ md yth ybd yro yrow ymk yrm yst ypc ybu ybn ymg ysp yjn ymd ybg ymm yup yun)) (ws' := (wM cI cZ md yth ybd yro yrow ymk yrm yst ypc ybu ybn ymg ysp yjn ymd ybg ymm yup2 yun2)) [0, 1, 2, 3, 4, 5, 6] [] 7 (As := [.int p1]) (rest := []) (ci := 3) (q := (RX3, TX3, 18)) ⟨hx, hb, hml, hown, hts⟩ (c_X3_lays l dC dI cI cZ md yth ybd yro yrow ymk yrm yst ypc ybu ybn ymg ysp yjn ymd ybg ymm yup yun F p1 H.size yup2 yun2 h_2) (cwV 1 hts gX3_riseOf_X3_lays rfl rfl rfl kv_X3_lays ⟨Nat.le_of_ble_eq_true rfl, Nat.le_of_ble_eq_true rfl⟩) hK hP hD hS hA hP hD rfl rfl (by decide) rfl rfl (by decide) rfl rfl rfl rfl rfl hl.1 rfl (Nat.le_of_ble_eq_true rfl) dX3_riseOf_2 ⟨Nat.zero_le _, Nat.zero_le _⟩ (fun H locs hP hD hS => ?_)
  refine lv_aload_n hx hb dX3_riseOf_5 rfl (lv_at hl 0 rfl) ?_
  refine va_get (D := (dC, dI)) (ci := 3) (v := .long yup2) (C := RX3) (T := TX3) (N := 18) hx hb hts ziX3 hown hK hP 0 rfl rfl 16 (by decide) zw0 (fun _ h9 => h9) rfl dX3_riseOf_6 ?_
  refine lv_l2i hx hb dX3_riseOf_9 rfl ?_
  cases o2 hm
  exact W.iret hx hb hr (fun t ht hW => ⟨⟨_, (), rfl, rfl, by rw [ht]; exact hP, va_K.moved hW.alike hK, hD⟩, hS.F ht⟩) hS.2.2 dX3_riseOf_10
set_option maxHeartbeats 4000000 in
set_option maxRecDepth 100000 in
theorem c_X3_runOf (l : Launch) (dC : Nat → ClassId) (dI : Nat → Nat → Nat) (cI : ClassId) (cZ : ClassId) (md : Nat → Nat) (yth : Int32) (ybd : Int32) (yro : Int32) (yrow : Nat → Int32) (ymk : Nat → Int32) (yrm : Int32) (yst : Nat → Int32) (ypc : Int32) (ybu : Nat → Int32) (ybn : Int32) (ymg : Int32) (ysp : Int32) (yjn : Int32) (ymd : Nat → Int32) (ybg : Nat → Int32) (ymm : Int32) (yup : Int64) (yun : Int64) (F : Nat) (p1 : Int32) (sz : Nat) (r : Int32) (u_yup : Int64) (u_yun : Int64) (hm : X3_runOf F ybd yrow yrm yst ypc yup yun p1 = some (r, u_yup, u_yun)) : Met l yX3_runOf wsX3_runOf ({ frames := 2, cells := 0, slots := 0, locals := 55 }) (va_Pc [.ref (md 0), .int p1] (zW (dC, dI) (wM cI cZ md yth ybd yro yrow ymk yrm yst ypc ybu ybn ymg ysp yjn ymd ybg ymm yup yun) [(cI, .int), (cZ, .boolean)] sz)) (zQi (dC, dI) (wM cI cZ md yth ybd yro yrow ymk yrm yst ypc ybu ybn ymg ysp yjn ymd ybg ymm u_yup u_yun) [(cI, .int), (cZ, .boolean)] (va_A (wM cI cZ md yth ybd yro yrow ymk yrm yst ypc ybu ybn ymg ysp yjn ymd ybg ymm yup yun) sz) r) 0 0 (va_A (wM cI cZ md yth ybd yro yrow ymk yrm yst ypc ybu ybn ymg ysp yjn ymd ybg ymm yup yun) sz) := by
  refine Met.ofW (cc := cX3_runOf) (maxL := 2) (ret := (some .int)) (by decide) rfl ?_
  intro p e s m args below meth c s₁ B hml hv
  obtain ⟨rfl, hsz, hP, hK, hD0⟩ := hv
  have hx := B.exec
  have hb := B.bytes
  have hr := B.returns
  have hts := atoms_spec (ws := wsX3_runOf) B.pre
  have hown : s.vm.findClass RX3 = some m.cls := findClass_of_methodNamed B.named
  have hlocks := B.notSynchronized
  subst hsz
  have hD := hD0.self (sz := s.heap.size)
  generalize hAe : va_A (wM cI cZ md yth ybd yro yrow ymk yrm yst ypc ybu ybn ymg ysp yjn ymd ybg ymm yup yun) s.heap.size = A at hD ⊢
  have hA : ∀ q : Nat, s.heap.size ≤ q → A q := fun q h => by rw [← hAe]; exact Or.inr h
  have hS : va_S A s.heap s.heap [] := va_S.rf
  generalize eL : ([] : List Loc) = locs at hS ⊢
  obtain ⟨H, eH⟩ : ∃ z : Heap, z = s.heap := ⟨_, rfl⟩
  have hP : va_P (dC, dI) vwCl (wM cI cZ md yth ybd yro yrow ymk yrm yst ypc ybu ybn ymg ysp yjn ymd ybg ymm yup yun) H := by rw [eH]; exact hP
  have hS : va_S A s.heap H locs := by rw [eH]; exact hS
  refine z_heap eH ?_
  have hl := lv_entry ([.ref (md 0), .int p1]) (n := 2) (Nat.le_of_ble_eq_true rfl)
  rw [lg_entry_eq]
  generalize (lg_sl ([.ref (md 0), .int p1]) ++ List.replicate (2 - (lg_sl ([.ref (md 0), .int p1])).length) Slot.unset).toArray = ls at hl ⊢
  have hl : lv_has ls 2 [(0, .ref (md 0)), (1, .int p1)] := hl
  have zw0 := hts (.fieldLink RX3 45 "LearnedLedgeModel" "leastUnder" "J") (by decide +kernel)
  have ziX3 : ∀ w ∈ u_ws RX3 TX3 18, w ∈ wsX3_runOf := by decide +kernel
  refine lv_aload_n hx hb dX3_runOf_0 rfl (lv_at hl 0 rfl) ?_
  refine lv_iload_n hx hb dX3_runOf_1 rfl (lv_at hl 1 rfl) ?_
  obtain ⟨⟨yup2, yun2⟩, h_2, hm⟩ := ob hm
  refine z_callWv (wc := (wM cI cZ md yth ybd yro yrow ymk yrm yst ypc ybu ybn ymg ysp yjn ymd ybg ymm yup yun)) (w1 := (wM cI cZ md yth ybd yro yrow ymk yrm yst ypc ybu ybn ymg ysp yjn ymd ybg ymm yup2 yun2)) (ws := (wM cI cZ md yth ybd yro yrow ymk yrm yst ypc ybu ybn ymg ysp yjn ymd ybg ymm yup yun)) (ws' := (wM cI cZ md yth ybd yro yrow ymk yrm yst ypc ybu ybn ymg ysp yjn ymd ybg ymm yup2 yun2)) [0, 1, 2, 3, 4, 5, 6] [] 7 (As := [.int p1]) (rest := []) (ci := 3) (q := (RX3, TX3, 18)) ⟨hx, hb, hml, hown, hts⟩ (c_X3_lays l dC dI cI cZ md yth ybd yro yrow ymk yrm yst ypc ybu ybn ymg ysp yjn ymd ybg ymm yup yun F p1 H.size yup2 yun2 h_2) (cwV 1 hts gX3_runOf_X3_lays rfl rfl rfl kv_X3_lays ⟨Nat.le_of_ble_eq_true rfl, Nat.le_of_ble_eq_true rfl⟩) hK hP hD hS hA hP hD rfl rfl (by decide) rfl rfl (by decide) rfl rfl rfl rfl rfl hl.1 rfl (Nat.le_of_ble_eq_true rfl) dX3_runOf_2 ⟨Nat.zero_le _, Nat.zero_le _⟩ (fun H locs hP hD hS => ?_)
  refine lv_aload_n hx hb dX3_runOf_5 rfl (lv_at hl 0 rfl) ?_
  refine va_get (D := (dC, dI)) (ci := 3) (v := .long yun2) (C := RX3) (T := TX3) (N := 18) hx hb hts ziX3 hown hK hP 0 rfl rfl 17 (by decide) zw0 (fun _ h9 => h9) rfl dX3_runOf_6 ?_
  refine lv_l2i hx hb dX3_runOf_9 rfl ?_
  cases o2 hm
  exact W.iret hx hb hr (fun t ht hW => ⟨⟨_, (), rfl, rfl, by rw [ht]; exact hP, va_K.moved hW.alike hK, hD⟩, hS.F ht⟩) hS.2.2 dX3_runOf_10
set_option maxHeartbeats 4000000 in
set_option maxRecDepth 100000 in
theorem c_X3_rise (l : Launch) (dC : Nat → ClassId) (dI : Nat → Nat → Nat) (cI : ClassId) (cZ : ClassId) (md : Nat → Nat) (yth : Int32) (ybd : Int32) (yro : Int32) (yrow : Nat → Int32) (ymk : Nat → Int32) (yrm : Int32) (yst : Nat → Int32) (ypc : Int32) (ybu : Nat → Int32) (ybn : Int32) (ymg : Int32) (ysp : Int32) (yjn : Int32) (ymd : Nat → Int32) (ybg : Nat → Int32) (ymm : Int32) (yup : Int64) (yun : Int64) (F : Nat) (p1 : Int32) (sz : Nat) (r : Int32) (u_yth : Int32) (u_yup : Int64) (u_yun : Int64) (hm : X3_rise F yth ybd yrow yrm yst ypc yup yun p1 = some (r, u_yth, u_yup, u_yun)) : Met l yX3_rise wsX3_rise ({ frames := 3, cells := 0, slots := 0, locals := 76 }) (va_Pc [.ref (md 0), .int p1] (zW (dC, dI) (wM cI cZ md yth ybd yro yrow ymk yrm yst ypc ybu ybn ymg ysp yjn ymd ybg ymm yup yun) [(cI, .int), (cZ, .boolean)] sz)) (zQi (dC, dI) (wM cI cZ md u_yth ybd yro yrow ymk yrm yst ypc ybu ybn ymg ysp yjn ymd ybg ymm u_yup u_yun) [(cI, .int), (cZ, .boolean)] (va_A (wM cI cZ md yth ybd yro yrow ymk yrm yst ypc ybu ybn ymg ysp yjn ymd ybg ymm yup yun) sz) r) 0 0 (va_A (wM cI cZ md yth ybd yro yrow ymk yrm yst ypc ybu ybn ymg ysp yjn ymd ybg ymm yup yun) sz) := by
  refine Met.ofW (cc := cX3_rise) (maxL := 2) (ret := (some .int)) (by decide) rfl ?_
  intro p e s m args below meth c s₁ B hml hv
  obtain ⟨rfl, hsz, hP, hK, hD0⟩ := hv
  have hx := B.exec
  have hb := B.bytes
  have hr := B.returns
  have hts := atoms_spec (ws := wsX3_rise) B.pre
  have hown : s.vm.findClass RX3 = some m.cls := findClass_of_methodNamed B.named
  have hlocks := B.notSynchronized
  subst hsz
  have hD := hD0.self (sz := s.heap.size)
  generalize hAe : va_A (wM cI cZ md yth ybd yro yrow ymk yrm yst ypc ybu ybn ymg ysp yjn ymd ybg ymm yup yun) s.heap.size = A at hD ⊢
  have hA : ∀ q : Nat, s.heap.size ≤ q → A q := fun q h => by rw [← hAe]; exact Or.inr h
  have hS : va_S A s.heap s.heap [] := va_S.rf
  generalize eL : ([] : List Loc) = locs at hS ⊢
  obtain ⟨H, eH⟩ : ∃ z : Heap, z = s.heap := ⟨_, rfl⟩
  have hP : va_P (dC, dI) vwCl (wM cI cZ md yth ybd yro yrow ymk yrm yst ypc ybu ybn ymg ysp yjn ymd ybg ymm yup yun) H := by rw [eH]; exact hP
  have hS : va_S A s.heap H locs := by rw [eH]; exact hS
  refine z_heap eH ?_
  have hl := lv_entry ([.ref (md 0), .int p1]) (n := 2) (Nat.le_of_ble_eq_true rfl)
  rw [lg_entry_eq]
  generalize (lg_sl ([.ref (md 0), .int p1]) ++ List.replicate (2 - (lg_sl ([.ref (md 0), .int p1])).length) Slot.unset).toArray = ls at hl ⊢
  have hl : lv_has ls 2 [(0, .ref (md 0)), (1, .int p1)] := hl
  refine lv_aload_n hx hb dX3_rise_0 rfl (lv_at hl 0 rfl) ?_
  refine lv_iload_n hx hb dX3_rise_1 rfl (lv_at hl 1 rfl) ?_
  obtain ⟨⟨r2, yth2⟩, h_2, hm⟩ := ob hm
  refine z_callWi (wc := (wM cI cZ md yth ybd yro yrow ymk yrm yst ypc ybu ybn ymg ysp yjn ymd ybg ymm yup yun)) (w1 := (wM cI cZ md yth2 ybd yro yrow ymk yrm yst ypc ybu ybn ymg ysp yjn ymd ybg ymm yup yun)) (ws := (wM cI cZ md yth ybd yro yrow ymk yrm yst ypc ybu ybn ymg ysp yjn ymd ybg ymm yup yun)) (ws' := (wM cI cZ md yth2 ybd yro yrow ymk yrm yst ypc ybu ybn ymg ysp yjn ymd ybg ymm yup yun)) [0, 1, 2, 3, 4, 5, 6] [] 7 (As := [.int p1]) (rest := []) (ci := 3) (q := (RX3, TX3, 18)) ⟨hx, hb, hml, hown, hts⟩ (c_X3_asks l dC dI cI cZ md yth ybd yro yrow ymk yrm yst ypc ybu ybn ymg ysp yjn ymd ybg ymm yup yun F p1 H.size r2 yth2 h_2) (cwV 1 hts gX3_rise_X3_asks rfl rfl rfl kv_X3_asks ⟨Nat.le_of_ble_eq_true rfl, Nat.le_of_ble_eq_true rfl⟩) hK hP hD hS hA hP hD rfl rfl (by decide) rfl rfl (by decide) rfl rfl rfl rfl rfl hl.1 rfl (Nat.le_of_ble_eq_true rfl) dX3_rise_2 ⟨Nat.zero_le _, Nat.zero_le _⟩ (fun H locs hP hD hS => ?_)
  refine lv_if_eq (tgt := 16) hx hb dX3_rise_5 (by decide) (fun c_5 => ?_) (fun c_5 => ?_)
  · have hm := it_t hm c_5
    refine lv_iconst (v := 0) hx hb dX3_rise_16 (by decide) ?_
    cases o2 hm
    exact W.iret hx hb hr (fun t ht hW => ⟨⟨_, (), rfl, rfl, by rw [ht]; exact hP, va_K.moved hW.alike hK, hD⟩, hS.F ht⟩) hS.2.2 dX3_rise_17
  · have hm := it_f hm c_5
    refine lv_aload_n hx hb dX3_rise_8 rfl (lv_at hl 0 rfl) ?_
    refine lv_iload_n hx hb dX3_rise_9 rfl (lv_at hl 1 rfl) ?_
    obtain ⟨⟨r10, yup10, yun10⟩, h_10, hm⟩ := ob hm
    refine z_callWi (wc := (wM cI cZ md yth2 ybd yro yrow ymk yrm yst ypc ybu ybn ymg ysp yjn ymd ybg ymm yup yun)) (w1 := (wM cI cZ md yth2 ybd yro yrow ymk yrm yst ypc ybu ybn ymg ysp yjn ymd ybg ymm yup10 yun10)) (ws := (wM cI cZ md yth2 ybd yro yrow ymk yrm yst ypc ybu ybn ymg ysp yjn ymd ybg ymm yup yun)) (ws' := (wM cI cZ md yth2 ybd yro yrow ymk yrm yst ypc ybu ybn ymg ysp yjn ymd ybg ymm yup10 yun10)) [0, 1, 2, 3, 4, 5, 6] [] 7 (As := [.int p1]) (rest := []) (ci := 3) (q := (RX3, TX3, 18)) ⟨hx, hb, hml, hown, hts⟩ (c_X3_riseOf l dC dI cI cZ md yth2 ybd yro yrow ymk yrm yst ypc ybu ybn ymg ysp yjn ymd ybg ymm yup yun F p1 H.size r10 yup10 yun10 h_10) (cwV 1 hts gX3_rise_X3_riseOf rfl rfl rfl kv_X3_riseOf ⟨Nat.le_of_ble_eq_true rfl, Nat.le_of_ble_eq_true rfl⟩) hK hP hD hS hA hP hD rfl rfl (by decide) rfl rfl (by decide) rfl rfl rfl rfl rfl hl.1 rfl (Nat.le_of_ble_eq_true rfl) dX3_rise_10 ⟨Nat.zero_le _, Nat.zero_le _⟩ (fun H locs hP hD hS => ?_)
    refine lv_goto (tgt := 17) hx hb dX3_rise_13 (by decide) ?_
    cases o2 hm
    exact W.iret hx hb hr (fun t ht hW => ⟨⟨_, (), rfl, rfl, by rw [ht]; exact hP, va_K.moved hW.alike hK, hD⟩, hS.F ht⟩) hS.2.2 dX3_rise_17
set_option maxHeartbeats 4000000 in
set_option maxRecDepth 100000 in
theorem c_X3_run (l : Launch) (dC : Nat → ClassId) (dI : Nat → Nat → Nat) (cI : ClassId) (cZ : ClassId) (md : Nat → Nat) (yth : Int32) (ybd : Int32) (yro : Int32) (yrow : Nat → Int32) (ymk : Nat → Int32) (yrm : Int32) (yst : Nat → Int32) (ypc : Int32) (ybu : Nat → Int32) (ybn : Int32) (ymg : Int32) (ysp : Int32) (yjn : Int32) (ymd : Nat → Int32) (ybg : Nat → Int32) (ymm : Int32) (yup : Int64) (yun : Int64) (F : Nat) (p1 : Int32) (sz : Nat) (r : Int32) (u_yth : Int32) (u_yup : Int64) (u_yun : Int64) (hm : X3_run F yth ybd yrow yrm yst ypc yup yun p1 = some (r, u_yth, u_yup, u_yun)) : Met l yX3_run wsX3_run ({ frames := 3, cells := 0, slots := 0, locals := 76 }) (va_Pc [.ref (md 0), .int p1] (zW (dC, dI) (wM cI cZ md yth ybd yro yrow ymk yrm yst ypc ybu ybn ymg ysp yjn ymd ybg ymm yup yun) [(cI, .int), (cZ, .boolean)] sz)) (zQi (dC, dI) (wM cI cZ md u_yth ybd yro yrow ymk yrm yst ypc ybu ybn ymg ysp yjn ymd ybg ymm u_yup u_yun) [(cI, .int), (cZ, .boolean)] (va_A (wM cI cZ md yth ybd yro yrow ymk yrm yst ypc ybu ybn ymg ysp yjn ymd ybg ymm yup yun) sz) r) 0 0 (va_A (wM cI cZ md yth ybd yro yrow ymk yrm yst ypc ybu ybn ymg ysp yjn ymd ybg ymm yup yun) sz) := by
  refine Met.ofW (cc := cX3_run) (maxL := 2) (ret := (some .int)) (by decide) rfl ?_
  intro p e s m args below meth c s₁ B hml hv
  obtain ⟨rfl, hsz, hP, hK, hD0⟩ := hv
  have hx := B.exec
  have hb := B.bytes
  have hr := B.returns
  have hts := atoms_spec (ws := wsX3_run) B.pre
  have hown : s.vm.findClass RX3 = some m.cls := findClass_of_methodNamed B.named
  have hlocks := B.notSynchronized
  subst hsz
  have hD := hD0.self (sz := s.heap.size)
  generalize hAe : va_A (wM cI cZ md yth ybd yro yrow ymk yrm yst ypc ybu ybn ymg ysp yjn ymd ybg ymm yup yun) s.heap.size = A at hD ⊢
  have hA : ∀ q : Nat, s.heap.size ≤ q → A q := fun q h => by rw [← hAe]; exact Or.inr h
  have hS : va_S A s.heap s.heap [] := va_S.rf
  generalize eL : ([] : List Loc) = locs at hS ⊢
  obtain ⟨H, eH⟩ : ∃ z : Heap, z = s.heap := ⟨_, rfl⟩
  have hP : va_P (dC, dI) vwCl (wM cI cZ md yth ybd yro yrow ymk yrm yst ypc ybu ybn ymg ysp yjn ymd ybg ymm yup yun) H := by rw [eH]; exact hP
  have hS : va_S A s.heap H locs := by rw [eH]; exact hS
  refine z_heap eH ?_
  have hl := lv_entry ([.ref (md 0), .int p1]) (n := 2) (Nat.le_of_ble_eq_true rfl)
  rw [lg_entry_eq]
  generalize (lg_sl ([.ref (md 0), .int p1]) ++ List.replicate (2 - (lg_sl ([.ref (md 0), .int p1])).length) Slot.unset).toArray = ls at hl ⊢
  have hl : lv_has ls 2 [(0, .ref (md 0)), (1, .int p1)] := hl
  refine lv_aload_n hx hb dX3_run_0 rfl (lv_at hl 0 rfl) ?_
  refine lv_iload_n hx hb dX3_run_1 rfl (lv_at hl 1 rfl) ?_
  obtain ⟨⟨r2, yth2⟩, h_2, hm⟩ := ob hm
  refine z_callWi (wc := (wM cI cZ md yth ybd yro yrow ymk yrm yst ypc ybu ybn ymg ysp yjn ymd ybg ymm yup yun)) (w1 := (wM cI cZ md yth2 ybd yro yrow ymk yrm yst ypc ybu ybn ymg ysp yjn ymd ybg ymm yup yun)) (ws := (wM cI cZ md yth ybd yro yrow ymk yrm yst ypc ybu ybn ymg ysp yjn ymd ybg ymm yup yun)) (ws' := (wM cI cZ md yth2 ybd yro yrow ymk yrm yst ypc ybu ybn ymg ysp yjn ymd ybg ymm yup yun)) [0, 1, 2, 3, 4, 5, 6] [] 7 (As := [.int p1]) (rest := []) (ci := 3) (q := (RX3, TX3, 18)) ⟨hx, hb, hml, hown, hts⟩ (c_X3_asks l dC dI cI cZ md yth ybd yro yrow ymk yrm yst ypc ybu ybn ymg ysp yjn ymd ybg ymm yup yun F p1 H.size r2 yth2 h_2) (cwV 1 hts gX3_run_X3_asks rfl rfl rfl kv_X3_asks ⟨Nat.le_of_ble_eq_true rfl, Nat.le_of_ble_eq_true rfl⟩) hK hP hD hS hA hP hD rfl rfl (by decide) rfl rfl (by decide) rfl rfl rfl rfl rfl hl.1 rfl (Nat.le_of_ble_eq_true rfl) dX3_run_2 ⟨Nat.zero_le _, Nat.zero_le _⟩ (fun H locs hP hD hS => ?_)
  refine lv_if_eq (tgt := 16) hx hb dX3_run_5 (by decide) (fun c_5 => ?_) (fun c_5 => ?_)
  · have hm := it_t hm c_5
    refine lv_iconst (v := 0) hx hb dX3_run_16 (by decide) ?_
    cases o2 hm
    exact W.iret hx hb hr (fun t ht hW => ⟨⟨_, (), rfl, rfl, by rw [ht]; exact hP, va_K.moved hW.alike hK, hD⟩, hS.F ht⟩) hS.2.2 dX3_run_17
  · have hm := it_f hm c_5
    refine lv_aload_n hx hb dX3_run_8 rfl (lv_at hl 0 rfl) ?_
    refine lv_iload_n hx hb dX3_run_9 rfl (lv_at hl 1 rfl) ?_
    obtain ⟨⟨r10, yup10, yun10⟩, h_10, hm⟩ := ob hm
    refine z_callWi (wc := (wM cI cZ md yth2 ybd yro yrow ymk yrm yst ypc ybu ybn ymg ysp yjn ymd ybg ymm yup yun)) (w1 := (wM cI cZ md yth2 ybd yro yrow ymk yrm yst ypc ybu ybn ymg ysp yjn ymd ybg ymm yup10 yun10)) (ws := (wM cI cZ md yth2 ybd yro yrow ymk yrm yst ypc ybu ybn ymg ysp yjn ymd ybg ymm yup yun)) (ws' := (wM cI cZ md yth2 ybd yro yrow ymk yrm yst ypc ybu ybn ymg ysp yjn ymd ybg ymm yup10 yun10)) [0, 1, 2, 3, 4, 5, 6] [] 7 (As := [.int p1]) (rest := []) (ci := 3) (q := (RX3, TX3, 18)) ⟨hx, hb, hml, hown, hts⟩ (c_X3_runOf l dC dI cI cZ md yth2 ybd yro yrow ymk yrm yst ypc ybu ybn ymg ysp yjn ymd ybg ymm yup yun F p1 H.size r10 yup10 yun10 h_10) (cwV 1 hts gX3_run_X3_runOf rfl rfl rfl kv_X3_runOf ⟨Nat.le_of_ble_eq_true rfl, Nat.le_of_ble_eq_true rfl⟩) hK hP hD hS hA hP hD rfl rfl (by decide) rfl rfl (by decide) rfl rfl rfl rfl rfl hl.1 rfl (Nat.le_of_ble_eq_true rfl) dX3_run_10 ⟨Nat.zero_le _, Nat.zero_le _⟩ (fun H locs hP hD hS => ?_)
    refine lv_goto (tgt := 17) hx hb dX3_run_13 (by decide) ?_
    cases o2 hm
    exact W.iret hx hb hr (fun t ht hW => ⟨⟨_, (), rfl, rfl, by rw [ht]; exact hP, va_K.moved hW.alike hK, hD⟩, hS.F ht⟩) hS.2.2 dX3_run_17
