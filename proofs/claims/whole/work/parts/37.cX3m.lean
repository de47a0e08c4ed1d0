set_option maxHeartbeats 4000000 in
set_option maxRecDepth 100000 in
theorem c_X3_guessOf (l : Launch) (dC : Nat → ClassId) (dI : Nat → Nat → Nat) (cI : ClassId) (cZ : ClassId) (md : Nat → Nat) (yth : Int32) (ybd : Int32) (yro : Int32) (yrow : Nat → Int32) (ymk : Nat → Int32) (yrm : Int32) (yst : Nat → Int32) (ypc : Int32) (ybu : Nat → Int32) (ybn : Int32) (ymg : Int32) (ysp : Int32) (yjn : Int32) (ymd : Nat → Int32) (ybg : Nat → Int32) (ymm : Int32) (yup : Int64) (yun : Int64) (F : Nat) (p1 : Int32) (p2 : Int32) (sz : Nat) (r : Int64) (u_yup : Int64) (u_yun : Int64) (hm : X3_guessOf F ybd yrow yrm yst ypc yup yun p1 p2 = some (r, u_yup, u_yun)) : Met l yX3_guessOf wsX3_guessOf ({ frames := 2, cells := 0, slots := 0, locals := 55 }) (va_Pc [.ref (md 0), .int p1, .int p2] (zW (dC, dI) (wM cI cZ md yth ybd yro yrow ymk yrm yst ypc ybu ybn ymg ysp yjn ymd ybg ymm yup yun) [(cI, .int), (cZ, .boolean)] sz)) (zQl (dC, dI) (wM cI cZ md yth ybd yro yrow ymk yrm yst ypc ybu ybn ymg ysp yjn ymd ybg ymm u_yup u_yun) [(cI, .int), (cZ, .boolean)] (va_A (wM cI cZ md yth ybd yro yrow ymk yrm yst ypc ybu ybn ymg ysp yjn ymd ybg ymm yup yun) sz) r) 0 0 (va_A (wM cI cZ md yth ybd yro yrow ymk yrm yst ypc ybu ybn ymg ysp yjn ymd ybg ymm yup yun) sz) := by
  refine Met.ofW (cc := cX3_guessOf) (maxL := 3) (ret := (some .long)) (by decide) rfl ?_
  intro p e s m args below meth c s₁ B hml hv
  obtain ⟨rfl, hsz, hP, hK, hD0⟩ := hv
  have hx := B.exec
  have hb := B.bytes
  have hr := B.returns
  have hts := atoms_spec (ws := wsX3_guessOf) B.pre
  have hown : s.vm.findClass RX3 = some m.cls := findClass_of_methodNamed B.named
  have hlocks := B.notSynchronized
  subst hsz
  have hD := hD0.self (sz := s.heap.size)
  generalize hAe : va_A (wM cI cZ md yth ybd yro yrow ymk yrm yst ypc ybu ybn ymg ysp yjn ymd ybg ymm yup yun) s.heap.size = A at hD ⊢
  have hA : ∀ q : Nat, s.heap.size ≤ q → A q := fun q h => by rw [← hAe]; exact Or.inr h
  have hS : va_S A s.heap s.heap [] := va_S.rf
  generalize eL : ([] : List Loc) = locs at hS ⊢
  obtain ⟨H, eH⟩ : ∃ z : Heap, z = s.heap := ⟨_, rfl⟩
  have hP : va_P (dC, dI) vwCl (wM cI cZ md yth ybd yro yrow ymk yrm yst ypc ybu ybn ymg ysp yjn ymd ybg ymm yup yun) H := by rw [eH]; exact hP
  have hS : va_S A s.heap H locs := by rw [eH]; exact hS
  refine z_heap eH ?_
  have hl := lv_entry ([.ref (md 0), .int p1, .int p2]) (n := 3) (Nat.le_of_ble_eq_true rfl)
  rw [lg_entry_eq]
  generalize (lg_sl ([.ref (md 0), .int p1, .int p2]) ++ List.replicate (3 - (lg_sl ([.ref (md 0), .int p1, .int p2])).length) Slot.unset).toArray = ls at hl ⊢
  have hl : lv_has ls 3 [(0, .ref (md 0)), (1, .int p1), (2, .int p2)] := hl
  have zw0 := hts (.fieldLink RX3 24 "LearnedLedgeModel" "start" "[I") (List.mem_cons_of_mem _ (List.mem_append_left _ (List.mem_of_getElem? (i := 0) rfl)))
  have zw1 := hts (.fieldLink RX3 41 "LearnedLedgeModel" "leastUp" "J") (List.mem_cons_of_mem _ (List.mem_append_left _ (List.mem_of_getElem? (i := 1) rfl)))
  have zw2 := hts (.fieldLink RX3 16 "LearnedLedgeModel" "row" "[I") (List.mem_cons_of_mem _ (List.mem_append_left _ (List.mem_of_getElem? (i := 2) rfl)))
  have zw3 := hts (.fieldLink RX3 45 "LearnedLedgeModel" "leastUnder" "J") (List.mem_cons_of_mem _ (List.mem_append_left _ (List.mem_of_getElem? (i := 3) rfl)))
  have ziX3 : ∀ w ∈ u_ws RX3 TX3 18, w ∈ wsX3_guessOf := (fun _ h9 => (List.mem_cons_of_mem _ (List.mem_append_right _ h9)))
  refine lv_aload_n hx hb dX3_guessOf_0 rfl (lv_at hl 0 rfl) ?_
  refine lv_iload_n hx hb dX3_guessOf_1 rfl (lv_at hl 2 rfl) ?_
  obtain ⟨⟨yup2, yun2⟩, h_2, hm⟩ := ob hm
  refine z_callWv (wc := (wM cI cZ md yth ybd yro yrow ymk yrm yst ypc ybu ybn ymg ysp yjn ymd ybg ymm yup yun)) (w1 := (wM cI cZ md yth ybd yro yrow ymk yrm yst ypc ybu ybn ymg ysp yjn ymd ybg ymm yup2 yun2)) (ws := (wM cI cZ md yth ybd yro yrow ymk yrm yst ypc ybu ybn ymg ysp yjn ymd ybg ymm yup yun)) (ws' := (wM cI cZ md yth ybd yro yrow ymk yrm yst ypc ybu ybn ymg ysp yjn ymd ybg ymm yup2 yun2)) (As := [.int p2]) (rest := []) (ci := 3) (q := (RX3, TX3, 18)) ⟨hx, hb, hml, hown, hts⟩ (c_X3_lays l dC dI cI cZ md yth ybd yro yrow ymk yrm yst ypc ybu ybn ymg ysp yjn ymd ybg ymm yup yun F p2 H.size yup2 yun2 h_2) (cwV 1 hts gX3_guessOf_X3_lays rfl rfl rfl kv_X3_lays ⟨Nat.le_of_ble_eq_true rfl, Nat.le_of_ble_eq_true rfl⟩) hK hP hD hS hA (z_spAll (wM cI cZ md yth ybd yro yrow ymk yrm yst ypc ybu ybn ymg ysp yjn ymd ybg ymm yup yun) (wM cI cZ md yth ybd yro yrow ymk yrm yst ypc ybu ybn ymg ysp yjn ymd ybg ymm yup2 yun2)) ((paM cI cZ md yth ybd yro yrow ymk yrm yst ypc ybu ybn ymg ysp yjn ymd ybg ymm yup2 yun2).trans (paM cI cZ md yth ybd yro yrow ymk yrm yst ypc ybu ybn ymg ysp yjn ymd ybg ymm yup yun).symm) rfl rfl rfl rfl hl.1 rfl (Nat.le_of_ble_eq_true rfl) dX3_guessOf_2 ⟨Nat.zero_le _, Nat.zero_le _⟩ (fun H locs hP hD hS => ?_)
  refine lv_aload_n hx hb dX3_guessOf_5 rfl (lv_at hl 0 rfl) ?_
  refine va_get (D := (dC, dI)) (ci := 3) (v := .ref (md 3)) (C := RX3) (T := TX3) (N := 18) hx hb hts ziX3 hown hK hP 0 rfl rfl 6 (by decide) zw0 (fun _ h9 => h9) rfl dX3_guessOf_6 ?_
  refine lv_iload_n hx hb dX3_guessOf_9 rfl (lv_at hl 2 rfl) ?_
  obtain ⟨c_10, hm⟩ := ck hm
  refine va_iald hx hb hK hP 3 0 rfl rfl c_10 dX3_guessOf_10 ?_
  refine lv_i2l hx hb dX3_guessOf_11 rfl ?_
  refine lv_aload_n hx hb dX3_guessOf_12 rfl (lv_at hl 0 rfl) ?_
  refine va_get (D := (dC, dI)) (ci := 3) (v := .long yup2) (C := RX3) (T := TX3) (N := 18) hx hb hts ziX3 hown hK hP 0 rfl rfl 16 (by decide) zw1 (fun _ h9 => h9) rfl dX3_guessOf_13 ?_
  refine lv_iload_n hx hb dX3_guessOf_16 rfl (lv_at hl 1 rfl) ?_
  refine lv_i2l hx hb dX3_guessOf_17 rfl ?_
  refine lv_aload_n hx hb dX3_guessOf_18 rfl (lv_at hl 0 rfl) ?_
  refine va_get (D := (dC, dI)) (ci := 3) (v := .ref (md 1)) (C := RX3) (T := TX3) (N := 18) hx hb hts ziX3 hown hK hP 0 rfl rfl 3 (by decide) zw2 (fun _ h9 => h9) rfl dX3_guessOf_19 ?_
  refine lv_aload_n hx hb dX3_guessOf_22 rfl (lv_at hl 0 rfl) ?_
  refine va_get (D := (dC, dI)) (ci := 3) (v := .ref (md 3)) (C := RX3) (T := TX3) (N := 18) hx hb hts ziX3 hown hK hP 0 rfl rfl 6 (by decide) zw0 (fun _ h9 => h9) rfl dX3_guessOf_23 ?_
  refine lv_iload_n hx hb dX3_guessOf_26 rfl (lv_at hl 2 rfl) ?_
  obtain ⟨c_27, hm⟩ := ck hm
  refine va_iald hx hb hK hP 3 0 rfl rfl c_27 dX3_guessOf_27 ?_
  obtain ⟨c_28, hm⟩ := ck hm
  refine va_iald hx hb hK hP 1 0 rfl rfl c_28 dX3_guessOf_28 ?_
  refine lv_i2l hx hb dX3_guessOf_29 rfl ?_
  refine lv_lsub hx hb dX3_guessOf_30 ?_
  refine lv_lmul hx hb dX3_guessOf_31 ?_
  refine lv_aload_n hx hb dX3_guessOf_32 rfl (lv_at hl 0 rfl) ?_
  refine va_get (D := (dC, dI)) (ci := 3) (v := .long yun2) (C := RX3) (T := TX3) (N := 18) hx hb hts ziX3 hown hK hP 0 rfl rfl 17 (by decide) zw3 (fun _ h9 => h9) rfl dX3_guessOf_33 ?_
  obtain ⟨c_36, hm⟩ := ck hm
  refine lv_ldiv hx hb dX3_guessOf_36 c_36 ?_
  refine lv_ladd hx hb dX3_guessOf_37 ?_
  cases o2 hm
  exact W.lret hx hb hr (fun t ht hW => ⟨⟨_, (), rfl, rfl, by rw [ht]; exact hP, va_K.moved hW.alike hK, hD⟩, hS.F ht⟩) hS.2.2 dX3_guessOf_38
set_option maxHeartbeats 4000000 in
set_option maxRecDepth 100000 in
theorem c_X3_guess (l : Launch) (dC : Nat → ClassId) (dI : Nat → Nat → Nat) (cI : ClassId) (cZ : ClassId) (md : Nat → Nat) (yth : Int32) (ybd : Int32) (yro : Int32) (yrow : Nat → Int32) (ymk : Nat → Int32) (yrm : Int32) (yst : Nat → Int32) (ypc : Int32) (ybu : Nat → Int32) (ybn : Int32) (ymg : Int32) (ysp : Int32) (yjn : Int32) (ymd : Nat → Int32) (ybg : Nat → Int32) (ymm : Int32) (yup : Int64) (yun : Int64) (F : Nat) (p1 : Int32) (sz : Nat) (r : Int64) (u_yth : Int32) (u_yup : Int64) (u_yun : Int64) (hm : X3_guess F yth ybd yrow yrm yst ypc yup yun p1 = some (r, u_yth, u_yup, u_yun)) : Met l yX3_guess wsX3_guess ({ frames := 3, cells := 0, slots := 0, locals := 77 }) (va_Pc [.ref (md 0), .int p1] (zW (dC, dI) (wM cI cZ md yth ybd yro yrow ymk yrm yst ypc ybu ybn ymg ysp yjn ymd ybg ymm yup yun) [(cI, .int), (cZ, .boolean)] sz)) (zQl (dC, dI) (wM cI cZ md u_yth ybd yro yrow ymk yrm yst ypc ybu ybn ymg ysp yjn ymd ybg ymm u_yup u_yun) [(cI, .int), (cZ, .boolean)] (va_A (wM cI cZ md yth ybd yro yrow ymk yrm yst ypc ybu ybn ymg ysp yjn ymd ybg ymm yup yun) sz) r) 0 0 (va_A (wM cI cZ md yth ybd yro yrow ymk yrm yst ypc ybu ybn ymg ysp yjn ymd ybg ymm yup yun) sz) := by
  refine Met.ofW (cc := cX3_guess) (maxL := 3) (ret := (some .long)) (by decide) rfl ?_
  intro p e s m args below meth c s₁ B hml hv
  obtain ⟨rfl, hsz, hP, hK, hD0⟩ := hv
  have hx := B.exec
  have hb := B.bytes
  have hr := B.returns
  have hts := atoms_spec (ws := wsX3_guess) B.pre
  have hown : s.vm.findClass RX3 = some m.cls := findClass_of_methodNamed B.named
  have hlocks := B.notSynchronized
  subst hsz
  have hD := hD0.self (sz := s.heap.size)
  generalize hAe : va_A (wM cI cZ md yth ybd yro yrow ymk yrm yst ypc ybu ybn ymg ysp yjn ymd ybg ymm yup yun) s.heap.size = A at hD ⊢
  have hA : ∀ q : Nat, s.heap.size ≤ q → A q := fun q h => by rw [← hAe]; exact Or.inr h
  have hS : va_S A s.heap s.heap [] := va_S.rf
  generalize eL : ([] : List Loc) = locs at hS ⊢
  obtain ⟨H, eH⟩ : ∃ z : Heap, z = s.heap := ⟨_, rfl⟩
  have hP : va_P (dC, dI) vwCl (wM cI cZ md yth ybd yro yrow ymk yrm yst ypc ybu ybn ymg ysp yjn ymd ybg ymm yup yun) H := by rw [eH]; exact hP
  have hS : va_S A s.heap H locs := by rw [eH]; exact hS
  refine z_heap eH ?_
  have hl := lv_entry ([.ref (md 0), .int p1]) (n := 3) (Nat.le_of_ble_eq_true rfl)
  rw [lg_entry_eq]
  generalize (lg_sl ([.ref (md 0), .int p1]) ++ List.replicate (3 - (lg_sl ([.ref (md 0), .int p1])).length) Slot.unset).toArray = ls at hl ⊢
  have hl : lv_has ls 3 [(0, .ref (md 0)), (1, .int p1)] := hl
  have zw0 := hts (.fieldLink RX3 36 "LearnedLedgeModel" "thrown" "I") (List.mem_cons_of_mem _ (List.mem_append_left _ (List.mem_append_left _ (List.mem_of_getElem? (i := 0) rfl))))
  have zw1 := hts (.constantLong RX3 145 (-1)) (List.mem_cons_of_mem _ (List.mem_append_left _ (List.mem_append_left _ (List.mem_of_getElem? (i := 1) rfl))))
  have ziX3 : ∀ w ∈ u_ws RX3 TX3 18, w ∈ wsX3_guess := (fun _ h9 => (List.mem_cons_of_mem _ (List.mem_append_right _ h9)))
  refine lv_aload_n hx hb dX3_guess_0 rfl (lv_at hl 0 rfl) ?_
  refine lv_iload_n hx hb dX3_guess_1 rfl (lv_at hl 1 rfl) ?_
  obtain ⟨r2, h_2, hm⟩ := ob hm
  refine z_callSi (As := [.int p1]) (rest := [.ref (md 0)]) ⟨hx, hb, hml, hown, hts⟩ (c_X3_isKey l dC dI F p1 r2 h_2) (va_cwS 1 hts gX3_guess_X3_isKey rfl rfl rfl ks_X3_isKey ⟨Nat.le_of_ble_eq_true rfl, Nat.le_of_ble_eq_true rfl⟩) (hK.sub (tys' := []) [] rfl) z_P0 rfl hl.1 rfl (Nat.le_of_ble_eq_true rfl) dX3_guess_2 ⟨Nat.zero_le _, Nat.zero_le _⟩ ?_
  obtain ⟨y13, e_y13⟩ : ∃ y : Int32, y = (if r2 = 0 then 1 else 0) := ⟨_, rfl⟩
  have hm := bnd_e hm e_y13
  have J_13 : W p l e (headSpec wsX3_guess ({ frames := 3, cells := 0, slots := 0, locals := 77 } : Room)).room s m ([.ref (md 0), .int p1] : List Value).toArray below meth c H locs 0 0 (MQ below (zQl (dC, dI) (wM cI cZ md u_yth ybd yro yrow ymk yrm yst ypc ybu ybn ymg ysp yjn ymd ybg ymm u_yup u_yun) [(cI, .int), (cZ, .boolean)] A r) ([.ref (md 0), .int p1] : List Value).toArray s 0 0 A) (F0 m 13 ls [.int y13, .ref (md 0)]) := by
    refine va_put (D := (dC, dI)) (ci := 3) (v := .int y13) (ty := .int) (C := RX3) (T := TX3) (N := 18) hx hb hts ziX3 tyX3 tyX3_ok nmX3 hown hK hP hD hS 0 rfl rfl 0 (by decide) zw0 (fun _ h9 => h9) rfl (by decide +kernel) rfl rfl (Nat.le_of_ble_eq_true rfl) dX3_guess_13 (fun H locs hP hD hS => ?_)
    have hP : va_P (dC, dI) vwCl (wM cI cZ md y13 ybd yro yrow ymk yrm yst ypc ybu ybn ymg ysp yjn ymd ybg ymm yup yun) H := hP
    have hD : va_D A (wM cI cZ md y13 ybd yro yrow ymk yrm yst ypc ybu ybn ymg ysp yjn ymd ybg ymm yup yun) := hD
    refine lv_aload_n hx hb dX3_guess_16 rfl (lv_at hl 0 rfl) ?_
    refine lv_iload_n hx hb dX3_guess_17 rfl (lv_at hl 1 rfl) ?_
    obtain ⟨r18, h_18, hm⟩ := ob hm
    refine z_callRi (As := [.int p1]) (rest := []) (ci := 3) (q := (RX3, TX3, 18)) ⟨hx, hb, hml, hown, hts⟩ (c_X3_pieceOf l dC dI cI cZ md y13 ybd yro yrow ymk yrm yst ypc ybu ybn ymg ysp yjn ymd ybg ymm yup yun F p1 r18 h_18) (cwV 1 hts gX3_guess_X3_pieceOf rfl rfl rfl kv_X3_pieceOf ⟨Nat.le_of_ble_eq_true rfl, Nat.le_of_ble_eq_true rfl⟩) hK hP rfl rfl rfl rfl hl.1 rfl (Nat.le_of_ble_eq_true rfl) dX3_guess_18 ⟨Nat.zero_le _, Nat.zero_le _⟩ ?_
    refine lv_istore_n (lv' := [(2, .int r18), (0, .ref (md 0)), (1, .int p1)]) hx hb dX3_guess_21 rfl hl (by decide) rfl (fun ls hl => ?_)
    refine lv_aload_n hx hb dX3_guess_22 rfl (lv_at hl 1 rfl) ?_
    refine va_get (D := (dC, dI)) (ci := 3) (v := .int y13) (C := RX3) (T := TX3) (N := 18) hx hb hts ziX3 hown hK hP 0 rfl rfl 0 (by decide) zw0 (fun _ h9 => h9) rfl dX3_guess_23 ?_
    refine lv_if_gt (tgt := 34) hx hb dX3_guess_26 (by decide) (fun c_26 => ?_) (fun c_26 => ?_)
    · have hm := it_t hm c_26
      refine lv_ldc2 hx hb hown zw1 dX3_guess_34 ?_
      refine lv_goto (tgt := 46) hx hb dX3_guess_37 (by decide) ?_
      cases o2 hm
      exact W.lret hx hb hr (fun t ht hW => ⟨⟨_, (), rfl, rfl, by rw [ht]; exact hP, va_K.moved hW.alike hK, hD⟩, hS.F ht⟩) hS.2.2 dX3_guess_46
    · have hm := it_f hm c_26
      refine lv_iload_n hx hb dX3_guess_29 rfl (lv_at hl 0 rfl) ?_
      refine lv_iconst (v := (-1)) hx hb dX3_guess_30 (by decide) ?_
      refine lv_icmp_ne (tgt := 40) hx hb dX3_guess_31 (by decide) (fun c_31 => ?_) (fun c_31 => ?_)
      · have hm := it_f hm c_31
        refine lv_aload_n hx hb dX3_guess_40 rfl (lv_at hl 1 rfl) ?_
        refine lv_iload_n hx hb dX3_guess_41 rfl (lv_at hl 2 rfl) ?_
        refine lv_iload_n hx hb dX3_guess_42 rfl (lv_at hl 0 rfl) ?_
        obtain ⟨⟨r43, yup43, yun43⟩, h_43, hm⟩ := ob hm
        refine z_callWl (wc := (wM cI cZ md y13 ybd yro yrow ymk yrm yst ypc ybu ybn ymg ysp yjn ymd ybg ymm yup yun)) (w1 := (wM cI cZ md y13 ybd yro yrow ymk yrm yst ypc ybu ybn ymg ysp yjn ymd ybg ymm yup43 yun43)) (ws := (wM cI cZ md y13 ybd yro yrow ymk yrm yst ypc ybu ybn ymg ysp yjn ymd ybg ymm yup yun)) (ws' := (wM cI cZ md y13 ybd yro yrow ymk yrm yst ypc ybu ybn ymg ysp yjn ymd ybg ymm yup43 yun43)) (As := [.int p1, .int r18]) (rest := []) (ci := 3) (q := (RX3, TX3, 18)) ⟨hx, hb, hml, hown, hts⟩ (c_X3_guessOf l dC dI cI cZ md y13 ybd yro yrow ymk yrm yst ypc ybu ybn ymg ysp yjn ymd ybg ymm yup yun F p1 r18 H.size r43 yup43 yun43 h_43) (cwV 2 hts gX3_guess_X3_guessOf rfl rfl rfl kv_X3_guessOf ⟨Nat.le_of_ble_eq_true rfl, Nat.le_of_ble_eq_true rfl⟩) hK hP hD hS hA (z_spAll (wM cI cZ md y13 ybd yro yrow ymk yrm yst ypc ybu ybn ymg ysp yjn ymd ybg ymm yup yun) (wM cI cZ md y13 ybd yro yrow ymk yrm yst ypc ybu ybn ymg ysp yjn ymd ybg ymm yup43 yun43)) ((paM cI cZ md y13 ybd yro yrow ymk yrm yst ypc ybu ybn ymg ysp yjn ymd ybg ymm yup43 yun43).trans (paM cI cZ md y13 ybd yro yrow ymk yrm yst ypc ybu ybn ymg ysp yjn ymd ybg ymm yup yun).symm) rfl rfl rfl rfl hl.1 rfl (Nat.le_of_ble_eq_true rfl) dX3_guess_43 ⟨Nat.zero_le _, Nat.zero_le _⟩ (fun H locs hP hD hS => ?_)
        cases o2 hm
        exact W.lret hx hb hr (fun t ht hW => ⟨⟨_, (), rfl, rfl, by rw [ht]; exact hP, va_K.moved hW.alike hK, hD⟩, hS.F ht⟩) hS.2.2 dX3_guess_46
      · have hm := it_t hm c_31
        refine lv_ldc2 hx hb hown zw1 dX3_guess_34 ?_
        refine lv_goto (tgt := 46) hx hb dX3_guess_37 (by decide) ?_
        cases o2 hm
        exact W.lret hx hb hr (fun t ht hW => ⟨⟨_, (), rfl, rfl, by rw [ht]; exact hP, va_K.moved hW.alike hK, hD⟩, hS.F ht⟩) hS.2.2 dX3_guess_46
  refine lv_if_eq (tgt := 12) hx hb dX3_guess_5 (by decide) (fun c_5 => ?_) (fun c_5 => ?_)
  · refine lv_iconst (v := 1) hx hb dX3_guess_12 (by decide) ?_
    have e9 : y13 = 1 := by rw [e_y13, if_pos c_5]
    rw [e9] at J_13
    exact J_13
  · refine lv_iconst (v := 0) hx hb dX3_guess_8 (by decide) ?_
    refine lv_goto (tgt := 13) hx hb dX3_guess_9 (by decide) ?_
    have e9 : y13 = 0 := by rw [e_y13, if_neg c_5]
    rw [e9] at J_13
    exact J_13
set_option maxHeartbeats 4000000 in
set_option maxRecDepth 100000 in
theorem c_X3_looks (l : Launch) (dC : Nat → ClassId) (dI : Nat → Nat → Nat) (cI : ClassId) (cZ : ClassId) (md : Nat → Nat) (yth : Int32) (ybd : Int32) (yro : Int32) (yrow : Nat → Int32) (ymk : Nat → Int32) (yrm : Int32) (yst : Nat → Int32) (ypc : Int32) (ybu : Nat → Int32) (ybn : Int32) (ymg : Int32) (ysp : Int32) (yjn : Int32) (ymd : Nat → Int32) (ybg : Nat → Int32) (ymm : Int32) (yup : Int64) (yun : Int64) (F : Nat) (p1 : Int32) (sz : Nat) (r : Int32) (u_yth : Int32) (u_yup : Int64) (u_yun : Int64) (hm : X3_looks F yth ybd yrow yrm yst ypc yup yun p1 = some (r, u_yth, u_yup, u_yun)) : Met l yX3_looks wsX3_looks ({ frames := 3, cells := 0, slots := 0, locals := 77 }) (va_Pc [.ref (md 0), .int p1] (zW (dC, dI) (wM cI cZ md yth ybd yro yrow ymk yrm yst ypc ybu ybn ymg ysp yjn ymd ybg ymm yup yun) [(cI, .int), (cZ, .boolean)] sz)) (zQi (dC, dI) (wM cI cZ md u_yth ybd yro yrow ymk yrm yst ypc ybu ybn ymg ysp yjn ymd ybg ymm u_yup u_yun) [(cI, .int), (cZ, .boolean)] (va_A (wM cI cZ md yth ybd yro yrow ymk yrm yst ypc ybu ybn ymg ysp yjn ymd ybg ymm yup yun) sz) r) 0 0 (va_A (wM cI cZ md yth ybd yro yrow ymk yrm yst ypc ybu ybn ymg ysp yjn ymd ybg ymm yup yun) sz) := by
  refine Met.ofW (cc := cX3_looks) (maxL := 13) (ret := (some .int)) (by decide) rfl ?_
  intro p e s m args below meth c s₁ B hml hv
  obtain ⟨rfl, hsz, hP, hK, hD0⟩ := hv
  have hx := B.exec
  have hb := B.bytes
  have hr := B.returns
  have hts := atoms_spec (ws := wsX3_looks) B.pre
  have hown : s.vm.findClass RX3 = some m.cls := findClass_of_methodNamed B.named
  have hlocks := B.notSynchronized
  subst hsz
  have hD := hD0.self (sz := s.heap.size)
  generalize hAe : va_A (wM cI cZ md yth ybd yro yrow ymk yrm yst ypc ybu ybn ymg ysp yjn ymd ybg ymm yup yun) s.heap.size = A at hD ⊢
  have hA : ∀ q : Nat, s.heap.size ≤ q → A q := fun q h => by rw [← hAe]; exact Or.inr h
  have hS : va_S A s.heap s.heap [] := va_S.rf
  generalize eL : ([] : List Loc) = locs at hS ⊢
  obtain ⟨H, eH⟩ : ∃ z : Heap, z = s.heap := ⟨_, rfl⟩
  have hP : va_P (dC, dI) vwCl (wM cI cZ md yth ybd yro yrow ymk yrm yst ypc ybu ybn ymg ysp yjn ymd ybg ymm yup yun) H := by rw [eH]; exact hP
  have hS : va_S A s.heap H locs := by rw [eH]; exact hS
  refine z_heap eH ?_
  have hl := lv_entry ([.ref (md 0), .int p1]) (n := 13) (Nat.le_of_ble_eq_true rfl)
  rw [lg_entry_eq]
  generalize (lg_sl ([.ref (md 0), .int p1]) ++ List.replicate (13 - (lg_sl ([.ref (md 0), .int p1])).length) Slot.unset).toArray = ls at hl ⊢
  have hl : lv_has ls 13 [(0, .ref (md 0)), (1, .int p1)] := hl
  have zw0 := hts (.fieldLink RX3 36 "LearnedLedgeModel" "thrown" "I") (List.mem_cons_of_mem _ (List.mem_append_left _ (List.mem_append_left _ (List.mem_of_getElem? (i := 0) rfl))))
  have zw1 := hts (.fieldLink RX3 7 "LearnedLedgeModel" "bound" "I") (List.mem_cons_of_mem _ (List.mem_append_left _ (List.mem_append_left _ (List.mem_of_getElem? (i := 1) rfl))))
  have zw2 := hts (.fieldLink RX3 24 "LearnedLedgeModel" "start" "[I") (List.mem_cons_of_mem _ (List.mem_append_left _ (List.mem_append_left _ (List.mem_of_getElem? (i := 2) rfl))))
  have zw3 := hts (.constantLong RX3 151 (2)) (List.mem_cons_of_mem _ (List.mem_append_left _ (List.mem_append_left _ (List.mem_of_getElem? (i := 3) rfl))))
  have zw4 := hts (.fieldLink RX3 16 "LearnedLedgeModel" "row" "[I") (List.mem_cons_of_mem _ (List.mem_append_left _ (List.mem_append_left _ (List.mem_of_getElem? (i := 4) rfl))))
  have ziX3 : ∀ w ∈ u_ws RX3 TX3 18, w ∈ wsX3_looks := (fun _ h9 => (List.mem_cons_of_mem _ (List.mem_append_right _ h9)))
  refine lv_aload_n hx hb dX3_looks_0 rfl (lv_at hl 0 rfl) ?_
  refine lv_iload_n hx hb dX3_looks_1 rfl (lv_at hl 1 rfl) ?_
  obtain ⟨r2, h_2, hm⟩ := ob hm
  refine z_callSi (As := [.int p1]) (rest := [.ref (md 0)]) ⟨hx, hb, hml, hown, hts⟩ (c_X3_isKey l dC dI F p1 r2 h_2) (va_cwS 1 hts gX3_looks_X3_isKey rfl rfl rfl ks_X3_isKey ⟨Nat.le_of_ble_eq_true rfl, Nat.le_of_ble_eq_true rfl⟩) (hK.sub (tys' := []) [] rfl) z_P0 rfl hl.1 rfl (Nat.le_of_ble_eq_true rfl) dX3_looks_2 ⟨Nat.zero_le _, Nat.zero_le _⟩ ?_
  obtain ⟨y13, e_y13⟩ : ∃ y : Int32, y = (if r2 = 0 then 1 else 0) := ⟨_, rfl⟩
  have hm := bnd_e hm e_y13
  have J_13 : W p l e (headSpec wsX3_looks ({ frames := 3, cells := 0, slots := 0, locals := 77 } : Room)).room s m ([.ref (md 0), .int p1] : List Value).toArray below meth c H locs 0 0 (MQ below (zQi (dC, dI) (wM cI cZ md u_yth ybd yro yrow ymk yrm yst ypc ybu ybn ymg ysp yjn ymd ybg ymm u_yup u_yun) [(cI, .int), (cZ, .boolean)] A r) ([.ref (md 0), .int p1] : List Value).toArray s 0 0 A) (F0 m 13 ls [.int y13, .ref (md 0)]) := by
    refine va_put (D := (dC, dI)) (ci := 3) (v := .int y13) (ty := .int) (C := RX3) (T := TX3) (N := 18) hx hb hts ziX3 tyX3 tyX3_ok nmX3 hown hK hP hD hS 0 rfl rfl 0 (by decide) zw0 (fun _ h9 => h9) rfl (by decide +kernel) rfl rfl (Nat.le_of_ble_eq_true rfl) dX3_looks_13 (fun H locs hP hD hS => ?_)
    have hP : va_P (dC, dI) vwCl (wM cI cZ md y13 ybd yro yrow ymk yrm yst ypc ybu ybn ymg ysp yjn ymd ybg ymm yup yun) H := hP
    have hD : va_D A (wM cI cZ md y13 ybd yro yrow ymk yrm yst ypc ybu ybn ymg ysp yjn ymd ybg ymm yup yun) := hD
    refine lv_aload_n hx hb dX3_looks_16 rfl (lv_at hl 0 rfl) ?_
    refine lv_iload_n hx hb dX3_looks_17 rfl (lv_at hl 1 rfl) ?_
    obtain ⟨r18, h_18, hm⟩ := ob hm
    refine z_callRi (As := [.int p1]) (rest := []) (ci := 3) (q := (RX3, TX3, 18)) ⟨hx, hb, hml, hown, hts⟩ (c_X3_pieceOf l dC dI cI cZ md y13 ybd yro yrow ymk yrm yst ypc ybu ybn ymg ysp yjn ymd ybg ymm yup yun F p1 r18 h_18) (cwV 1 hts gX3_looks_X3_pieceOf rfl rfl rfl kv_X3_pieceOf ⟨Nat.le_of_ble_eq_true rfl, Nat.le_of_ble_eq_true rfl⟩) hK hP rfl rfl rfl rfl hl.1 rfl (Nat.le_of_ble_eq_true rfl) dX3_looks_18 ⟨Nat.zero_le _, Nat.zero_le _⟩ ?_
    refine lv_istore_n (lv' := [(2, .int r18), (0, .ref (md 0)), (1, .int p1)]) hx hb dX3_looks_21 rfl hl (by decide) rfl (fun ls hl => ?_)
    refine lv_aload_n hx hb dX3_looks_22 rfl (lv_at hl 1 rfl) ?_
    refine va_get (D := (dC, dI)) (ci := 3) (v := .int y13) (C := RX3) (T := TX3) (N := 18) hx hb hts ziX3 hown hK hP 0 rfl rfl 0 (by decide) zw0 (fun _ h9 => h9) rfl dX3_looks_23 ?_
    refine lv_if_gt (tgt := 34) hx hb dX3_looks_26 (by decide) (fun c_26 => ?_) (fun c_26 => ?_)
    · have hm := it_t hm c_26
      refine lv_iconst (v := 0) hx hb dX3_looks_34 (by decide) ?_
      cases o2 hm
      exact W.iret hx hb hr (fun t ht hW => ⟨⟨_, (), rfl, rfl, by rw [ht]; exact hP, va_K.moved hW.alike hK, hD⟩, hS.F ht⟩) hS.2.2 dX3_looks_35
    · have hm := it_f hm c_26
      refine lv_iload_n hx hb dX3_looks_29 rfl (lv_at hl 0 rfl) ?_
      refine lv_iconst (v := (-1)) hx hb dX3_looks_30 (by decide) ?_
      refine lv_icmp_ne (tgt := 36) hx hb dX3_looks_31 (by decide) (fun c_31 => ?_) (fun c_31 => ?_)
      · have hm := it_f hm c_31
        refine lv_aload_n hx hb dX3_looks_36 rfl (lv_at hl 1 rfl) ?_
        refine lv_iload_n hx hb dX3_looks_37 rfl (lv_at hl 2 rfl) ?_
        refine lv_iload_n hx hb dX3_looks_38 rfl (lv_at hl 0 rfl) ?_
        obtain ⟨⟨r39, yup39, yun39⟩, h_39, hm⟩ := ob hm
        refine z_callWl (wc := (wM cI cZ md y13 ybd yro yrow ymk yrm yst ypc ybu ybn ymg ysp yjn ymd ybg ymm yup yun)) (w1 := (wM cI cZ md y13 ybd yro yrow ymk yrm yst ypc ybu ybn ymg ysp yjn ymd ybg ymm yup39 yun39)) (ws := (wM cI cZ md y13 ybd yro yrow ymk yrm yst ypc ybu ybn ymg ysp yjn ymd ybg ymm yup yun)) (ws' := (wM cI cZ md y13 ybd yro yrow ymk yrm yst ypc ybu ybn ymg ysp yjn ymd ybg ymm yup39 yun39)) (As := [.int p1, .int r18]) (rest := []) (ci := 3) (q := (RX3, TX3, 18)) ⟨hx, hb, hml, hown, hts⟩ (c_X3_guessOf l dC dI cI cZ md y13 ybd yro yrow ymk yrm yst ypc ybu ybn ymg ysp yjn ymd ybg ymm yup yun F p1 r18 H.size r39 yup39 yun39 h_39) (cwV 2 hts gX3_looks_X3_guessOf rfl rfl rfl kv_X3_guessOf ⟨Nat.le_of_ble_eq_true rfl, Nat.le_of_ble_eq_true rfl⟩) hK hP hD hS hA (z_spAll (wM cI cZ md y13 ybd yro yrow ymk yrm yst ypc ybu ybn ymg ysp yjn ymd ybg ymm yup yun) (wM cI cZ md y13 ybd yro yrow ymk yrm yst ypc ybu ybn ymg ysp yjn ymd ybg ymm yup39 yun39)) ((paM cI cZ md y13 ybd yro yrow ymk yrm yst ypc ybu ybn ymg ysp yjn ymd ybg ymm yup39 yun39).trans (paM cI cZ md y13 ybd yro yrow ymk yrm yst ypc ybu ybn ymg ysp yjn ymd ybg ymm yup yun).symm) rfl rfl rfl rfl hl.1 rfl (Nat.le_of_ble_eq_true rfl) dX3_looks_39 ⟨Nat.zero_le _, Nat.zero_le _⟩ (fun H locs hP hD hS => ?_)
        refine lv_lstore_n (lv' := [(3, .long r39), (2, .int r18), (0, .ref (md 0)), (1, .int p1)]) hx hb dX3_looks_42 rfl hl (by decide) rfl (fun ls hl => ?_)
        refine lv_aload_n hx hb dX3_looks_43 rfl (lv_at hl 2 rfl) ?_
        refine lv_iload_n hx hb dX3_looks_44 rfl (lv_at hl 1 rfl) ?_
        obtain ⟨r45, h_45, hm⟩ := ob hm
        refine z_callRi (As := [.int r18]) (rest := []) (ci := 3) (q := (RX3, TX3, 18)) ⟨hx, hb, hml, hown, hts⟩ (c_X3_behind l dC dI cI cZ md y13 ybd yro yrow ymk yrm yst ypc ybu ybn ymg ysp yjn ymd ybg ymm yup39 yun39 F r18 r45 h_45) (cwV 1 hts gX3_looks_X3_behind rfl rfl rfl kv_X3_behind ⟨Nat.le_of_ble_eq_true rfl, Nat.le_of_ble_eq_true rfl⟩) hK hP rfl rfl rfl rfl hl.1 rfl (Nat.le_of_ble_eq_true rfl) dX3_looks_45 ⟨Nat.zero_le _, Nat.zero_le _⟩ ?_
        refine lv_istore (lv' := [(5, .int r45), (3, .long r39), (2, .int r18), (0, .ref (md 0)), (1, .int p1)]) hx hb dX3_looks_48 hl (by decide) rfl (fun ls hl => ?_)
        refine lv_lload_n hx hb dX3_looks_50 rfl (lv_at hl 1 rfl) ?_
        refine lv_aload_n hx hb dX3_looks_51 rfl (lv_at hl 3 rfl) ?_
        refine va_get (D := (dC, dI)) (ci := 3) (v := .int ybd) (C := RX3) (T := TX3) (N := 18) hx hb hts ziX3 hown hK hP 0 rfl rfl 1 (by decide) zw1 (fun _ h9 => h9) rfl dX3_looks_52 ?_
        refine lv_i2l hx hb dX3_looks_55 rfl ?_
        refine lv_lsub hx hb dX3_looks_56 ?_
        refine lv_aload_n hx hb dX3_looks_57 rfl (lv_at hl 3 rfl) ?_
        refine va_get (D := (dC, dI)) (ci := 3) (v := .ref (md 3)) (C := RX3) (T := TX3) (N := 18) hx hb hts ziX3 hown hK hP 0 rfl rfl 6 (by decide) zw2 (fun _ h9 => h9) rfl dX3_looks_58 ?_
        refine lv_iload_n hx hb dX3_looks_61 rfl (lv_at hl 2 rfl) ?_
        obtain ⟨c_62, hm⟩ := ck hm
        refine va_iald hx hb hK hP 3 0 rfl rfl c_62 dX3_looks_62 ?_
        refine lv_i2l hx hb dX3_looks_63 rfl ?_
        refine W.lcmp hx hb dX3_looks_64 ?_
        obtain ⟨z_85, hq_85, hm⟩ := ob hm
        have J_85 : ∀ (y85 : Int64), z_85 = y85 → W p l e (headSpec wsX3_looks ({ frames := 3, cells := 0, slots := 0, locals := 77 } : Room)).room s m ([.ref (md 0), .int p1] : List Value).toArray below meth c H locs 0 0 (MQ below (zQi (dC, dI) (wM cI cZ md u_yth ybd yro yrow ymk yrm yst ypc ybu ybn ymg ysp yjn ymd ybg ymm u_yup u_yun) [(cI, .int), (cZ, .boolean)] A r) ([.ref (md 0), .int p1] : List Value).toArray s 0 0 A) (F0 m 85 ls [.long y85]) := by
          intro y85 ez
          rw [ez] at hm
          refine lv_lstore (lv' := [(6, .long y85), (5, .int r45), (3, .long r39), (2, .int r18), (0, .ref (md 0)), (1, .int p1)]) hx hb dX3_looks_85 hl (by decide) rfl (fun ls hl => ?_)
          refine lv_lload hx hb dX3_looks_87 (lv_at hl 0 rfl) ?_
          refine lv_iload hx hb dX3_looks_89 (lv_at hl 1 rfl) ?_
          refine lv_i2l hx hb dX3_looks_91 rfl ?_
          refine W.lcmp hx hb dX3_looks_92 ?_
          obtain ⟨y104, e_y104⟩ : ∃ y : Int64, y = (if (Int32.toInt64 r45) ≤ y85 then (Int32.toInt64 r45) else y85) := ⟨_, rfl⟩
          have hm := bnd_e hm e_y104
          have J_104 : W p l e (headSpec wsX3_looks ({ frames := 3, cells := 0, slots := 0, locals := 77 } : Room)).room s m ([.ref (md 0), .int p1] : List Value).toArray below meth c H locs 0 0 (MQ below (zQi (dC, dI) (wM cI cZ md u_yth ybd yro yrow ymk yrm yst ypc ybu ybn ymg ysp yjn ymd ybg ymm u_yup u_yun) [(cI, .int), (cZ, .boolean)] A r) ([.ref (md 0), .int p1] : List Value).toArray s 0 0 A) (F0 m 104 ls [.long y104]) := by
            refine lv_lstore (lv' := [(6, .long y104), (5, .int r45), (3, .long r39), (2, .int r18), (0, .ref (md 0)), (1, .int p1)]) hx hb dX3_looks_104 hl (by decide) rfl (fun ls hl => ?_)
            refine lv_lload_n hx hb dX3_looks_106 rfl (lv_at hl 2 rfl) ?_
            refine lv_aload_n hx hb dX3_looks_107 rfl (lv_at hl 4 rfl) ?_
            refine va_get (D := (dC, dI)) (ci := 3) (v := .int ybd) (C := RX3) (T := TX3) (N := 18) hx hb hts ziX3 hown hK hP 0 rfl rfl 1 (by decide) zw1 (fun _ h9 => h9) rfl dX3_looks_108 ?_
            refine lv_i2l hx hb dX3_looks_111 rfl ?_
            refine lv_ladd hx hb dX3_looks_112 ?_
            refine lv_lconst (v := 1) hx hb dX3_looks_113 (by decide) ?_
            refine lv_ladd hx hb dX3_looks_114 ?_
            refine lv_iload hx hb dX3_looks_115 (lv_at hl 1 rfl) ?_
            refine lv_i2l hx hb dX3_looks_117 rfl ?_
            refine W.lcmp hx hb dX3_looks_118 ?_
            obtain ⟨y137, e_y137⟩ : ∃ y : Int64, y = (if (Int32.toInt64 r45) ≤ ((r39 + (Int32.toInt64 ybd)) + 1) then (Int32.toInt64 r45) else ((r39 + (Int32.toInt64 ybd)) + 1)) := ⟨_, rfl⟩
            have hm := bnd_e hm e_y137
            have J_137 : W p l e (headSpec wsX3_looks ({ frames := 3, cells := 0, slots := 0, locals := 77 } : Room)).room s m ([.ref (md 0), .int p1] : List Value).toArray below meth c H locs 0 0 (MQ below (zQi (dC, dI) (wM cI cZ md u_yth ybd yro yrow ymk yrm yst ypc ybu ybn ymg ysp yjn ymd ybg ymm u_yup u_yun) [(cI, .int), (cZ, .boolean)] A r) ([.ref (md 0), .int p1] : List Value).toArray s 0 0 A) (F0 m 137 ls [.long y137]) := by
              refine lv_lstore (lv' := [(8, .long y137), (6, .long y104), (5, .int r45), (3, .long r39), (2, .int r18), (0, .ref (md 0)), (1, .int p1)]) hx hb dX3_looks_137 hl (by decide) rfl (fun ls hl => ?_)
              refine lv_iconst (v := 0) hx hb dX3_looks_139 (by decide) ?_
              refine lv_istore (lv' := [(10, .int 0), (8, .long y137), (6, .long y104), (5, .int r45), (3, .long r39), (2, .int r18), (0, .ref (md 0)), (1, .int p1)]) hx hb dX3_looks_140 hl (by decide) rfl (fun ls hl => ?_)
              obtain ⟨z_142, hq_142, hm⟩ := ob hm
              have K_142 : ∀ (x10_2 : Int32), z_142 = x10_2 → ∀ (ls : Array Slot), lv_has ls 13 [(10, .int x10_2)] → W p l e (headSpec wsX3_looks ({ frames := 3, cells := 0, slots := 0, locals := 77 } : Room)).room s m ([.ref (md 0), .int p1] : List Value).toArray below meth c H locs 0 0 (MQ below (zQi (dC, dI) (wM cI cZ md u_yth ybd yro yrow ymk yrm yst ypc ybu ybn ymg ysp yjn ymd ybg ymm u_yup u_yun) [(cI, .int), (cZ, .boolean)] A r) ([.ref (md 0), .int p1] : List Value).toArray s 0 0 A) (F0 m 192 ls []) := by
                intro x10_2 ez ls hl
                rw [ez] at hm
                refine lv_iload hx hb dX3_looks_192 (lv_at hl 0 rfl) ?_
                cases o2 hm
                exact W.iret hx hb hr (fun t ht hW => ⟨⟨_, (), rfl, rfl, by rw [ht]; exact hP, va_K.moved hW.alike hK, hD⟩, hS.F ht⟩) hS.2.2 dX3_looks_194
              have L_142 : ∀ (n : Nat) (x10 : Int32) (x8 : Int64) (x6 : Int64), X3_looks_L142 p1 yrow n x10 x8 x6 = some z_142 → ∀ (ls : Array Slot), lv_has ls 13 [(10, .int x10), (8, .long x8), (6, .long x6), (0, .ref (md 0)), (1, .int p1)] → W p l e (headSpec wsX3_looks ({ frames := 3, cells := 0, slots := 0, locals := 77 } : Room)).room s m ([.ref (md 0), .int p1] : List Value).toArray below meth c H locs 0 0 (MQ below (zQi (dC, dI) (wM cI cZ md u_yth ybd yro yrow ymk yrm yst ypc ybu ybn ymg ysp yjn ymd ybg ymm u_yup u_yun) [(cI, .int), (cZ, .boolean)] A r) ([.ref (md 0), .int p1] : List Value).toArray s 0 0 A) (F0 m 142 ls []) := by
                intro n
                induction n with
                | zero => intro x10 x8 x6 hm; cases hm
                | succ n ih_142 =>
                  intro x10 x8 x6 hm ls hl
                  refine lv_lload hx hb dX3_looks_142 (lv_at hl 2 rfl) ?_
                  refine lv_lload hx hb dX3_looks_144 (lv_at hl 1 rfl) ?_
                  refine W.lcmp hx hb dX3_looks_146 ?_
                  refine lv_if_ge (tgt := 192) hx hb dX3_looks_147 (by decide) (fun c_147 => ?_) (fun c_147 => ?_)
                  · have c_147 : x8 ≤ x6 := (lg_cmp_ge _ _).mp c_147
                    have hm := it_t hm c_147
                    exact K_142 x10 (o2 hm) _ (lv_sub hl [0] rfl)
                  · have c_147 : ¬ (x8 ≤ x6) := fun h => c_147 ((lg_cmp_ge _ _).mpr h)
                    have hm := it_f hm c_147
                    refine lv_lload hx hb dX3_looks_150 (lv_at hl 2 rfl) ?_
                    refine lv_lload hx hb dX3_looks_152 (lv_at hl 1 rfl) ?_
                    refine lv_ladd hx hb dX3_looks_154 ?_
                    refine lv_ldc2 hx hb hown zw3 dX3_looks_155 ?_
                    refine lv_ldiv hx hb dX3_looks_158 (by decide) ?_
                    refine lv_topl (fun x11 e_x11 => ?_)
                    have hm := bnd_e hm e_x11
                    refine lv_lstore (lv' := [(11, .long x11), (10, .int x10), (8, .long x8), (6, .long x6), (0, .ref (md 0)), (1, .int p1)]) hx hb dX3_looks_159 hl (by decide) rfl (fun ls hl => ?_)
                    obtain ⟨x10_1, e_x10_1⟩ : ∃ y : Int32, y = x10 + 1 := ⟨_, rfl⟩
                    have hm := bnd_e hm e_x10_1
                    refine lv_iinc (v := x10_1) (lv' := [(10, .int x10_1), (11, .long x11), (8, .long x8), (6, .long x6), (0, .ref (md 0)), (1, .int p1)]) hx hb dX3_looks_161 hl (k := 1) rfl (by rw [e_x10_1]; rfl) (by decide) rfl (fun ls hl => ?_)
                    refine lv_aload_n hx hb dX3_looks_164 rfl (lv_at hl 4 rfl) ?_
                    refine va_get (D := (dC, dI)) (ci := 3) (v := .ref (md 1)) (C := RX3) (T := TX3) (N := 18) hx hb hts ziX3 hown hK hP 0 rfl rfl 3 (by decide) zw4 (fun _ h9 => h9) rfl dX3_looks_165 ?_
                    refine lv_lload hx hb dX3_looks_168 (lv_at hl 1 rfl) ?_
                    refine lv_l2i hx hb dX3_looks_170 rfl ?_
                    obtain ⟨c_171, hm⟩ := ck hm
                    refine va_iald hx hb hK hP 1 0 rfl rfl c_171 dX3_looks_171 ?_
                    refine lv_iload_n hx hb dX3_looks_172 rfl (lv_at hl 5 rfl) ?_
                    refine lv_icmp_ge (tgt := 185) hx hb dX3_looks_173 (by decide) (fun c_173 => ?_) (fun c_173 => ?_)
                    · have hm := it_t hm c_173
                      refine lv_lload hx hb dX3_looks_185 (lv_at hl 1 rfl) ?_
                      refine lv_lstore (lv' := [(8, .long x11), (10, .int x10_1), (11, .long x11), (6, .long x6), (0, .ref (md 0)), (1, .int p1)]) hx hb dX3_looks_187 hl (by decide) rfl (fun ls hl => ?_)
                      refine lv_goto (tgt := 142) hx hb dX3_looks_189 (by decide) ?_
                      exact ih_142 x10_1 x11 x6 hm _ (lv_sub hl [1, 0, 3, 4, 5] rfl)
                    · have hm := it_f hm c_173
                      refine lv_lload hx hb dX3_looks_176 (lv_at hl 1 rfl) ?_
                      refine lv_lconst (v := 1) hx hb dX3_looks_178 (by decide) ?_
                      refine lv_ladd hx hb dX3_looks_179 ?_
                      refine lv_topl (fun x6_1 e_x6_1 => ?_)
                      have hm := bnd_e hm e_x6_1
                      refine lv_lstore (lv' := [(6, .long x6_1), (10, .int x10_1), (11, .long x11), (8, .long x8), (0, .ref (md 0)), (1, .int p1)]) hx hb dX3_looks_180 hl (by decide) rfl (fun ls hl => ?_)
                      refine lv_goto (tgt := 189) hx hb dX3_looks_182 (by decide) ?_
                      refine lv_goto (tgt := 142) hx hb dX3_looks_189 (by decide) ?_
                      exact ih_142 x10_1 x8 x6_1 hm _ (lv_sub hl [1, 3, 0, 4, 5] rfl)
              exact L_142 F 0 y137 y104 hq_142 _ (lv_sub hl [0, 1, 2, 6, 7] rfl)
            refine lv_if_ge (tgt := 134) hx hb dX3_looks_119 (by decide) (fun c_119 => ?_) (fun c_119 => ?_)
            · have c_119 : (Int32.toInt64 r45) ≤ ((r39 + (Int32.toInt64 ybd)) + 1) := (lg_cmp_ge _ _).mp c_119
              refine lv_iload hx hb dX3_looks_134 (lv_at hl 1 rfl) ?_
              refine lv_i2l hx hb dX3_looks_136 rfl ?_
              have e9 : y137 = (Int32.toInt64 r45) := by rw [e_y137, if_pos c_119]
              rw [e9] at J_137
              exact J_137
            · have c_119 : ¬ ((Int32.toInt64 r45) ≤ ((r39 + (Int32.toInt64 ybd)) + 1)) := fun h => c_119 ((lg_cmp_ge _ _).mpr h)
              refine lv_lload_n hx hb dX3_looks_122 rfl (lv_at hl 2 rfl) ?_
              refine lv_aload_n hx hb dX3_looks_123 rfl (lv_at hl 4 rfl) ?_
              refine va_get (D := (dC, dI)) (ci := 3) (v := .int ybd) (C := RX3) (T := TX3) (N := 18) hx hb hts ziX3 hown hK hP 0 rfl rfl 1 (by decide) zw1 (fun _ h9 => h9) rfl dX3_looks_124 ?_
              refine lv_i2l hx hb dX3_looks_127 rfl ?_
              refine lv_ladd hx hb dX3_looks_128 ?_
              refine lv_lconst (v := 1) hx hb dX3_looks_129 (by decide) ?_
              refine lv_ladd hx hb dX3_looks_130 ?_
              refine lv_goto (tgt := 137) hx hb dX3_looks_131 (by decide) ?_
              have e9 : y137 = ((r39 + (Int32.toInt64 ybd)) + 1) := by rw [e_y137, if_neg c_119]
              rw [e9] at J_137
              exact J_137
          refine lv_if_ge (tgt := 101) hx hb dX3_looks_93 (by decide) (fun c_93 => ?_) (fun c_93 => ?_)
          · have c_93 : (Int32.toInt64 r45) ≤ y85 := (lg_cmp_ge _ _).mp c_93
            refine lv_iload hx hb dX3_looks_101 (lv_at hl 1 rfl) ?_
            refine lv_i2l hx hb dX3_looks_103 rfl ?_
            have e9 : y104 = (Int32.toInt64 r45) := by rw [e_y104, if_pos c_93]
            rw [e9] at J_104
            exact J_104
          · have c_93 : ¬ ((Int32.toInt64 r45) ≤ y85) := fun h => c_93 ((lg_cmp_ge _ _).mpr h)
            refine lv_lload hx hb dX3_looks_96 (lv_at hl 0 rfl) ?_
            refine lv_goto (tgt := 104) hx hb dX3_looks_98 (by decide) ?_
            have e9 : y104 = y85 := by rw [e_y104, if_neg c_93]
            rw [e9] at J_104
            exact J_104
        have hm := hq_85
        refine lv_if_le (tgt := 78) hx hb dX3_looks_65 (by decide) (fun c_65 => ?_) (fun c_65 => ?_)
        · have c_65 : (r39 - (Int32.toInt64 ybd)) ≤ (Int32.toInt64 (yst (Int32.toNatClampNeg r18))) := (lg_cmp_le _ _).mp c_65
          have hm := it_t hm c_65
          refine lv_aload_n hx hb dX3_looks_78 rfl (lv_at hl 3 rfl) ?_
          refine va_get (D := (dC, dI)) (ci := 3) (v := .ref (md 3)) (C := RX3) (T := TX3) (N := 18) hx hb hts ziX3 hown hK hP 0 rfl rfl 6 (by decide) zw2 (fun _ h9 => h9) rfl dX3_looks_79 ?_
          refine lv_iload_n hx hb dX3_looks_82 rfl (lv_at hl 2 rfl) ?_
          obtain ⟨c_83, hm⟩ := ck hm
          refine va_iald hx hb hK hP 3 0 rfl rfl c_83 dX3_looks_83 ?_
          refine lv_i2l hx hb dX3_looks_84 rfl ?_
          exact J_85 (Int32.toInt64 (yst (Int32.toNatClampNeg r18))) (o2 hm)
        · have c_65 : ¬ ((r39 - (Int32.toInt64 ybd)) ≤ (Int32.toInt64 (yst (Int32.toNatClampNeg r18)))) := fun h => c_65 ((lg_cmp_le _ _).mpr h)
          have hm := it_f hm c_65
          refine lv_lload_n hx hb dX3_looks_68 rfl (lv_at hl 1 rfl) ?_
          refine lv_aload_n hx hb dX3_looks_69 rfl (lv_at hl 3 rfl) ?_
          refine va_get (D := (dC, dI)) (ci := 3) (v := .int ybd) (C := RX3) (T := TX3) (N := 18) hx hb hts ziX3 hown hK hP 0 rfl rfl 1 (by decide) zw1 (fun _ h9 => h9) rfl dX3_looks_70 ?_
          refine lv_i2l hx hb dX3_looks_73 rfl ?_
          refine lv_lsub hx hb dX3_looks_74 ?_
          refine lv_goto (tgt := 85) hx hb dX3_looks_75 (by decide) ?_
          exact J_85 (r39 - (Int32.toInt64 ybd)) (o2 hm)
      · have hm := it_t hm c_31
        refine lv_iconst (v := 0) hx hb dX3_looks_34 (by decide) ?_
        cases o2 hm
        exact W.iret hx hb hr (fun t ht hW => ⟨⟨_, (), rfl, rfl, by rw [ht]; exact hP, va_K.moved hW.alike hK, hD⟩, hS.F ht⟩) hS.2.2 dX3_looks_35
  refine lv_if_eq (tgt := 12) hx hb dX3_looks_5 (by decide) (fun c_5 => ?_) (fun c_5 => ?_)
  · refine lv_iconst (v := 1) hx hb dX3_looks_12 (by decide) ?_
    have e9 : y13 = 1 := by rw [e_y13, if_pos c_5]
    rw [e9] at J_13
    exact J_13
  · refine lv_iconst (v := 0) hx hb dX3_looks_8 (by decide) ?_
    refine lv_goto (tgt := 13) hx hb dX3_looks_9 (by decide) ?_
    have e9 : y13 = 0 := by rw [e_y13, if_neg c_5]
    rw [e9] at J_13
    exact J_13
