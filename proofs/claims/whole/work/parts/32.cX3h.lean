set_option maxHeartbeats 4000000 in
set_option maxRecDepth 100000 in
theorem c_X3_mergesAll (l : Launch) (dC : Nat → ClassId) (dI : Nat → Nat → Nat) (cI : ClassId) (cZ : ClassId) (md : Nat → Nat) (yth : Int32) (ybd : Int32) (yro : Int32) (yrow : Nat → Int32) (ymk : Nat → Int32) (yrm : Int32) (yst : Nat → Int32) (ypc : Int32) (ybu : Nat → Int32) (ybn : Int32) (ymg : Int32) (ysp : Int32) (yjn : Int32) (ymd : Nat → Int32) (ybg : Nat → Int32) (ymm : Int32) (yup : Int64) (yun : Int64) (F : Nat) (sz : Nat) (u_yrow : Nat → Int32) (u_ymk : Nat → Int32) (u_yrm : Int32) (u_yst : Nat → Int32) (u_ypc : Int32) (u_ybn : Int32) (u_ymg : Int32) (u_ysp : Int32) (u_yjn : Int32) (u_ymd : Nat → Int32) (u_ybg : Nat → Int32) (u_ymm : Int32) (u_yup : Int64) (u_yun : Int64) (hm : X3_mergesAll F ybd yrow ymk yrm yst ypc ybu ybn ymg ysp yjn ymd ybg ymm yup yun = some (u_yrow, u_ymk, u_yrm, u_yst, u_ypc, u_ybn, u_ymg, u_ysp, u_yjn, u_ymd, u_ybg, u_ymm, u_yup, u_yun)) : Met l yX3_mergesAll wsX3_mergesAll ({ frames := 2, cells := 0, slots := 0, locals := 56 }) (va_Pc [.ref (md 0)] (zW (dC, dI) (wM cI cZ md yth ybd yro yrow ymk yrm yst ypc ybu ybn ymg ysp yjn ymd ybg ymm yup yun) [(cI, .int), (cZ, .boolean)] sz)) (zQv (dC, dI) (wM cI cZ md yth ybd yro u_yrow u_ymk u_yrm u_yst u_ypc ybu u_ybn u_ymg u_ysp u_yjn u_ymd u_ybg u_ymm u_yup u_yun) [(cI, .int), (cZ, .boolean)] (va_A (wM cI cZ md yth ybd yro yrow ymk yrm yst ypc ybu ybn ymg ysp yjn ymd ybg ymm yup yun) sz)) 0 0 (va_A (wM cI cZ md yth ybd yro yrow ymk yrm yst ypc ybu ybn ymg ysp yjn ymd ybg ymm yup yun) sz) := by
  refine Met.ofW (cc := cX3_mergesAll) (maxL := 6) (ret := none) (by decide) rfl ?_
  intro p e s m args below meth c s₁ B hml hv
  obtain ⟨rfl, hsz, hP, hK, hD0⟩ := hv
  have hx := B.exec
  have hb := B.bytes
  have hr := B.returns
  have hts := atoms_spec (ws := wsX3_mergesAll) B.pre
  have hown : s.vm.findClass RX3 = some m.cls := findClass_of_methodNamed B.named
  have hlocks := B.notSynchronized
  subst hsz
  have hD := hD0.self (sz := s.heap.size)
  generalize hAe : va_A (wM cI cZ md yth ybd yro yrow ymk yrm yst ypc ybu ybn ymg ysp yjn ymd ybg ymm yup yun) s.heap.size = A at hD ⊢
  have hA : ∀ q : Nat, s.heap.size ≤ q → A q := fun q h => by rw [← hAe]; exact Or.inr h
  have hS : va_S A s.heap s.heap [] := va_S.rf
  generalize eL : ([] : List Loc) = locs at hS ⊢
  obtain ⟨H, eH⟩ : ∃ z : Heap, z = s.heap := ⟨_, rfl⟩
  have hP : va_P (dC, dI) vwCl (wM cI cZ md yth ybd yro yrow ymk yrm yst ypc ybu ybn ymg ysp yjn ymd ybg ymm yup yun) H := by rw [eH]; exact hP
  have hS : va_S A s.heap H locs := by rw [eH]; exact hS
  refine z_heap eH ?_
  have hl := lv_entry ([.ref (md 0)]) (n := 6) (Nat.le_of_ble_eq_true rfl)
  rw [lg_entry_eq]
  generalize (lg_sl ([.ref (md 0)]) ++ List.replicate (6 - (lg_sl ([.ref (md 0)])).length) Slot.unset).toArray = ls at hl ⊢
  have hl : lv_has ls 6 [(0, .ref (md 0))] := hl
  have zw0 := hts (.fieldLink RX3 102 "LearnedLedgeModel" "madeMany" "I") (List.mem_cons_of_mem _ (List.mem_append_left _ (List.mem_append_left _ (List.mem_of_getElem? (i := 0) rfl))))
  have zw1 := hts (.fieldLink RX3 48 "LearnedLedgeModel" "pieces" "I") (List.mem_cons_of_mem _ (List.mem_append_left _ (List.mem_append_left _ (List.mem_of_getElem? (i := 1) rfl))))
  have zw2 := hts (.fieldLink RX3 33 "LearnedLedgeModel" "begun" "[I") (List.mem_cons_of_mem _ (List.mem_append_left _ (List.mem_append_left _ (List.mem_of_getElem? (i := 2) rfl))))
  have zw3 := hts (.fieldLink RX3 121 "LearnedLedgeModel" "splits" "I") (List.mem_cons_of_mem _ (List.mem_append_left _ (List.mem_append_left _ (List.mem_of_getElem? (i := 3) rfl))))
  have zw4 := hts (.fieldLink RX3 69 "LearnedLedgeModel" "buffered" "I") (List.mem_cons_of_mem _ (List.mem_append_left _ (List.mem_append_left _ (List.mem_of_getElem? (i := 4) rfl))))
  have zw5 := hts (.fieldLink RX3 27 "LearnedLedgeModel" "buffer" "[I") (List.mem_cons_of_mem _ (List.mem_append_left _ (List.mem_append_left _ (List.mem_of_getElem? (i := 5) rfl))))
  have zw6 := hts (.fieldLink RX3 130 "LearnedLedgeModel" "merges" "I") (List.mem_cons_of_mem _ (List.mem_append_left _ (List.mem_append_left _ (List.mem_of_getElem? (i := 6) rfl))))
  have ziX3 : ∀ w ∈ u_ws RX3 TX3 18, w ∈ wsX3_mergesAll := (fun _ h9 => (List.mem_cons_of_mem _ (List.mem_append_right _ h9)))
  refine lv_aload_n hx hb dX3_mergesAll_0 rfl (lv_at hl 0 rfl) ?_
  refine lv_iconst (v := 0) hx hb dX3_mergesAll_1 (by decide) ?_
  refine va_put (D := (dC, dI)) (ci := 3) (v := .int 0) (ty := .int) (C := RX3) (T := TX3) (N := 18) hx hb hts ziX3 tyX3 tyX3_ok nmX3 hown hK hP hD hS 0 rfl rfl 15 (by decide) zw0 (fun _ h9 => h9) rfl (by decide +kernel) rfl rfl (Nat.le_of_ble_eq_true rfl) dX3_mergesAll_2 (fun H locs hP hD hS => ?_)
  have hP : va_P (dC, dI) vwCl (wM cI cZ md yth ybd yro yrow ymk yrm yst ypc ybu ybn ymg ysp yjn ymd ybg 0 yup yun) H := hP
  have hD : va_D A (wM cI cZ md yth ybd yro yrow ymk yrm yst ypc ybu ybn ymg ysp yjn ymd ybg 0 yup yun) := hD
  refine lv_iconst (v := 0) hx hb dX3_mergesAll_5 (by decide) ?_
  refine lv_istore_n (lv' := [(1, .int 0), (0, .ref (md 0))]) hx hb dX3_mergesAll_6 rfl hl (by decide) rfl (fun ls hl => ?_)
  refine lv_iconst (v := 0) hx hb dX3_mergesAll_7 (by decide) ?_
  refine lv_istore_n (lv' := [(2, .int 0), (1, .int 0), (0, .ref (md 0))]) hx hb dX3_mergesAll_8 rfl hl (by decide) rfl (fun ls hl => ?_)
  obtain ⟨z_9, hq_9, hm⟩ := ob hm
  have K_9 : ∀ (x1_1 : Int32), ∀ (yspx9 : Int32), ∀ (ymdx9 : Nat → Int32), ∀ (ybgx9 : Nat → Int32), ∀ (ymmx9 : Int32), ∀ (yupx9 : Int64), ∀ (yunx9 : Int64), z_9 = (x1_1, yspx9, ymdx9, ybgx9, ymmx9, yupx9, yunx9) → ∀ (H : Heap) (locs : List Loc), va_P (dC, dI) vwCl (wM cI cZ md yth ybd yro yrow ymk yrm yst ypc ybu ybn ymg yspx9 yjn ymdx9 ybgx9 ymmx9 yupx9 yunx9) H → va_D A (wM cI cZ md yth ybd yro yrow ymk yrm yst ypc ybu ybn ymg yspx9 yjn ymdx9 ybgx9 ymmx9 yupx9 yunx9) → va_S A s.heap H locs → ∀ (ls : Array Slot), lv_has ls 6 [(1, .int x1_1), (0, .ref (md 0))] → W p l e (headSpec wsX3_mergesAll ({ frames := 2, cells := 0, slots := 0, locals := 56 } : Room)).room s m ([.ref (md 0)] : List Value).toArray below meth c H locs 0 0 (MQ below (zQv (dC, dI) (wM cI cZ md yth ybd yro u_yrow u_ymk u_yrm u_yst u_ypc ybu u_ybn u_ymg u_ysp u_yjn u_ymd u_ybg u_ymm u_yup u_yun) [(cI, .int), (cZ, .boolean)] A) ([.ref (md 0)] : List Value).toArray s 0 0 A) (F0 m 94 ls []) := by
    intro x1_1 yspx9 ymdx9 ybgx9 ymmx9 yupx9 yunx9 ez H locs hP hD hS ls hl
    rw [ez] at hm
    refine lv_aload_n hx hb dX3_mergesAll_94 rfl (lv_at hl 1 rfl) ?_
    refine va_get (D := (dC, dI)) (ci := 3) (v := .int ypc) (C := RX3) (T := TX3) (N := 18) hx hb hts ziX3 hown hK hP 0 rfl rfl 7 (by decide) zw1 (fun _ h9 => h9) rfl dX3_mergesAll_95 ?_
    obtain ⟨z_153, hq_153, hm⟩ := ob hm
    have J_153 : ∀ (x1_2 : Int32), ∀ (yspj153 : Int32), ∀ (ymdj153 : Nat → Int32), ∀ (ybgj153 : Nat → Int32), ∀ (ymmj153 : Int32), ∀ (yupj153 : Int64), ∀ (yunj153 : Int64), z_153 = (x1_2, yspj153, ymdj153, ybgj153, ymmj153, yupj153, yunj153) → ∀ (H : Heap) (locs : List Loc), va_P (dC, dI) vwCl (wM cI cZ md yth ybd yro yrow ymk yrm yst ypc ybu ybn ymg yspj153 yjn ymdj153 ybgj153 ymmj153 yupj153 yunj153) H → va_D A (wM cI cZ md yth ybd yro yrow ymk yrm yst ypc ybu ybn ymg yspj153 yjn ymdj153 ybgj153 ymmj153 yupj153 yunj153) → va_S A s.heap H locs → ∀ (ls : Array Slot), lv_has ls 6 [(1, .int x1_2), (0, .ref (md 0))] → W p l e (headSpec wsX3_mergesAll ({ frames := 2, cells := 0, slots := 0, locals := 56 } : Room)).room s m ([.ref (md 0)] : List Value).toArray below meth c H locs 0 0 (MQ below (zQv (dC, dI) (wM cI cZ md yth ybd yro u_yrow u_ymk u_yrm u_yst u_ypc ybu u_ybn u_ymg u_ysp u_yjn u_ymd u_ybg u_ymm u_yup u_yun) [(cI, .int), (cZ, .boolean)] A) ([.ref (md 0)] : List Value).toArray s 0 0 A) (F0 m 153 ls []) := by
      intro x1_2 yspj153 ymdj153 ybgj153 ymmj153 yupj153 yunj153 ez H locs hP hD hS ls hl
      rw [ez] at hm
      refine lv_aload_n hx hb dX3_mergesAll_153 rfl (lv_at hl 1 rfl) ?_
      refine lv_iload_n hx hb dX3_mergesAll_154 rfl (lv_at hl 0 rfl) ?_
      obtain ⟨⟨yrow155, ymk155, yrm155, yst155, ypc155, ybn155⟩, h_155, hm⟩ := ob hm
      refine z_callWv (wc := (wM cI cZ md yth ybd yro yrow ymk yrm yst ypc ybu ybn ymg yspj153 yjn ymdj153 ybgj153 ymmj153 yupj153 yunj153)) (w1 := (wM cI cZ md yth ybd yro yrow155 ymk155 yrm155 yst155 ypc155 ybu ybn155 ymg yspj153 yjn ymdj153 ybgj153 ymmj153 yupj153 yunj153)) (ws := (wM cI cZ md yth ybd yro yrow ymk yrm yst ypc ybu ybn ymg yspj153 yjn ymdj153 ybgj153 ymmj153 yupj153 yunj153)) (ws' := (wM cI cZ md yth ybd yro yrow155 ymk155 yrm155 yst155 ypc155 ybu ybn155 ymg yspj153 yjn ymdj153 ybgj153 ymmj153 yupj153 yunj153)) (As := [.int x1_2]) (rest := []) (ci := 3) (q := (RX3, TX3, 18)) ⟨hx, hb, hml, hown, hts⟩ (c_X3_becomes l dC dI cI cZ md yth ybd yro yrow ymk yrm yst ypc ybu ybn ymg yspj153 yjn ymdj153 ybgj153 ymmj153 yupj153 yunj153 F x1_2 H.size yrow155 ymk155 yrm155 yst155 ypc155 ybn155 h_155) (cwV 1 hts gX3_mergesAll_X3_becomes rfl rfl rfl kv_X3_becomes ⟨Nat.le_of_ble_eq_true rfl, Nat.le_of_ble_eq_true rfl⟩) hK hP hD hS hA (z_spAll (wM cI cZ md yth ybd yro yrow ymk yrm yst ypc ybu ybn ymg yspj153 yjn ymdj153 ybgj153 ymmj153 yupj153 yunj153) (wM cI cZ md yth ybd yro yrow155 ymk155 yrm155 yst155 ypc155 ybu ybn155 ymg yspj153 yjn ymdj153 ybgj153 ymmj153 yupj153 yunj153)) ((paM cI cZ md yth ybd yro yrow155 ymk155 yrm155 yst155 ypc155 ybu ybn155 ymg yspj153 yjn ymdj153 ybgj153 ymmj153 yupj153 yunj153).trans (paM cI cZ md yth ybd yro yrow ymk yrm yst ypc ybu ybn ymg yspj153 yjn ymdj153 ybgj153 ymmj153 yupj153 yunj153).symm) rfl rfl rfl rfl hl.1 rfl (Nat.le_of_ble_eq_true rfl) dX3_mergesAll_155 ⟨Nat.zero_le _, Nat.zero_le _⟩ (fun H locs hP hD hS => ?_)
      refine lv_aload_n hx hb dX3_mergesAll_158 rfl (lv_at hl 1 rfl) ?_
      obtain ⟨⟨yst159, ypc159, yjn159, yup159, yun159⟩, h_159, hm⟩ := ob hm
      refine z_callWv (wc := (wM cI cZ md yth ybd yro yrow155 ymk155 yrm155 yst155 ypc155 ybu ybn155 ymg yspj153 yjn ymdj153 ybgj153 ymmj153 yupj153 yunj153)) (w1 := (wM cI cZ md yth ybd yro yrow155 ymk155 yrm155 yst159 ypc159 ybu ybn155 ymg yspj153 yjn159 ymdj153 ybgj153 ymmj153 yup159 yun159)) (ws := (wM cI cZ md yth ybd yro yrow155 ymk155 yrm155 yst155 ypc155 ybu ybn155 ymg yspj153 yjn ymdj153 ybgj153 ymmj153 yupj153 yunj153)) (ws' := (wM cI cZ md yth ybd yro yrow155 ymk155 yrm155 yst159 ypc159 ybu ybn155 ymg yspj153 yjn159 ymdj153 ybgj153 ymmj153 yup159 yun159)) (As := []) (rest := []) (ci := 3) (q := (RX3, TX3, 18)) ⟨hx, hb, hml, hown, hts⟩ (c_X3_joinsPieces l dC dI cI cZ md yth ybd yro yrow155 ymk155 yrm155 yst155 ypc155 ybu ybn155 ymg yspj153 yjn ymdj153 ybgj153 ymmj153 yupj153 yunj153 F H.size yst159 ypc159 yjn159 yup159 yun159 h_159) (cwV 0 hts gX3_mergesAll_X3_joinsPieces rfl rfl rfl kv_X3_joinsPieces ⟨Nat.le_of_ble_eq_true rfl, Nat.le_of_ble_eq_true rfl⟩) hK hP hD hS hA (z_spAll (wM cI cZ md yth ybd yro yrow155 ymk155 yrm155 yst155 ypc155 ybu ybn155 ymg yspj153 yjn ymdj153 ybgj153 ymmj153 yupj153 yunj153) (wM cI cZ md yth ybd yro yrow155 ymk155 yrm155 yst159 ypc159 ybu ybn155 ymg yspj153 yjn159 ymdj153 ybgj153 ymmj153 yup159 yun159)) ((paM cI cZ md yth ybd yro yrow155 ymk155 yrm155 yst159 ypc159 ybu ybn155 ymg yspj153 yjn159 ymdj153 ybgj153 ymmj153 yup159 yun159).trans (paM cI cZ md yth ybd yro yrow155 ymk155 yrm155 yst155 ypc155 ybu ybn155 ymg yspj153 yjn ymdj153 ybgj153 ymmj153 yupj153 yunj153).symm) rfl rfl rfl rfl hl.1 rfl (Nat.le_of_ble_eq_true rfl) dX3_mergesAll_159 ⟨Nat.zero_le _, Nat.zero_le _⟩ (fun H locs hP hD hS => ?_)
      refine lv_aload_n hx hb dX3_mergesAll_162 rfl (lv_at hl 1 rfl) ?_
      refine lv_dup hx hb dX3_mergesAll_163 rfl ?_
      refine va_get (D := (dC, dI)) (ci := 3) (v := .int ymg) (C := RX3) (T := TX3) (N := 18) hx hb hts ziX3 hown hK hP 0 rfl rfl 10 (by decide) zw6 (fun _ h9 => h9) rfl dX3_mergesAll_164 ?_
      refine lv_iconst (v := 1) hx hb dX3_mergesAll_167 (by decide) ?_
      refine lv_iadd hx hb dX3_mergesAll_168 ?_
      refine va_put (D := (dC, dI)) (ci := 3) (v := .int (ymg + 1)) (ty := .int) (C := RX3) (T := TX3) (N := 18) hx hb hts ziX3 tyX3 tyX3_ok nmX3 hown hK hP hD hS 0 rfl rfl 10 (by decide) zw6 (fun _ h9 => h9) rfl (by decide +kernel) rfl rfl (Nat.le_of_ble_eq_true rfl) dX3_mergesAll_169 (fun H locs hP hD hS => ?_)
      have hP : va_P (dC, dI) vwCl (wM cI cZ md yth ybd yro yrow155 ymk155 yrm155 yst159 ypc159 ybu ybn155 (ymg + 1) yspj153 yjn159 ymdj153 ybgj153 ymmj153 yup159 yun159) H := hP
      have hD : va_D A (wM cI cZ md yth ybd yro yrow155 ymk155 yrm155 yst159 ypc159 ybu ybn155 (ymg + 1) yspj153 yjn159 ymdj153 ybgj153 ymmj153 yup159 yun159) := hD
      cases o2 hm
      exact W.vret hx hb hr (fun t ht hW => ⟨⟨(), rfl, trivial, by rw [ht]; exact hP, va_K.moved hW.alike hK, hD⟩, hS.F ht⟩) hS.2.2 dX3_mergesAll_172
    have hm := hq_153
    refine lv_if_ne (tgt := 153) hx hb dX3_mergesAll_98 (by decide) (fun c_98 => ?_) (fun c_98 => ?_)
    · have hm := it_f hm c_98
      exact J_153 x1_1 yspx9 ymdx9 ybgx9 ymmx9 yupx9 yunx9 (o2 hm) _ _ hP hD hS _ (lv_sub hl [0, 1] rfl)
    · have hm := it_t hm c_98
      refine lv_aload_n hx hb dX3_mergesAll_101 rfl (lv_at hl 1 rfl) ?_
      refine va_get (D := (dC, dI)) (ci := 3) (v := .int ybn) (C := RX3) (T := TX3) (N := 18) hx hb hts ziX3 hown hK hP 0 rfl rfl 9 (by decide) zw4 (fun _ h9 => h9) rfl dX3_mergesAll_102 ?_
      refine lv_if_le (tgt := 153) hx hb dX3_mergesAll_105 (by decide) (fun c_105 => ?_) (fun c_105 => ?_)
      · have hm := it_t hm c_105
        exact J_153 x1_1 yspx9 ymdx9 ybgx9 ymmx9 yupx9 yunx9 (o2 hm) _ _ hP hD hS _ (lv_sub hl [0, 1] rfl)
      · have hm := it_f hm c_105
        refine lv_iconst (v := 0) hx hb dX3_mergesAll_108 (by decide) ?_
        refine lv_istore_n (lv' := [(2, .int 0), (1, .int x1_1), (0, .ref (md 0))]) hx hb dX3_mergesAll_109 rfl hl (by decide) rfl (fun ls hl => ?_)
        obtain ⟨z_110, hq_110, hm⟩ := ob hm
        have K_110 : ∀ (ymdx110 : Nat → Int32), ∀ (ymmx110 : Int32), z_110 = (ymdx110, ymmx110) → ∀ (H : Heap) (locs : List Loc), va_P (dC, dI) vwCl (wM cI cZ md yth ybd yro yrow ymk yrm yst ypc ybu ybn ymg yspx9 yjn ymdx110 ybgx9 ymmx110 yupx9 yunx9) H → va_D A (wM cI cZ md yth ybd yro yrow ymk yrm yst ypc ybu ybn ymg yspx9 yjn ymdx110 ybgx9 ymmx110 yupx9 yunx9) → va_S A s.heap H locs → ∀ (ls : Array Slot), lv_has ls 6 [(0, .ref (md 0))] → W p l e (headSpec wsX3_mergesAll ({ frames := 2, cells := 0, slots := 0, locals := 56 } : Room)).room s m ([.ref (md 0)] : List Value).toArray below meth c H locs 0 0 (MQ below (zQv (dC, dI) (wM cI cZ md yth ybd yro u_yrow u_ymk u_yrm u_yst u_ypc ybu u_ybn u_ymg u_ysp u_yjn u_ymd u_ybg u_ymm u_yup u_yun) [(cI, .int), (cZ, .boolean)] A) ([.ref (md 0)] : List Value).toArray s 0 0 A) (F0 m 134 ls []) := by
          intro ymdx110 ymmx110 ez H locs hP hD hS ls hl
          rw [ez] at hm
          refine lv_aload_n hx hb dX3_mergesAll_134 rfl (lv_at hl 0 rfl) ?_
          refine lv_iconst (v := 0) hx hb dX3_mergesAll_135 (by decide) ?_
          refine lv_iconst (v := 0) hx hb dX3_mergesAll_136 (by decide) ?_
          obtain ⟨⟨r137, ybg137, yup137, yun137⟩, h_137, hm⟩ := ob hm
          refine z_callWi (wc := (wM cI cZ md yth ybd yro yrow ymk yrm yst ypc ybu ybn ymg yspx9 yjn ymdx110 ybgx9 ymmx110 yupx9 yunx9)) (w1 := (wM cI cZ md yth ybd yro yrow ymk yrm yst ypc ybu ybn ymg yspx9 yjn ymdx110 ybg137 ymmx110 yup137 yun137)) (ws := (wM cI cZ md yth ybd yro yrow ymk yrm yst ypc ybu ybn ymg yspx9 yjn ymdx110 ybgx9 ymmx110 yupx9 yunx9)) (ws' := (wM cI cZ md yth ybd yro yrow ymk yrm yst ypc ybu ybn ymg yspx9 yjn ymdx110 ybg137 ymmx110 yup137 yun137)) (As := [.int 0, .int 0]) (rest := []) (ci := 3) (q := (RX3, TX3, 18)) ⟨hx, hb, hml, hown, hts⟩ (c_X3_cuts l dC dI cI cZ md yth ybd yro yrow ymk yrm yst ypc ybu ybn ymg yspx9 yjn ymdx110 ybgx9 ymmx110 yupx9 yunx9 F 0 0 H.size r137 ybg137 yup137 yun137 h_137) (cwV 2 hts gX3_mergesAll_X3_cuts rfl rfl rfl kv_X3_cuts ⟨Nat.le_of_ble_eq_true rfl, Nat.le_of_ble_eq_true rfl⟩) hK hP hD hS hA (z_spAll (wM cI cZ md yth ybd yro yrow ymk yrm yst ypc ybu ybn ymg yspx9 yjn ymdx110 ybgx9 ymmx110 yupx9 yunx9) (wM cI cZ md yth ybd yro yrow ymk yrm yst ypc ybu ybn ymg yspx9 yjn ymdx110 ybg137 ymmx110 yup137 yun137)) ((paM cI cZ md yth ybd yro yrow ymk yrm yst ypc ybu ybn ymg yspx9 yjn ymdx110 ybg137 ymmx110 yup137 yun137).trans (paM cI cZ md yth ybd yro yrow ymk yrm yst ypc ybu ybn ymg yspx9 yjn ymdx110 ybgx9 ymmx110 yupx9 yunx9).symm) rfl rfl rfl rfl hl.1 rfl (Nat.le_of_ble_eq_true rfl) dX3_mergesAll_137 ⟨Nat.zero_le _, Nat.zero_le _⟩ (fun H locs hP hD hS => ?_)
          refine lv_istore_n (lv' := [(1, .int r137), (0, .ref (md 0))]) hx hb dX3_mergesAll_140 rfl hl (by decide) rfl (fun ls hl => ?_)
          refine lv_aload_n hx hb dX3_mergesAll_141 rfl (lv_at hl 1 rfl) ?_
          refine lv_dup hx hb dX3_mergesAll_142 rfl ?_
          refine va_get (D := (dC, dI)) (ci := 3) (v := .int yspx9) (C := RX3) (T := TX3) (N := 18) hx hb hts ziX3 hown hK hP 0 rfl rfl 11 (by decide) zw3 (fun _ h9 => h9) rfl dX3_mergesAll_143 ?_
          refine lv_iload_n hx hb dX3_mergesAll_146 rfl (lv_at hl 0 rfl) ?_
          refine lv_iconst (v := 1) hx hb dX3_mergesAll_147 (by decide) ?_
          refine lv_isub hx hb dX3_mergesAll_148 ?_
          refine lv_iadd hx hb dX3_mergesAll_149 ?_
          refine va_put (D := (dC, dI)) (ci := 3) (v := .int (yspx9 + (r137 - 1))) (ty := .int) (C := RX3) (T := TX3) (N := 18) hx hb hts ziX3 tyX3 tyX3_ok nmX3 hown hK hP hD hS 0 rfl rfl 11 (by decide) zw3 (fun _ h9 => h9) rfl (by decide +kernel) rfl rfl (Nat.le_of_ble_eq_true rfl) dX3_mergesAll_150 (fun H locs hP hD hS => ?_)
          have hP : va_P (dC, dI) vwCl (wM cI cZ md yth ybd yro yrow ymk yrm yst ypc ybu ybn ymg (yspx9 + (r137 - 1)) yjn ymdx110 ybg137 ymmx110 yup137 yun137) H := hP
          have hD : va_D A (wM cI cZ md yth ybd yro yrow ymk yrm yst ypc ybu ybn ymg (yspx9 + (r137 - 1)) yjn ymdx110 ybg137 ymmx110 yup137 yun137) := hD
          exact J_153 r137 (yspx9 + (r137 - 1)) ymdx110 ybg137 ymmx110 yup137 yun137 (o2 hm) _ _ hP hD hS _ (lv_sub hl [0, 1] rfl)
        have L_110 : ∀ (n : Nat) (x2_2 : Int32) (ymdl110 : Nat → Int32) (ymml110 : Int32), X3_mergesAll_L110 ybu ybn F n x2_2 ymdl110 ymml110 = some z_110 → ∀ (H : Heap) (locs : List Loc), va_P (dC, dI) vwCl (wM cI cZ md yth ybd yro yrow ymk yrm yst ypc ybu ybn ymg yspx9 yjn ymdl110 ybgx9 ymml110 yupx9 yunx9) H → va_D A (wM cI cZ md yth ybd yro yrow ymk yrm yst ypc ybu ybn ymg yspx9 yjn ymdl110 ybgx9 ymml110 yupx9 yunx9) → va_S A s.heap H locs → ∀ (ls : Array Slot), lv_has ls 6 [(2, .int x2_2), (0, .ref (md 0))] → W p l e (headSpec wsX3_mergesAll ({ frames := 2, cells := 0, slots := 0, locals := 56 } : Room)).room s m ([.ref (md 0)] : List Value).toArray below meth c H locs 0 0 (MQ below (zQv (dC, dI) (wM cI cZ md yth ybd yro u_yrow u_ymk u_yrm u_yst u_ypc ybu u_ybn u_ymg u_ysp u_yjn u_ymd u_ybg u_ymm u_yup u_yun) [(cI, .int), (cZ, .boolean)] A) ([.ref (md 0)] : List Value).toArray s 0 0 A) (F0 m 110 ls []) := by
          intro n
          induction n with
          | zero => intro x2_2 ymdl110 ymml110 hm; cases hm
          | succ n ih_110 =>
            intro x2_2 ymdl110 ymml110 hm H locs hP hD hS ls hl
            refine lv_iload_n hx hb dX3_mergesAll_110 rfl (lv_at hl 0 rfl) ?_
            refine lv_aload_n hx hb dX3_mergesAll_111 rfl (lv_at hl 1 rfl) ?_
            refine va_get (D := (dC, dI)) (ci := 3) (v := .int ybn) (C := RX3) (T := TX3) (N := 18) hx hb hts ziX3 hown hK hP 0 rfl rfl 9 (by decide) zw4 (fun _ h9 => h9) rfl dX3_mergesAll_112 ?_
            refine lv_icmp_ge (tgt := 134) hx hb dX3_mergesAll_115 (by decide) (fun c_115 => ?_) (fun c_115 => ?_)
            · have hm := it_t hm c_115
              exact K_110 ymdl110 ymml110 (o2 hm) _ _ hP hD hS _ (lv_sub hl [1] rfl)
            · have hm := it_f hm c_115
              refine lv_aload_n hx hb dX3_mergesAll_118 rfl (lv_at hl 1 rfl) ?_
              refine lv_aload_n hx hb dX3_mergesAll_119 rfl (lv_at hl 1 rfl) ?_
              refine va_get (D := (dC, dI)) (ci := 3) (v := .ref (md 4)) (C := RX3) (T := TX3) (N := 18) hx hb hts ziX3 hown hK hP 0 rfl rfl 8 (by decide) zw5 (fun _ h9 => h9) rfl dX3_mergesAll_120 ?_
              refine lv_iload_n hx hb dX3_mergesAll_123 rfl (lv_at hl 0 rfl) ?_
              obtain ⟨c_124, hm⟩ := ck hm
              refine va_iald hx hb hK hP 4 0 rfl rfl c_124 dX3_mergesAll_124 ?_
              obtain ⟨⟨ymd125, ymm125⟩, h_125, hm⟩ := ob hm
              refine z_callWv (wc := (wM cI cZ md yth ybd yro yrow ymk yrm yst ypc ybu ybn ymg yspx9 yjn ymdl110 ybgx9 ymml110 yupx9 yunx9)) (w1 := (wM cI cZ md yth ybd yro yrow ymk yrm yst ypc ybu ybn ymg yspx9 yjn ymd125 ybgx9 ymm125 yupx9 yunx9)) (ws := (wM cI cZ md yth ybd yro yrow ymk yrm yst ypc ybu ybn ymg yspx9 yjn ymdl110 ybgx9 ymml110 yupx9 yunx9)) (ws' := (wM cI cZ md yth ybd yro yrow ymk yrm yst ypc ybu ybn ymg yspx9 yjn ymd125 ybgx9 ymm125 yupx9 yunx9)) (As := [.int (ybu (Int32.toNatClampNeg x2_2))]) (rest := []) (ci := 3) (q := (RX3, TX3, 18)) ⟨hx, hb, hml, hown, hts⟩ (c_X3_makes l dC dI cI cZ md yth ybd yro yrow ymk yrm yst ypc ybu ybn ymg yspx9 yjn ymdl110 ybgx9 ymml110 yupx9 yunx9 F (ybu (Int32.toNatClampNeg x2_2)) H.size ymd125 ymm125 h_125) (cwV 1 hts gX3_mergesAll_X3_makes rfl rfl rfl kv_X3_makes ⟨Nat.le_of_ble_eq_true rfl, Nat.le_of_ble_eq_true rfl⟩) hK hP hD hS hA (z_spAll (wM cI cZ md yth ybd yro yrow ymk yrm yst ypc ybu ybn ymg yspx9 yjn ymdl110 ybgx9 ymml110 yupx9 yunx9) (wM cI cZ md yth ybd yro yrow ymk yrm yst ypc ybu ybn ymg yspx9 yjn ymd125 ybgx9 ymm125 yupx9 yunx9)) ((paM cI cZ md yth ybd yro yrow ymk yrm yst ypc ybu ybn ymg yspx9 yjn ymd125 ybgx9 ymm125 yupx9 yunx9).trans (paM cI cZ md yth ybd yro yrow ymk yrm yst ypc ybu ybn ymg yspx9 yjn ymdl110 ybgx9 ymml110 yupx9 yunx9).symm) rfl rfl rfl rfl hl.1 rfl (Nat.le_of_ble_eq_true rfl) dX3_mergesAll_125 ⟨Nat.zero_le _, Nat.zero_le _⟩ (fun H locs hP hD hS => ?_)
              obtain ⟨x2_3, e_x2_3⟩ : ∃ y : Int32, y = x2_2 + 1 := ⟨_, rfl⟩
              have hm := bnd_e hm e_x2_3
              refine lv_iinc (v := x2_3) (lv' := [(2, .int x2_3), (0, .ref (md 0))]) hx hb dX3_mergesAll_128 hl (k := 0) rfl (by rw [e_x2_3]; rfl) (by decide) rfl (fun ls hl => ?_)
              refine lv_goto (tgt := 110) hx hb dX3_mergesAll_131 (by decide) ?_
              exact ih_110 x2_3 ymd125 ymm125 hm _ _ hP hD hS _ (lv_sub hl [0, 1] rfl)
        exact L_110 F 0 ymdx9 ymmx9 hq_110 _ _ hP hD hS _ (lv_sub hl [0, 2] rfl)
  have L_9 : ∀ (n : Nat) (x2 : Int32) (x1 : Int32) (yspl9 : Int32) (ymdl9 : Nat → Int32) (ybgl9 : Nat → Int32) (ymml9 : Int32) (yupl9 : Int64) (yunl9 : Int64), X3_mergesAll_L9 ybd yrow ymk yrm yst ypc ybu ybn F n x2 x1 yspl9 ymdl9 ybgl9 ymml9 yupl9 yunl9 = some z_9 → ∀ (H : Heap) (locs : List Loc), va_P (dC, dI) vwCl (wM cI cZ md yth ybd yro yrow ymk yrm yst ypc ybu ybn ymg yspl9 yjn ymdl9 ybgl9 ymml9 yupl9 yunl9) H → va_D A (wM cI cZ md yth ybd yro yrow ymk yrm yst ypc ybu ybn ymg yspl9 yjn ymdl9 ybgl9 ymml9 yupl9 yunl9) → va_S A s.heap H locs → ∀ (ls : Array Slot), lv_has ls 6 [(2, .int x2), (1, .int x1), (0, .ref (md 0))] → W p l e (headSpec wsX3_mergesAll ({ frames := 2, cells := 0, slots := 0, locals := 56 } : Room)).room s m ([.ref (md 0)] : List Value).toArray below meth c H locs 0 0 (MQ below (zQv (dC, dI) (wM cI cZ md yth ybd yro u_yrow u_ymk u_yrm u_yst u_ypc ybu u_ybn u_ymg u_ysp u_yjn u_ymd u_ybg u_ymm u_yup u_yun) [(cI, .int), (cZ, .boolean)] A) ([.ref (md 0)] : List Value).toArray s 0 0 A) (F0 m 9 ls []) := by
    intro n
    induction n with
    | zero => intro x2 x1 yspl9 ymdl9 ybgl9 ymml9 yupl9 yunl9 hm; cases hm
    | succ n ih_9 =>
      intro x2 x1 yspl9 ymdl9 ybgl9 ymml9 yupl9 yunl9 hm H locs hP hD hS ls hl
      refine lv_iload_n hx hb dX3_mergesAll_9 rfl (lv_at hl 0 rfl) ?_
      refine lv_aload_n hx hb dX3_mergesAll_10 rfl (lv_at hl 2 rfl) ?_
      refine va_get (D := (dC, dI)) (ci := 3) (v := .int ypc) (C := RX3) (T := TX3) (N := 18) hx hb hts ziX3 hown hK hP 0 rfl rfl 7 (by decide) zw1 (fun _ h9 => h9) rfl dX3_mergesAll_11 ?_
      refine lv_icmp_ge (tgt := 94) hx hb dX3_mergesAll_14 (by decide) (fun c_14 => ?_) (fun c_14 => ?_)
      · have hm := it_t hm c_14
        exact K_9 x1 yspl9 ymdl9 ybgl9 ymml9 yupl9 yunl9 (o2 hm) _ _ hP hD hS _ (lv_sub hl [1, 2] rfl)
      · have hm := it_f hm c_14
        refine lv_aload_n hx hb dX3_mergesAll_17 rfl (lv_at hl 2 rfl) ?_
        refine va_get (D := (dC, dI)) (ci := 3) (v := .int ymml9) (C := RX3) (T := TX3) (N := 18) hx hb hts ziX3 hown hK hP 0 rfl rfl 15 (by decide) zw0 (fun _ h9 => h9) rfl dX3_mergesAll_18 ?_
        refine lv_istore_n (lv' := [(3, .int ymml9), (2, .int x2), (1, .int x1), (0, .ref (md 0))]) hx hb dX3_mergesAll_21 rfl hl (by decide) rfl (fun ls hl => ?_)
        refine lv_aload_n hx hb dX3_mergesAll_22 rfl (lv_at hl 3 rfl) ?_
        refine lv_iload_n hx hb dX3_mergesAll_23 rfl (lv_at hl 1 rfl) ?_
        obtain ⟨⟨r24, ymd24, ymm24⟩, h_24, hm⟩ := ob hm
        refine z_callWi (wc := (wM cI cZ md yth ybd yro yrow ymk yrm yst ypc ybu ybn ymg yspl9 yjn ymdl9 ybgl9 ymml9 yupl9 yunl9)) (w1 := (wM cI cZ md yth ybd yro yrow ymk yrm yst ypc ybu ybn ymg yspl9 yjn ymd24 ybgl9 ymm24 yupl9 yunl9)) (ws := (wM cI cZ md yth ybd yro yrow ymk yrm yst ypc ybu ybn ymg yspl9 yjn ymdl9 ybgl9 ymml9 yupl9 yunl9)) (ws' := (wM cI cZ md yth ybd yro yrow ymk yrm yst ypc ybu ybn ymg yspl9 yjn ymd24 ybgl9 ymm24 yupl9 yunl9)) (As := [.int x2]) (rest := []) (ci := 3) (q := (RX3, TX3, 18)) ⟨hx, hb, hml, hown, hts⟩ (c_X3_gathers l dC dI cI cZ md yth ybd yro yrow ymk yrm yst ypc ybu ybn ymg yspl9 yjn ymdl9 ybgl9 ymml9 yupl9 yunl9 F x2 H.size r24 ymd24 ymm24 h_24) (cwV 1 hts gX3_mergesAll_X3_gathers rfl rfl rfl kv_X3_gathers ⟨Nat.le_of_ble_eq_true rfl, Nat.le_of_ble_eq_true rfl⟩) hK hP hD hS hA (z_spAll (wM cI cZ md yth ybd yro yrow ymk yrm yst ypc ybu ybn ymg yspl9 yjn ymdl9 ybgl9 ymml9 yupl9 yunl9) (wM cI cZ md yth ybd yro yrow ymk yrm yst ypc ybu ybn ymg yspl9 yjn ymd24 ybgl9 ymm24 yupl9 yunl9)) ((paM cI cZ md yth ybd yro yrow ymk yrm yst ypc ybu ybn ymg yspl9 yjn ymd24 ybgl9 ymm24 yupl9 yunl9).trans (paM cI cZ md yth ybd yro yrow ymk yrm yst ypc ybu ybn ymg yspl9 yjn ymdl9 ybgl9 ymml9 yupl9 yunl9).symm) rfl rfl rfl rfl hl.1 rfl (Nat.le_of_ble_eq_true rfl) dX3_mergesAll_24 ⟨Nat.zero_le _, Nat.zero_le _⟩ (fun H locs hP hD hS => ?_)
        refine lv_istore (lv' := [(4, .int r24), (3, .int ymml9), (2, .int x2), (1, .int x1), (0, .ref (md 0))]) hx hb dX3_mergesAll_27 hl (by decide) rfl (fun ls hl => ?_)
        refine lv_iload_n hx hb dX3_mergesAll_29 rfl (lv_at hl 3 rfl) ?_
        refine lv_istore (lv' := [(5, .int x1), (4, .int r24), (3, .int ymml9), (2, .int x2), (1, .int x1), (0, .ref (md 0))]) hx hb dX3_mergesAll_30 hl (by decide) rfl (fun ls hl => ?_)
        refine lv_iload hx hb dX3_mergesAll_32 (lv_at hl 1 rfl) ?_
        obtain ⟨z_60, hq_60, hm⟩ := ob hm
        have J_60 : ∀ (x5_1 : Int32), ∀ (ybgj60 : Nat → Int32), ∀ (yupj60 : Int64), ∀ (yunj60 : Int64), z_60 = (x5_1, ybgj60, yupj60, yunj60) → ∀ (H : Heap) (locs : List Loc), va_P (dC, dI) vwCl (wM cI cZ md yth ybd yro yrow ymk yrm yst ypc ybu ybn ymg yspl9 yjn ymd24 ybgj60 ymm24 yupj60 yunj60) H → va_D A (wM cI cZ md yth ybd yro yrow ymk yrm yst ypc ybu ybn ymg yspl9 yjn ymd24 ybgj60 ymm24 yupj60 yunj60) → va_S A s.heap H locs → ∀ (ls : Array Slot), lv_has ls 6 [(5, .int x5_1), (2, .int x2), (1, .int x1), (0, .ref (md 0))] → W p l e (headSpec wsX3_mergesAll ({ frames := 2, cells := 0, slots := 0, locals := 56 } : Room)).room s m ([.ref (md 0)] : List Value).toArray below meth c H locs 0 0 (MQ below (zQv (dC, dI) (wM cI cZ md yth ybd yro u_yrow u_ymk u_yrm u_yst u_ypc ybu u_ybn u_ymg u_ysp u_yjn u_ymd u_ybg u_ymm u_yup u_yun) [(cI, .int), (cZ, .boolean)] A) ([.ref (md 0)] : List Value).toArray s 0 0 A) (F0 m 60 ls []) := by
          intro x5_1 ybgj60 yupj60 yunj60 ez H locs hP hD hS ls hl
          rw [ez] at hm
          refine lv_aload_n hx hb dX3_mergesAll_60 rfl (lv_at hl 3 rfl) ?_
          refine lv_dup hx hb dX3_mergesAll_61 rfl ?_
          refine va_get (D := (dC, dI)) (ci := 3) (v := .int yspl9) (C := RX3) (T := TX3) (N := 18) hx hb hts ziX3 hown hK hP 0 rfl rfl 11 (by decide) zw3 (fun _ h9 => h9) rfl dX3_mergesAll_62 ?_
          refine lv_iload hx hb dX3_mergesAll_65 (lv_at hl 0 rfl) ?_
          refine lv_iload_n hx hb dX3_mergesAll_67 rfl (lv_at hl 2 rfl) ?_
          obtain ⟨y81, e_y81⟩ : ∃ y : Int32, y = (if x5_1 ≤ x1 then 0 else ((x5_1 - x1) - 1)) := ⟨_, rfl⟩
          have hm := bnd_e hm e_y81
          have J_81 : W p l e (headSpec wsX3_mergesAll ({ frames := 2, cells := 0, slots := 0, locals := 56 } : Room)).room s m ([.ref (md 0)] : List Value).toArray below meth c H locs 0 0 (MQ below (zQv (dC, dI) (wM cI cZ md yth ybd yro u_yrow u_ymk u_yrm u_yst u_ypc ybu u_ybn u_ymg u_ysp u_yjn u_ymd u_ybg u_ymm u_yup u_yun) [(cI, .int), (cZ, .boolean)] A) ([.ref (md 0)] : List Value).toArray s 0 0 A) (F0 m 81 ls [.int y81, .int yspl9, .ref (md 0)]) := by
            refine lv_iadd hx hb dX3_mergesAll_81 ?_
            refine va_put (D := (dC, dI)) (ci := 3) (v := .int (yspl9 + y81)) (ty := .int) (C := RX3) (T := TX3) (N := 18) hx hb hts ziX3 tyX3 tyX3_ok nmX3 hown hK hP hD hS 0 rfl rfl 11 (by decide) zw3 (fun _ h9 => h9) rfl (by decide +kernel) rfl rfl (Nat.le_of_ble_eq_true rfl) dX3_mergesAll_82 (fun H locs hP hD hS => ?_)
            have hP : va_P (dC, dI) vwCl (wM cI cZ md yth ybd yro yrow ymk yrm yst ypc ybu ybn ymg (yspl9 + y81) yjn ymd24 ybgj60 ymm24 yupj60 yunj60) H := hP
            have hD : va_D A (wM cI cZ md yth ybd yro yrow ymk yrm yst ypc ybu ybn ymg (yspl9 + y81) yjn ymd24 ybgj60 ymm24 yupj60 yunj60) := hD
            refine lv_iload hx hb dX3_mergesAll_85 (lv_at hl 0 rfl) ?_
            refine lv_istore_n (lv' := [(1, .int x5_1), (5, .int x5_1), (2, .int x2), (0, .ref (md 0))]) hx hb dX3_mergesAll_87 rfl hl (by decide) rfl (fun ls hl => ?_)
            obtain ⟨x2_1, e_x2_1⟩ : ∃ y : Int32, y = x2 + 1 := ⟨_, rfl⟩
            have hm := bnd_e hm e_x2_1
            refine lv_iinc (v := x2_1) (lv' := [(2, .int x2_1), (1, .int x5_1), (5, .int x5_1), (0, .ref (md 0))]) hx hb dX3_mergesAll_88 hl (k := 2) rfl (by rw [e_x2_1]; rfl) (by decide) rfl (fun ls hl => ?_)
            refine lv_goto (tgt := 9) hx hb dX3_mergesAll_91 (by decide) ?_
            exact ih_9 x2_1 x5_1 (yspl9 + y81) ymd24 ybgj60 ymm24 yupj60 yunj60 hm _ _ hP hD hS _ (lv_sub hl [0, 1, 3] rfl)
          refine lv_icmp_le (tgt := 80) hx hb dX3_mergesAll_68 (by decide) (fun c_68 => ?_) (fun c_68 => ?_)
          · refine lv_iconst (v := 0) hx hb dX3_mergesAll_80 (by decide) ?_
            have e9 : y81 = 0 := by rw [e_y81, if_pos c_68]
            rw [e9] at J_81
            exact J_81
          · refine lv_iload hx hb dX3_mergesAll_71 (lv_at hl 0 rfl) ?_
            refine lv_iload_n hx hb dX3_mergesAll_73 rfl (lv_at hl 2 rfl) ?_
            refine lv_isub hx hb dX3_mergesAll_74 ?_
            refine lv_iconst (v := 1) hx hb dX3_mergesAll_75 (by decide) ?_
            refine lv_isub hx hb dX3_mergesAll_76 ?_
            refine lv_goto (tgt := 81) hx hb dX3_mergesAll_77 (by decide) ?_
            have e9 : y81 = ((x5_1 - x1) - 1) := by rw [e_y81, if_neg c_68]
            rw [e9] at J_81
            exact J_81
        have hm := hq_60
        refine lv_if_eq (tgt := 48) hx hb dX3_mergesAll_34 (by decide) (fun c_34 => ?_) (fun c_34 => ?_)
        · have hm := it_t hm c_34
          refine lv_aload_n hx hb dX3_mergesAll_48 rfl (lv_at hl 5 rfl) ?_
          refine va_get (D := (dC, dI)) (ci := 3) (v := .ref (md 6)) (C := RX3) (T := TX3) (N := 18) hx hb hts ziX3 hown hK hP 0 rfl rfl 14 (by decide) zw2 (fun _ h9 => h9) rfl dX3_mergesAll_49 ?_
          refine lv_iload_n hx hb dX3_mergesAll_52 rfl (lv_at hl 4 rfl) ?_
          refine lv_iload_n hx hb dX3_mergesAll_53 rfl (lv_at hl 2 rfl) ?_
          obtain ⟨c_54, hm⟩ := ck hm
          refine va_iast hx hb hK hP hD hS 6 0 rfl rfl c_54 dX3_mergesAll_54 (fun H locs hP hD hS => ?_)
          have hP : va_P (dC, dI) vwCl (wM cI cZ md yth ybd yro yrow ymk yrm yst ypc ybu ybn ymg yspl9 yjn ymd24 (upd ybgl9 (Int32.toNatClampNeg x1) ymml9) ymm24 yupl9 yunl9) H := hP
          have hD : va_D A (wM cI cZ md yth ybd yro yrow ymk yrm yst ypc ybu ybn ymg yspl9 yjn ymd24 (upd ybgl9 (Int32.toNatClampNeg x1) ymml9) ymm24 yupl9 yunl9) := hD
          refine lv_iload_n hx hb dX3_mergesAll_55 rfl (lv_at hl 4 rfl) ?_
          refine lv_iconst (v := 1) hx hb dX3_mergesAll_56 (by decide) ?_
          refine lv_iadd hx hb dX3_mergesAll_57 ?_
          refine lv_topi (fun x5 e_x5 => ?_)
          have hm := bnd_e hm e_x5
          refine lv_istore (lv' := [(5, .int x5), (4, .int r24), (3, .int ymml9), (2, .int x2), (1, .int x1), (0, .ref (md 0))]) hx hb dX3_mergesAll_58 hl (by decide) rfl (fun ls hl => ?_)
          exact J_60 x5 (upd ybgl9 (Int32.toNatClampNeg x1) ymml9) yupl9 yunl9 (o2 hm) _ _ hP hD hS _ (lv_sub hl [0, 3, 4, 5] rfl)
        · have hm := it_f hm c_34
          refine lv_aload_n hx hb dX3_mergesAll_37 rfl (lv_at hl 5 rfl) ?_
          refine lv_iload_n hx hb dX3_mergesAll_38 rfl (lv_at hl 2 rfl) ?_
          refine lv_iload_n hx hb dX3_mergesAll_39 rfl (lv_at hl 4 rfl) ?_
          obtain ⟨⟨r40, ybg40, yup40, yun40⟩, h_40, hm⟩ := ob hm
          refine z_callWi (wc := (wM cI cZ md yth ybd yro yrow ymk yrm yst ypc ybu ybn ymg yspl9 yjn ymd24 ybgl9 ymm24 yupl9 yunl9)) (w1 := (wM cI cZ md yth ybd yro yrow ymk yrm yst ypc ybu ybn ymg yspl9 yjn ymd24 ybg40 ymm24 yup40 yun40)) (ws := (wM cI cZ md yth ybd yro yrow ymk yrm yst ypc ybu ybn ymg yspl9 yjn ymd24 ybgl9 ymm24 yupl9 yunl9)) (ws' := (wM cI cZ md yth ybd yro yrow ymk yrm yst ypc ybu ybn ymg yspl9 yjn ymd24 ybg40 ymm24 yup40 yun40)) (As := [.int ymml9, .int x1]) (rest := []) (ci := 3) (q := (RX3, TX3, 18)) ⟨hx, hb, hml, hown, hts⟩ (c_X3_cuts l dC dI cI cZ md yth ybd yro yrow ymk yrm yst ypc ybu ybn ymg yspl9 yjn ymd24 ybgl9 ymm24 yupl9 yunl9 F ymml9 x1 H.size r40 ybg40 yup40 yun40 h_40) (cwV 2 hts gX3_mergesAll_X3_cuts rfl rfl rfl kv_X3_cuts ⟨Nat.le_of_ble_eq_true rfl, Nat.le_of_ble_eq_true rfl⟩) hK hP hD hS hA (z_spAll (wM cI cZ md yth ybd yro yrow ymk yrm yst ypc ybu ybn ymg yspl9 yjn ymd24 ybgl9 ymm24 yupl9 yunl9) (wM cI cZ md yth ybd yro yrow ymk yrm yst ypc ybu ybn ymg yspl9 yjn ymd24 ybg40 ymm24 yup40 yun40)) ((paM cI cZ md yth ybd yro yrow ymk yrm yst ypc ybu ybn ymg yspl9 yjn ymd24 ybg40 ymm24 yup40 yun40).trans (paM cI cZ md yth ybd yro yrow ymk yrm yst ypc ybu ybn ymg yspl9 yjn ymd24 ybgl9 ymm24 yupl9 yunl9).symm) rfl rfl rfl rfl hl.1 rfl (Nat.le_of_ble_eq_true rfl) dX3_mergesAll_40 ⟨Nat.zero_le _, Nat.zero_le _⟩ (fun H locs hP hD hS => ?_)
          refine lv_istore (lv' := [(5, .int r40), (4, .int r24), (3, .int ymml9), (2, .int x2), (1, .int x1), (0, .ref (md 0))]) hx hb dX3_mergesAll_43 hl (by decide) rfl (fun ls hl => ?_)
          refine lv_goto (tgt := 60) hx hb dX3_mergesAll_45 (by decide) ?_
          exact J_60 r40 ybg40 yup40 yun40 (o2 hm) _ _ hP hD hS _ (lv_sub hl [0, 3, 4, 5] rfl)
  exact L_9 F 0 0 ysp ymd ybg 0 yup yun hq_9 _ _ hP hD hS _ (lv_sub hl [0, 1, 2] rfl)
