set_option maxHeartbeats 4000000 in
set_option maxRecDepth 100000 in
theorem c_X3_mergesAll (l : Launch) (dC : Nat → ClassId) (dI : Nat → Nat → Nat) (cI : ClassId) (cZ : ClassId) (md : Nat → Nat) (yth : Int32) (ybd : Int32) (yro : Int32) (yrow : Nat → Int32) (ymk : Nat → Int32) (yrm : Int32) (yst : Nat → Int32) (ypc : Int32) (ybu : Nat → Int32) (ybn : Int32) (ymg : Int32) (ysp : Int32) (yjn : Int32) (ymd : Nat → Int32) (ybg : Nat → Int32) (ymm : Int32) (yup : Int64) (yun : Int64) (F : Nat) (sz : Nat) (u_yrow : Nat → Int32) (u_ymk : Nat → Int32) (u_yrm : Int32) (u_yst : Nat → Int32) (u_ypc : Int32) (u_ybn : Int32) (u_ymg : Int32) (u_ysp : Int32) (u_yjn : Int32) (u_ymd : Nat → Int32) (u_ybg : Nat → Int32) (u_ymm : Int32) (u_yup : Int64) (u_yun : Int64) (hm : X3_mergesAll F ybd yrow ymk yrm yst ypc ybu ybn ymg ysp yjn ymd ybg ymm yup yun = some (u_yrow, u_ymk, u_yrm, u_yst, u_ypc, u_ybn, u_ymg, u_ysp, u_yjn, u_ymd, u_ybg, u_ymm, u_yup, u_yun)) : Met l yX3_mergesAll wsX3_mergesAll ({ frames := 2, cells := 0, slots := 0, locals := 56 }) (va_Pc [.ref (md 0)] (zW (dC, dI) (wM cI cZ md yth ybd yro yrow ymk yrm yst ypc ybu ybn ymg ysp yjn ymd ybg ymm yup yun) [(cI, .int), (cZ, .boolean)] sz)) (zQv (dC, dI) (wM cI cZ md yth ybd yro u_yrow u_ymk u_yrm u_yst u_ypc ybu u_ybn u_ymg u_ysp u_yjn u_ymd u_ybg u_ymm u_yup u_yun) [(cI, .int), (cZ, .boolean)] (va_A (wM cI cZ md yth ybd yro yrow ymk yrm yst ypc ybu ybn ymg ysp yjn ymd ybg ymm yup yun) sz)) 0 0 (va_A (wM cI cZ md yth ybd yro yrow ymk yrm yst ypc ybu ybn ymg ysp yjn ymd ybg ymm yup yun) sz) := by
  refine Met.ofW (cc := cX3_mergesAll) (maxL := 6) (ret := none) (by decide) rfl ?_
  intro p e s m args below meth c s₁ B hml hv
  obtain ⟨rfl, hsz, hP, hK, hD0⟩ := hv
  have hx := B.exec
  have hb := B.bytes
  have hr := B.returns
  have hts := atoms_spec (ws := wsX3_mergesAll) B.pre
  have hown : s.vm.findClass RX3 = some m.cls := findClass_of_methodNamed B.named
  have hlocks := B.notSynchronized
  subst hsz
  have hD := hD0.self (sz := s.heap.size)
  generalize hAe : va_A (wM cI cZ md yth ybd yro yrow ymk yrm yst ypc ybu ybn ymg ysp yjn ymd ybg ymm yup yun) s.heap.size = A at hD ⊢
  have hA : ∀ q : Nat, s.heap.size ≤ q → A q := fun q h => by rw [← hAe]; exact Or.inr h
  have hS : va_S A s.heap s.heap [] := va_S.rf
  generalize eL : ([] : List Loc) = locs at hS ⊢
  obtain ⟨H, eH⟩ : ∃ z : Heap, z = s.heap := ⟨_, rfl⟩
  have hP : va_P (dC, dI) vwCl (wM cI cZ md yth ybd yro yrow ymk yrm yst ypc ybu ybn ymg ysp yjn ymd ybg ymm yup yun) H := by rw [eH]; exact hP
  have hS : va_S A s.heap H locs := by rw [eH]; exact hS
  refine z_heap eH ?_
  have hl := lv_entry ([.ref (md 0)]) (n := 6) (Nat.le_of_ble_eq_true rfl)
  rw [lg_entry_eq]
  generalize (lg_sl ([.ref (md 0)]) ++ List.replicate (6 - (lg_sl ([.ref (md 0)])).length) Slot.unset).toArray = ls at hl ⊢
  have hl : lv_has ls 6 [(0, .ref (md 0))] := hl
  have zw0 := hts (.fieldLink RX3 102 "LearnedLedgeModel" "madeMany" "I") (by decide +kernel)
  have zw1 := hts (.fieldLink RX3 48 "LearnedLedgeModel" "pieces" "I") (by decide +kernel)
  have zw2 := hts (.fieldLink RX3 33 "LearnedLedgeModel" "begun" "[I") (by decide +kernel)
  have zw3 := hts (.fieldLink RX3 121 "LearnedLedgeModel" "splits" "I") (by decide +kernel)
  have zw4 := hts (.fieldLink RX3 69 "LearnedLedgeModel" "buffered" "I") (by decide +kernel)
  have zw5 := hts (.fieldLink RX3 27 "LearnedLedgeModel" "buffer" "[I") (by decide +kernel)
  have zw6 := hts (.fieldLink RX3 130 "LearnedLedgeModel" "merges" "I") (by decide +kernel)
  have ziX3 : ∀ w ∈ u_ws RX3 TX3 18, w ∈ wsX3_mergesAll := by decide +kernel
  refine lv_aload_n hx hb dX3_mergesAll_0 rfl (lv_at hl 0 rfl) ?_
  refine lv_iconst (v := 0) hx hb dX3_mergesAll_1 (by decide) ?_
  refine va_put (D := (dC, dI)) (ci := 3) (v := .int 0) (ty := .int) (C := RX3) (T := TX3) (N := 18) hx hb hts ziX3 tyX3 tyX3_ok nmX3 hown hK hP hD hS 0 rfl rfl 15 (by decide) zw0 (fun _ h9 => h9) rfl (by decide +kernel) rfl rfl (Nat.le_of_ble_eq_true rfl) dX3_mergesAll_2 (fun H locs hP hD hS => ?_)
  have hP : va_P (dC, dI) vwCl (wM cI cZ md yth ybd yro yrow ymk yrm yst ypc ybu ybn ymg ysp yjn ymd ybg 0 yup yun) H := hP
  have hD : va_D A (wM cI cZ md yth ybd yro yrow ymk yrm yst ypc ybu ybn ymg ysp yjn ymd ybg 0 yup yun) := hD
  refine lv_iconst (v := 0) hx hb dX3_mergesAll_5 (by decide) ?_
  refine lv_istore_n (lv' := [(1, .int 0), (0, .ref (md 0))]) hx hb dX3_mergesAll_6 rfl hl (by decide) rfl (fun ls hl => ?_)
  refine lv_iconst (v := 0) hx hb dX3_mergesAll_7 (by decide) ?_
  refine lv_istore_n (lv' := [(2, .int 0), (1, .int 0), (0, .ref (md 0))]) hx hb dX3_mergesAll_8 rfl hl (by decide) rfl (fun ls hl => ?_)
  obtain ⟨z_9, hq_9, hm⟩ := ob hm
  have K_9 : ∀ (x1_1 : Int32), ∀ (yspx9 : Int32), ∀ (ymdx9 : Nat → Int32), ∀ (ybgx9 : Nat → Int32), ∀ (ymmx9 : Int32), ∀ (yupx9 : Int64), ∀ (yunx9 : Int64), z_9 = (x1_1, yspx9, ymdx9, ybgx9, ymmx9, yupx9, yunx9) → ∀ (H : Heap) (locs : List Loc), va_P (dC, dI) vwCl (wM cI cZ md yth ybd yro yrow ymk yrm yst ypc ybu ybn ymg yspx9 yjn ymdx9 ybgx9 ymmx9 yupx9 yunx9) H → va_D A (wM cI cZ md yth ybd yro yrow ymk yrm yst ypc ybu ybn ymg yspx9 yjn ymdx9 ybgx9 ymmx9 yupx9 yunx9) → va_S A s.heap H locs → ∀ (ls : Array Slot), lv_has ls 6 [(1, .int x1_1), (0, .ref (md 0))] → W p l e (headSpec wsX3_mergesAll ({ frames := 2, cells := 0, slots := 0, locals := 56 } : Room)).room s m ([.ref (md 0)] : List Value).toArray below meth c H locs 0 0 (MQ below (zQv (dC, dI) (wM cI cZ md yth ybd yro u_yrow u_ymk u_yrm u_yst u_ypc ybu u_ybn u_ymg u_ysp u_yjn u_ymd u_ybg u_ymm u_yup u_yun) [(cI, .int), (cZ, .boolean)] A) ([.ref (md 0)] : List Value).toArray s 0 0 A) (F0 m 94 ls []) := by
    intro x1_1 yspx9 ymdx9 ybgx9 ymmx9 yupx9 yunx9 ez H locs hP hD hS ls hl
    rw [ez] at hm
    refine lv_aload_n hx hb dX3_mergesAll_94 rfl (lv_at hl 1 rfl) ?_
    refine va_get (D := (dC, dI)) (ci := 3) (v := .int ypc) (C := RX3) (T := TX3) (N := 18) hx hb hts ziX3 hown hK hP 0 rfl rfl 7 (by decide) zw1 (fun _ h9 => h9) rfl dX3_mergesAll_95 ?_
    obtain ⟨z_153, hq_153, hm⟩ := ob hm
    have J_153 : ∀ (x1_2 : Int32), ∀ (yspj153 : Int32), ∀ (ymdj153 : Nat → Int32), ∀ (ybgj153 : Nat → Int32), ∀ (ymmj153 : Int32), ∀ (yupj153 : Int64), ∀ (yunj153 : Int64), z_153 = (x1_2, yspj153, ymdj153, ybgj153, ymmj153, yupj153, yunj153) → ∀ (H : Heap) (locs : List Loc), va_P (dC, dI) vwCl (wM cI cZ md yth ybd yro yrow ymk yrm yst ypc ybu ybn ymg yspj153 yjn ymdj153 ybgj153 ymmj153 yupj153 yunj153) H → va_D A (wM cI cZ md yth ybd yro yrow ymk yrm yst ypc ybu ybn ymg yspj153 yjn ymdj153 ybgj153 ymmj153 yupj153 yunj153) → va_S A s.heap H locs → ∀ (ls : Array Slot), lv_has ls 6 [(1, .int x1_2), (0, .ref (md 0))] → W p l e (headSpec wsX3_mergesAll ({ frames := 2, cells := 0, slots := 0, locals := 56 } : Room)).room s m ([.ref (md 0)] : List Value).toArray below meth c H locs 0 0 (MQ below (zQv (dC, dI) (wM cI cZ md yth ybd yro u_yrow u_ymk u_yrm u_yst u_ypc ybu u_ybn u_ymg u_ysp u_yjn u_ymd u_ybg u_ymm u_yup u_yun) [(cI, .int), (cZ, .boolean)] A) ([.ref (md 0)] : List Value).toArray s 0 0 A) (F0 m 153 ls []) := by
      intro x1_2 yspj153 ymdj153 ybgj153 ymmj153 yupj153 yunj153 ez H locs hP hD hS ls hl
      rw [ez] at hm
      refine lv_aload_n hx hb dX3_mergesAll_153 rfl (lv_at hl 1 rfl) ?_
      refine lv_iload_n hx hb dX3_mergesAll_154 rfl (lv_at hl 0 rfl) ?_
      obtain ⟨⟨yrow155, ymk155, yrm155, yst155, ypc155, ybn155⟩, h_155, hm⟩ := ob hm
      refine z_callWv (wc := (wM cI cZ md yth ybd yro yrow ymk yrm yst ypc ybu ybn ymg yspj153 yjn ymdj153 ybgj153 ymmj153 yupj153 yunj153)) (w1 := (wM cI cZ md yth ybd yro yrow155 ymk155 yrm155 yst155 ypc155 ybu ybn155 ymg yspj153 yjn ymdj153 ybgj153 ymmj153 yupj153 yunj153)) (ws := (wM cI cZ md yth ybd yro yrow ymk yrm yst ypc ybu ybn ymg yspj153 yjn ymdj153 ybgj153 ymmj153 yupj153 yunj153)) (ws' := (wM cI cZ md yth ybd yro yrow155 ymk155 yrm155 yst155 ypc155 ybu ybn155 ymg yspj153 yjn ymdj153 ybgj153 ymmj153 yupj153 yunj153)) [0, 1, 2, 3, 4, 5, 6] [] 7 (As := [.int x1_2]) (rest := []) (ci := 3) (q := (RX3, TX3, 18)) ⟨hx, hb, hml, hown, hts⟩ (c_X3_becomes l dC dI cI cZ md yth ybd yro yrow ymk yrm yst ypc ybu ybn ymg yspj153 yjn ymdj153 ybgj153 ymmj153 yupj153 yunj153 F x1_2 H.size yrow155 ymk155 yrm155 yst155 ypc155 ybn155 h_155) (cwV 1 hts gX3_mergesAll_X3_becomes rfl rfl rfl kv_X3_becomes ⟨Nat.le_of_ble_eq_true rfl, Nat.le_of_ble_eq_true rfl⟩) hK hP hD hS hA hP hD rfl rfl (by decide) rfl rfl (by decide) rfl rfl rfl rfl rfl hl.1 rfl (Nat.le_of_ble_eq_true rfl) dX3_mergesAll_155 ⟨Nat.zero_le _, Nat.zero_le _⟩ (fun H locs hP hD hS => ?_)
      refine lv_aload_n hx hb dX3_mergesAll_158 rfl (lv_at hl 1 rfl) ?_
      obtain ⟨⟨yst159, ypc159, yjn159, yup159, yun159⟩, h_159, hm⟩ := ob hm
      refine z_callWv (wc := (wM cI cZ md yth ybd yro yrow155 ymk155 yrm155 yst155 ypc155 ybu ybn155 ymg yspj153 yjn ymdj153 ybgj153 ymmj153 yupj153 yunj153)) (w1 := (wM cI cZ md yth ybd yro yrow155 ymk155 yrm155 yst159 ypc159 ybu ybn155 ymg yspj153 yjn159 ymdj153 ybgj153 ymmj153 yup159 yun159)) (ws := (wM cI cZ md yth ybd yro yrow155 ymk155 yrm155 yst155 ypc155 ybu ybn155 ymg yspj153 yjn ymdj153 ybgj153 ymmj153 yupj153 yunj153)) (ws' := (wM cI cZ md yth ybd yro yrow155 ymk155 yrm155 yst159 ypc159 ybu ybn155 ymg yspj153 yjn159 ymdj153 ybgj153 ymmj153 yup159 yun159)) [0, 1, 2, 3, 4, 5, 6] [] 7 (As := []) (rest := []) (ci := 3) (q := (RX3, TX3, 18)) ⟨hx, hb, hml, hown, hts⟩ (c_X3_joinsPieces l dC dI cI cZ md yth ybd yro yrow155 ymk155 yrm155 yst155 ypc155 ybu ybn155 ymg yspj153 yjn ymdj153 ybgj153 ymmj153 yupj153 yunj153 F H.size yst159 ypc159 yjn159 yup159 yun159 h_159) (cwV 0 hts gX3_mergesAll_X3_joinsPieces rfl rfl rfl kv_X3_joinsPieces ⟨Nat.le_of_ble_eq_true rfl, Nat.le_of_ble_eq_true rfl⟩) hK hP hD hS hA hP hD rfl rfl (by decide) rfl rfl (by decide) rfl rfl rfl rfl rfl hl.1 rfl (Nat.le_of_ble_eq_true rfl) dX3_mergesAll_159 ⟨Nat.zero_le _, Nat.zero_le _⟩ (fun H locs hP hD hS => ?_)
      refine lv_aload_n hx hb dX3_mergesAll_162 rfl (lv_at hl 1 rfl) ?_
      refine lv_dup hx hb dX3_mergesAll_163 rfl ?_
      refine va_get (D := (dC, dI)) (ci := 3) (v := .int ymg) (C := RX3) (T := TX3) (N := 18) hx hb hts ziX3 hown hK hP 0 rfl rfl 10 (by decide) zw6 (fun _ h9 => h9) rfl dX3_mergesAll_164 ?_
      refine lv_iconst (v := 1) hx hb dX3_mergesAll_167 (by decide) ?_
      refine lv_iadd hx hb dX3_mergesAll_168 ?_
      refine va_put (D := (dC, dI)) (ci := 3) (v := .int (ymg + 1)) (ty := .int) (C := RX3) (T := TX3) (N := 18) hx hb hts ziX3 tyX3 tyX3_ok nmX3 hown hK hP hD hS 0 rfl rfl 10 (by decide) zw6 (fun _ h9 => h9) rfl (by decide +kernel) rfl rfl (Nat.le_of_ble_eq_true rfl) dX3_mergesAll_169 (fun H locs hP hD hS => ?_)
      have hP : va_P (dC, dI) vwCl (wM cI cZ md yth ybd yro yrow155 ymk155 yrm155 yst159 ypc159 ybu ybn155 (ymg + 1) yspj153 yjn159 ymdj153 ybgj153 ymmj153 yup159 yun159) H := hP
      have hD : va_D A (wM cI cZ md yth ybd yro yrow155 ymk155 yrm155 yst159 ypc159 ybu ybn155 (ymg + 1) yspj153 yjn159 ymdj153 ybgj153 ymmj153 yup159 yun159) := hD
      cases o2 hm
      exact W.vret hx hb hr (fun t ht hW => ⟨⟨(), rfl, trivial, by rw [ht]; exact hP, va_K.moved hW.alike hK, hD⟩, hS.F ht⟩) hS.2.2 dX3_mergesAll_172
    have hm := hq_153
    refine lv_if_ne (tgt := 153) hx hb dX3_mergesAll_98 (by decide) (fun c_98 => ?_) (fun c_98 => ?_)
    · have hm := it_f hm c_98
      exact J_153 x1_1 yspx9 ymdx9 ybgx9 ymmx9 yupx9 yunx9 (o2 hm) _ _ hP hD hS _ (lv_sub hl [0, 1] rfl)
    · have hm := it_t hm c_98
      refine lv_aload_n hx hb dX3_mergesAll_101 rfl (lv_at hl 1 rfl) ?_
      refine va_get (D := (dC, dI)) (ci := 3) (v := .int ybn) (C := RX3) (T := TX3) (N := 18) hx hb hts ziX3 hown hK hP 0 rfl rfl 9 (by decide) zw4 (fun _ h9 => h9) rfl dX3_mergesAll_102 ?_
      refine lv_if_le (tgt := 153) hx hb dX3_mergesAll_105 (by decide) (fun c_105 => ?_) (fun c_105 => ?_)
      · have hm := it_t hm c_105
        exact J_153 x1_1 yspx9 ymdx9 ybgx9 ymmx9 yupx9 yunx9 (o2 hm) _ _ hP hD hS _ (lv_sub hl [0, 1] rfl)
      · have hm := it_f hm c_105
        refine lv_iconst (v := 0) hx hb dX3_mergesAll_108 (by decide) ?_
        refine lv_istore_n (lv' := [(2, .int 0), (1, .int x1_1), (0, .ref (md 0))]) hx hb dX3_mergesAll_109 rfl hl (by decide) rfl (fun ls hl => ?_)
        obtain ⟨z_110, hq_110, hm⟩ := ob hm
        have K_110 : ∀ (ymdx110 : Nat → Int32), ∀ (ymmx110 : Int32), z_110 = (ymdx110, ymmx110) → ∀ (H : Heap) (locs : List Loc), va_P (dC, dI) vwCl (wM cI cZ md yth ybd yro yrow ymk yrm yst ypc ybu ybn ymg yspx9 yjn ymdx110 ybgx9 ymmx110 yupx9 yunx9) H → va_D A (wM cI cZ md yth ybd yro yrow ymk yrm yst ypc ybu ybn ymg yspx9 yjn ymdx110 ybgx9 ymmx110 yupx9 yunx9) → va_S A s.heap H locs → ∀ (ls : Array Slot), lv_has ls 6 [(0, .ref (md 0))] → W p l e (headSpec wsX3_mergesAll ({ frames := 2, cells := 0, slots := 0, locals := 56 } : Room)).room s m ([.ref (md 0)] : List Value).toArray below meth c H locs 0 0 (MQ below (zQv (dC, dI) (wM cI cZ md yth ybd yro u_yrow u_ymk u_yrm u_yst u_ypc ybu u_ybn u_ymg u_ysp u_yjn u_ymd u_ybg u_ymm u_yup u_yun) [(cI, .int), (cZ, .boolean)] A) ([.ref (md 0)] : List Value).toArray s 0 0 A) (F0 m 134 ls []) := by
          intro ymdx110 ymmx110 ez H locs hP hD hS ls hl
          rw [ez] at hm
          refine lv_aload_n hx hb dX3_mergesAll_134 rfl (lv_at hl 0 rfl) ?_
          refine lv_iconst (v := 0) hx hb dX3_mergesAll_135 (by decide) ?_
          refine lv_iconst (v := 0) hx hb dX3_mergesAll_136 (by decide) ?_
          obtain ⟨⟨r137, ybg137, yup137, yun137⟩, h_137, hm⟩ := ob hm
          refine z_callWi (wc := (wM cI cZ md yth ybd yro yrow ymk yrm yst ypc ybu ybn ymg yspx9 yjn ymdx110 ybgx9 ymmx110 yupx9 yunx9)) (w1 := (wM cI cZ md yth ybd yro yrow ymk yrm yst ypc ybu ybn ymg yspx9 yjn ymdx110 ybg137 ymmx110 yup137 yun137)) (ws := (wM cI cZ md yth ybd yro yrow ymk yrm yst ypc ybu ybn ymg yspx9 yjn ymdx110 ybgx9 ymmx110 yupx9 yunx9)) (ws' := (wM cI cZ md yth ybd yro yrow ymk yrm yst ypc ybu ybn ymg yspx9 yjn ymdx110 ybg137 ymmx110 yup137 yun137)) [0, 1, 2, 3, 4, 5, 6] [] 7 (As := [.int 0, .int 0]) (rest := []) (ci := 3) (q := (RX3, TX3, 18)) ⟨hx, hb, hml, hown, hts⟩ (c_X3_cuts l dC dI cI cZ md yth ybd yro yrow ymk yrm yst ypc ybu ybn ymg yspx9 yjn ymdx110 ybgx9 ymmx110 yupx9 yunx9 F 0 0 H.size r137 ybg137 yup137 yun137 h_137) (cwV 2 hts gX3_mergesAll_X3_cuts rfl rfl rfl kv_X3_cuts ⟨Nat.le_of_ble_eq_true rfl, Nat.le_of_ble_eq_true rfl⟩) hK hP hD hS hA hP hD rfl rfl (by decide) rfl rfl (by decide) rfl rfl rfl rfl rfl hl.1 rfl (Nat.le_of_ble_eq_true rfl) dX3_mergesAll_137 ⟨Nat.zero_le _, Nat.zero_le _⟩ (fun H locs hP hD hS => ?_)
          refine lv_istore_n (lv' := [(1, .int r137), (0, .ref (md 0))]) hx hb dX3_mergesAll_140 rfl hl (by decide) rfl (fun ls hl => ?_)
          refine lv_aload_n hx hb dX3_mergesAll_141 rfl (lv_at hl 1 rfl) ?_
          refine lv_dup hx hb dX3_mergesAll_142 rfl ?_
          refine va_get (D := (dC, dI)) (ci := 3) (v := .int yspx9) (C := RX3) (T := TX3) (N := 18) hx hb hts ziX3 hown hK hP 0 rfl rfl 11 (by decide) zw3 (fun _ h9 => h9) rfl dX3_mergesAll_143 ?_
          refine lv_iload_n hx hb dX3_mergesAll_146 rfl (lv_at hl 0 rfl) ?_
          refine lv_iconst (v := 1) hx hb dX3_mergesAll_147 (by decide) ?_
          refine lv_isub hx hb dX3_mergesAll_148 ?_
          refine lv_iadd hx hb dX3_mergesAll_149 ?_
          refine va_put (D := (dC, dI)) (ci := 3) (v := .int (yspx9 + (r137 - 1))) (ty := .int) (C := RX3) (T := TX3) (N := 18) hx hb hts ziX3 tyX3 tyX3_ok nmX3 hown hK hP hD hS 0 rfl rfl 11 (by decide) zw3 (fun _ h9 => h9) rfl (by decide +kernel) rfl rfl (Nat.le_of_ble_eq_true rfl) dX3_mergesAll_150 (fun H locs hP hD hS => ?_)
          have hP : va_P (dC, dI) vwCl (wM cI cZ md yth ybd yro yrow ymk yrm yst ypc ybu ybn ymg (yspx9 + (r137 - 1)) yjn ymdx110 ybg137 ymmx110 yup137 yun137) H := hP
          have hD : va_D A (wM cI cZ md yth ybd yro yrow ymk yrm yst ypc ybu ybn ymg (yspx9 + (r137 - 1)) yjn ymdx110 ybg137 ymmx110 yup137 yun137) := hD
          exact J_153 r137 (yspx9 + (r137 - 1)) ymdx110 ybg137 ymmx110 yup137 yun137 (o2 hm) _ _ hP hD hS _ (lv_sub hl [0, 1] rfl)
        have L_110 : ∀ (n : Nat) (x2_2 : Int32) (ymdl110 : Nat → Int32) (ymml110 : Int32), X3_mergesAll_L110 ybu ybn F n x2_2 ymdl110 ymml110 = some z_110 → ∀ (H : Heap) (locs : List Loc), va_P (dC, dI) vwCl (wM cI cZ md yth ybd yro yrow ymk yrm yst ypc ybu ybn ymg yspx9 yjn ymdl110 ybgx9 ymml110 yupx9 yunx9) H → va_D A (wM cI cZ md yth ybd yro yrow ymk yrm yst ypc ybu ybn ymg yspx9 yjn ymdl110 ybgx9 ymml110 yupx9 yunx9) → va_S A s.heap H locs → ∀ (ls : Array Slot), lv_has ls 6 [(2, .int x2_2), (0, .ref (md 0))] → W p l e (headSpec wsX3_mergesAll ({ frames := 2, cells := 0, slots := 0, locals := 56 } : Room)).room s m ([.ref (md 0)] : List Value).toArray below meth c H locs 0 0 (MQ below (zQv (dC, dI) (wM cI cZ md yth ybd yro u_yrow u_ymk u_yrm u_yst u_ypc ybu u_ybn u_ymg u_ysp u_yjn u_ymd u_ybg u_ymm u_yup u_yun) [(cI, .int), (cZ, .boolean)] A) ([.ref (md 0)] : List Value).toArray s 0 0 A) (F0 m 110 ls []) := by
          intro n
          induction n with
          | zero => intro x2_2 ymdl110 ymml110 hm; cases hm
          | succ n ih_110 =>
            intro x2_2 ymdl110 ymml110 hm H locs hP hD hS ls hl
            refine lv_iload_n hx hb dX3_mergesAll_110 rfl (lv_at hl 0 rfl) ?_
            refine lv_aload_n hx hb dX3_mergesAll_111 rfl (lv_at hl 1 rfl) ?_
            refine va_get (D := (dC, dI)) (ci := 3) (v := .int ybn) (C := RX3) (T := TX3) (N := 18) hx hb hts ziX3 hown hK hP 0 rfl rfl 9 (by decide) zw4 (fun _ h9 => h9) rfl dX3_mergesAll_112 ?_
            refine lv_icmp_ge (tgt := 134) hx hb dX3_mergesAll_115 (by decide) (fun c_115 => ?_) (fun c_115 => ?_)
            · have hm := it_t hm c_115
              exact K_110 ymdl110 ymml110 (o2 hm) _ _ hP hD hS _ (lv_sub hl [1] rfl)
            · have hm := it_f hm c_115
              refine lv_aload_n hx hb dX3_mergesAll_118 rfl (lv_at hl 1 rfl) ?_
              refine lv_aload_n hx hb dX3_mergesAll_119 rfl (lv_at hl 1 rfl) ?_
              refine va_get (D := (dC, dI)) (ci := 3) (v := .ref (md 4)) (C := RX3) (T := TX3) (N := 18) hx hb hts ziX3 hown hK hP 0 rfl rfl 8 (by decide) zw5 (fun _ h9 => h9) rfl dX3_mergesAll_120 ?_
              refine lv_iload_n hx hb dX3_mergesAll_123 rfl (lv_at hl 0 rfl) ?_
              obtain ⟨c_124, hm⟩ := ck hm
              refine va_iald hx hb hK hP 4 0 rfl rfl c_124 dX3_mergesAll_124 ?_
              obtain ⟨⟨ymd125, ymm125⟩, h_125, hm⟩ := ob hm
              refine z_callWv (wc := (wM cI cZ md yth ybd yro yrow ymk yrm yst ypc ybu ybn ymg yspx9 yjn ymdl110 ybgx9 ymml110 yupx9 yunx9)) (w1 := (wM cI cZ md yth ybd yro yrow ymk yrm yst ypc ybu ybn ymg yspx9 yjn ymd125 ybgx9 ymm125 yupx9 yunx9)) (ws := (wM cI cZ md yth ybd yro yrow ymk yrm yst ypc ybu ybn ymg yspx9 yjn ymdl110 ybgx9 ymml110 yupx9 yunx9)) (ws' := (wM cI cZ md yth ybd yro yrow ymk yrm yst ypc ybu ybn ymg yspx9 yjn ymd125 ybgx9 ymm125 yupx9 yunx9)) [0, 1, 2, 3, 4, 5, 6] [] 7 (As := [.int (ybu (Int32.toNatClampNeg x2_2))]) (rest := []) (ci := 3) (q := (RX3, TX3, 18)) ⟨hx, hb, hml, hown, hts⟩ (c_X3_makes l dC dI cI cZ md yth ybd yro yrow ymk yrm yst ypc ybu ybn ymg yspx9 yjn ymdl110 ybgx9 ymml110 yupx9 yunx9 F (ybu (Int32.toNatClampNeg x2_2)) H.size ymd125 ymm125 h_125) (cwV 1 hts gX3_mergesAll_X3_makes rfl rfl rfl kv_X3_makes ⟨Nat.le_of_ble_eq_true rfl, Nat.le_of_ble_eq_true rfl⟩) hK hP hD hS hA hP hD rfl rfl (by decide) rfl rfl (by decide) rfl rfl rfl rfl rfl hl.1 rfl (Nat.le_of_ble_eq_true rfl) dX3_mergesAll_125 ⟨Nat.zero_le _, Nat.zero_le _⟩ (fun H locs hP hD hS => ?_)
              obtain ⟨x2_3, e_x2_3⟩ : ∃ y : Int32, y = x2_2 + 1 := ⟨_, rfl⟩
              have hm := bnd_e hm e_x2_3
              refine lv_iinc (v := x2_3) (lv' := [(2, .int x2_3), (0, .ref (md 0))]) hx hb dX3_mergesAll_128 hl (k := 0) rfl (by rw [e_x2_3]; rfl) (by decide) rfl (fun ls hl => ?_)
              refine lv_goto (tgt := 110) hx hb dX3_mergesAll_131 (by decide) ?_
              exact ih_110 x2_3 ymd125 ymm125 hm _ _ hP hD hS _ (lv_sub hl [0, 1] rfl)
        exact L_110 F 0 ymdx9 ymmx9 hq_110 _ _ hP hD hS _ (lv_sub hl [0, 2] rfl)
  have L_9 : ∀ (n : Nat) (x2 : Int32) (x1 : Int32) (yspl9 : Int32) (ymdl9 : Nat → Int32) (ybgl9 : Nat → Int32) (ymml9 : Int32) (yupl9 : Int64) (yunl9 : Int64), X3_mergesAll_L9 ybd yrow ymk yrm yst ypc ybu ybn F n x2 x1 yspl9 ymdl9 ybgl9 ymml9 yupl9 yunl9 = some z_9 → ∀ (H : Heap) (locs : List Loc), va_P (dC, dI) vwCl (wM cI cZ md yth ybd yro yrow ymk yrm yst ypc ybu ybn ymg yspl9 yjn ymdl9 ybgl9 ymml9 yupl9 yunl9) H → va_D A (wM cI cZ md yth ybd yro yrow ymk yrm yst ypc ybu ybn ymg yspl9 yjn ymdl9 ybgl9 ymml9 yupl9 yunl9) → va_S A s.heap H locs → ∀ (ls : Array Slot), lv_has ls 6 [(2, .int x2), (1, .int x1), (0, .ref (md 0))] → W p l e (headSpec wsX3_mergesAll ({ frames := 2, cells := 0, slots := 0, locals := 56 } : Room)).room s m ([.ref (md 0)] : List Value).toArray below meth c H locs 0 0 (MQ below (zQv (dC, dI) (wM cI cZ md yth ybd yro u_yrow u_ymk u_yrm u_yst u_ypc ybu u_ybn u_ymg u_ysp u_yjn u_ymd u_ybg u_ymm u_yup u_yun) [(cI, .int), (cZ, .boolean)] A) ([.ref (md 0)] : List Value).toArray s 0 0 A) (F0 m 9 ls []) := by
    intro n
    induction n with
    | zero => intro x2 x1 yspl9 ymdl9 ybgl9 ymml9 yupl9 yunl9 hm; cases hm
    | succ n ih_9 =>
      intro x2 x1 yspl9 ymdl9 ybgl9 ymml9 yupl9 yunl9 hm H locs hP hD hS ls hl
      refine lv_iload_n hx hb dX3_mergesAll_9 rfl (lv_at hl 0 rfl) ?_
      refine lv_aload_n hx hb dX3_mergesAll_10 rfl (lv_at hl 2 rfl) ?_
      refine va_get (D := (dC, dI)) (ci := 3) (v := .int ypc) (C := RX3) (T := TX3) (N := 18) hx hb hts ziX3 hown hK hP 0 rfl rfl 7 (by decide) zw1 (fun _ h9 => h9) rfl dX3_mergesAll_11 ?_
      refine lv_icmp_ge (tgt := 94) hx hb dX3_mergesAll_14 (by decide) (fun c_14 => ?_) (fun c_14 => ?_)
      · have hm := it_t hm c_14
        exact K_9 x1 yspl9 ymdl9 ybgl9 ymml9 yupl9 yunl9 (o2 hm) _ _ hP hD hS _ (lv_sub hl [1, 2] rfl)
      · have hm := it_f hm c_14
        refine lv_aload_n hx hb dX3_mergesAll_17 rfl (lv_at hl 2 rfl) ?_
        refine va_get (D := (dC, dI)) (ci := 3) (v := .int ymml9) (C := RX3) (T := TX3) (N := 18) hx hb hts ziX3 hown hK hP 0 rfl rfl 15 (by decide) zw0 (fun _ h9 => h9) rfl dX3_mergesAll_18 ?_
        refine lv_istore_n (lv' := [(3, .int ymml9), (2, .int x2), (1, .int x1), (0, .ref (md 0))]) hx hb dX3_mergesAll_21 rfl hl (by decide) rfl (fun ls hl => ?_)
        refine lv_aload_n hx hb dX3_mergesAll_22 rfl (lv_at hl 3 rfl) ?_
        refine lv_iload_n hx hb dX3_mergesAll_23 rfl (lv_at hl 1 rfl) ?_
        obtain ⟨⟨r24, ymd24, ymm24⟩, h_24, hm⟩ := ob hm
        refine z_callWi (wc := (wM cI cZ md yth ybd yro yrow ymk yrm yst ypc ybu ybn ymg yspl9 yjn ymdl9 ybgl9 ymml9 yupl9 yunl9)) (w1 := (wM cI cZ md yth ybd yro yrow ymk yrm yst ypc ybu ybn ymg yspl9 yjn ymd24 ybgl9 ymm24 yupl9 yunl9)) (ws := (wM cI cZ md yth ybd yro yrow ymk yrm yst ypc ybu ybn ymg yspl9 yjn ymdl9 ybgl9 ymml9 yupl9 yunl9)) (ws' := (wM cI cZ md yth ybd yro yrow ymk yrm yst ypc ybu ybn ymg yspl9 yjn ymd24 ybgl9 ymm24 yupl9 yunl9)) [0, 1, 2, 3, 4, 5, 6] [] 7 (As := [.int x2]) (rest := []) (ci := 3) (q := (RX3, TX3, 18)) ⟨hx, hb, hml, hown, hts⟩ (c_X3_gathers l dC dI cI cZ md yth ybd yro yrow ymk yrm yst ypc ybu ybn ymg yspl9 yjn ymdl9 ybgl9 ymml9 yupl9 yunl9 F x2 H.size r24 ymd24 ymm24 h_24) (cwV 1 hts gX3_mergesAll_X3_gathers rfl rfl rfl kv_X3_gathers ⟨Nat.le_of_ble_eq_true rfl, Nat.le_of_ble_eq_true rfl⟩) hK hP hD hS hA hP hD rfl rfl (by decide) rfl rfl (by decide) rfl rfl rfl rfl rfl hl.1 rfl (Nat.le_of_ble_eq_true rfl) dX3_mergesAll_24 ⟨Nat.zero_le _, Nat.zero_le _⟩ (fun H locs hP hD hS => ?_)
        refine lv_istore (lv' := [(4, .int r24), (3, .int ymml9), (2, .int x2), (1, .int x1), (0, .ref (md 0))]) hx hb dX3_mergesAll_27 hl (by decide) rfl (fun ls hl => ?_)
        refine lv_iload_n hx hb dX3_mergesAll_29 rfl (lv_at hl 3 rfl) ?_
        refine lv_istore (lv' := [(5, .int x1), (4, .int r24), (3, .int ymml9), (2, .int x2), (1, .int x1), (0, .ref (md 0))]) hx hb dX3_mergesAll_30 hl (by decide) rfl (fun ls hl => ?_)
        refine lv_iload hx hb dX3_mergesAll_32 (lv_at hl 1 rfl) ?_
        obtain ⟨z_60, hq_60, hm⟩ := ob hm
        have J_60 : ∀ (x5_1 : Int32), ∀ (ybgj60 : Nat → Int32), ∀ (yupj60 : Int64), ∀ (yunj60 : Int64), z_60 = (x5_1, ybgj60, yupj60, yunj60) → ∀ (H : Heap) (locs : List Loc), va_P (dC, dI) vwCl (wM cI cZ md yth ybd yro yrow ymk yrm yst ypc ybu ybn ymg yspl9 yjn ymd24 ybgj60 ymm24 yupj60 yunj60) H → va_D A (wM cI cZ md yth ybd yro yrow ymk yrm yst ypc ybu ybn ymg yspl9 yjn ymd24 ybgj60 ymm24 yupj60 yunj60) → va_S A s.heap H locs → ∀ (ls : Array Slot), lv_has ls 6 [(5, .int x5_1), (2, .int x2), (1, .int x1), (0, .ref (md 0))] → W p l e (headSpec wsX3_mergesAll ({ frames := 2, cells := 0, slots := 0, locals := 56 } : Room)).room s m ([.ref (md 0)] : List Value).toArray below meth c H locs 0 0 (MQ below (zQv (dC, dI) (wM cI cZ md yth ybd yro u_yrow u_ymk u_yrm u_yst u_ypc ybu u_ybn u_ymg u_ysp u_yjn u_ymd u_ybg u_ymm u_yup u_yun) [(cI, .int), (cZ, .boolean)] A) ([.ref (md 0)] : List Value).toArray s 0 0 A) (F0 m 60 ls []) := by
          intro x5_1 ybgj60 yupj60 yunj60 ez H locs hP hD hS ls hl
          rw [ez] at hm
          refine lv_aload_n hx hb dX3_mergesAll_60 rfl (lv_at hl 3 rfl) ?_
          refine lv_dup hx hb dX3_mergesAll_61 rfl ?_
          refine va_get (D := (dC, dI)) (ci := 3) (v := .int yspl9) (C := RX3) (T := TX3) (N := 18) hx hb hts ziX3 hown hK hP 0 rfl rfl 11 (by decide) zw3 (fun _ h9 => h9) rfl dX3_mergesAll_62 ?_
          refine lv_iload hx hb dX3_mergesAll_65 (lv_at hl 0 rfl) ?_
          refine lv_iload_n hx hb dX3_mergesAll_67 rfl (lv_at hl 2 rfl) ?_
          obtain ⟨y81, e_y81⟩ : ∃ y : Int32, y = (if x5_1 ≤ x1 then 0 else ((x5_1 - x1) - 1)) := ⟨_, rfl⟩
          have hm := bnd_e hm e_y81
          have J_81 : W p l e (headSpec wsX3_mergesAll ({ frames := 2, cells := 0, slots := 0, locals := 56 } : Room)).room s m ([.ref (md 0)] : List Value).toArray below meth c H locs 0 0 (MQ below (zQv (dC, dI) (wM cI cZ md yth ybd yro u_yrow u_ymk u_yrm u_yst u_ypc ybu u_ybn u_ymg u_ysp u_yjn u_ymd u_ybg u_ymm u_yup u_yun) [(cI, .int), (cZ, .boolean)] A) ([.ref (md 0)] : List Value).toArray s 0 0 A) (F0 m 81 ls [.int y81, .int yspl9, .ref (md 0)]) := by
            refine lv_iadd hx hb dX3_mergesAll_81 ?_
            refine va_put (D := (dC, dI)) (ci := 3) (v := .int (yspl9 + y81)) (ty := .int) (C := RX3) (T := TX3) (N := 18) hx hb hts ziX3 tyX3 tyX3_ok nmX3 hown hK hP hD hS 0 rfl rfl 11 (by decide) zw3 (fun _ h9 => h9) rfl (by decide +kernel) rfl rfl (Nat.le_of_ble_eq_true rfl) dX3_mergesAll_82 (fun H locs hP hD hS => ?_)
            have hP : va_P (dC, dI) vwCl (wM cI cZ md yth ybd yro yrow ymk yrm yst ypc ybu ybn ymg (yspl9 + y81) yjn ymd24 ybgj60 ymm24 yupj60 yunj60) H := hP
            have hD : va_D A (wM cI cZ md yth ybd yro yrow ymk yrm yst ypc ybu ybn ymg (yspl9 + y81) yjn ymd24 ybgj60 ymm24 yupj60 yunj60) := hD
            refine lv_iload hx hb dX3_mergesAll_85 (lv_at hl 0 rfl) ?_
            refine lv_istore_n (lv' := [(1, .int x5_1), (5, .int x5_1), (2, .int x2), (0, .ref (md 0))]) hx hb dX3_mergesAll_87 rfl hl (by decide) rfl (fun ls hl => ?_)
            obtain ⟨x2_1, e_x2_1⟩ : ∃ y : Int32, y = x2 + 1 := ⟨_, rfl⟩
            have hm := bnd_e hm e_x2_1
            refine lv_iinc (v := x2_1) (lv' := [(2, .int x2_1), (1, .int x5_1), (5, .int x5_1), (0, .ref (md 0))]) hx hb dX3_mergesAll_88 hl (k := 2) rfl (by rw [e_x2_1]; rfl) (by decide) rfl (fun ls hl => ?_)
            refine lv_goto (tgt := 9) hx hb dX3_mergesAll_91 (by decide) ?_
            exact ih_9 x2_1 x5_1 (yspl9 + y81) ymd24 ybgj60 ymm24 yupj60 yunj60 hm _ _ hP hD hS _ (lv_sub hl [0, 1, 3] rfl)
          refine lv_icmp_le (tgt := 80) hx hb dX3_mergesAll_68 (by decide) (fun c_68 => ?_) (fun c_68 => ?_)
          · refine lv_iconst (v := 0) hx hb dX3_mergesAll_80 (by decide) ?_
            have e9 : y81 = 0 := by rw [e_y81, if_pos c_68]
            rw [e9] at J_81
            exact J_81
          · refine lv_iload hx hb dX3_mergesAll_71 (lv_at hl 0 rfl) ?_
            refine lv_iload_n hx hb dX3_mergesAll_73 rfl (lv_at hl 2 rfl) ?_
            refine lv_isub hx hb dX3_mergesAll_74 ?_
            refine lv_iconst (v := 1) hx hb dX3_mergesAll_75 (by decide) ?_
            refine lv_isub hx hb dX3_mergesAll_76 ?_
            refine lv_goto (tgt := 81) hx hb dX3_mergesAll_77 (by decide) ?_
            have e9 : y81 = ((x5_1 - x1) - 1) := by rw [e_y81, if_neg c_68]
            rw [e9] at J_81
            exact J_81
        have hm := hq_60
        refine lv_if_eq (tgt := 48) hx hb dX3_mergesAll_34 (by decide) (fun c_34 => ?_) (fun c_34 => ?_)
        · have hm := it_t hm c_34
          refine lv_aload_n hx hb dX3_mergesAll_48 rfl (lv_at hl 5 rfl) ?_
          refine va_get (D := (dC, dI)) (ci := 3) (v := .ref (md 6)) (C := RX3) (T := TX3) (N := 18) hx hb hts ziX3 hown hK hP 0 rfl rfl 14 (by decide) zw2 (fun _ h9 => h9) rfl dX3_mergesAll_49 ?_
          refine lv_iload_n hx hb dX3_mergesAll_52 rfl (lv_at hl 4 rfl) ?_
          refine lv_iload_n hx hb dX3_mergesAll_53 rfl (lv_at hl 2 rfl) ?_
          obtain ⟨c_54, hm⟩ := ck hm
          refine va_iast hx hb hK hP hD hS 6 0 rfl rfl c_54 dX3_mergesAll_54 (fun H locs hP hD hS => ?_)
          have hP : va_P (dC, dI) vwCl (wM cI cZ md yth ybd yro yrow ymk yrm yst ypc ybu ybn ymg yspl9 yjn ymd24 (upd ybgl9 (Int32.toNatClampNeg x1) ymml9) ymm24 yupl9 yunl9) H := hP
          have hD : va_D A (wM cI cZ md yth ybd yro yrow ymk yrm yst ypc ybu ybn ymg yspl9 yjn ymd24 (upd ybgl9 (Int32.toNatClampNeg x1) ymml9) ymm24 yupl9 yunl9) := hD
          refine lv_iload_n hx hb dX3_mergesAll_55 rfl (lv_at hl 4 rfl) ?_
          refine lv_iconst (v := 1) hx hb dX3_mergesAll_56 (by decide) ?_
          refine lv_iadd hx hb dX3_mergesAll_57 ?_
          refine lv_topi (fun x5 e_x5 => ?_)
          have hm := bnd_e hm e_x5
          refine lv_istore (lv' := [(5, .int x5), (4, .int r24), (3, .int ymml9), (2, .int x2), (1, .int x1), (0, .ref (md 0))]) hx hb dX3_mergesAll_58 hl (by decide) rfl (fun ls hl => ?_)
          exact J_60 x5 (upd ybgl9 (Int32.toNatClampNeg x1) ymml9) yupl9 yunl9 (o2 hm) _ _ hP hD hS _ (lv_sub hl [0, 3, 4, 5] rfl)
        · have hm := it_f hm c_34
          refine lv_aload_n hx hb dX3_mergesAll_37 rfl (lv_at hl 5 rfl) ?_
          refine lv_iload_n hx hb dX3_mergesAll_38 rfl (lv_at hl 2 rfl) ?_
          refine lv_iload_n hx hb dX3_mergesAll_39 rfl (lv_at hl 4 rfl) ?_
          obtain ⟨⟨r40, ybg40, yup40, yun40⟩, h_40, hm⟩ := ob hm
          refine z_callWi (wc := (wM cI cZ md yth ybd yro yrow ymk yrm yst ypc ybu ybn ymg yspl9 yjn ymd24 ybgl9 ymm24 yupl9 yunl9)) (w1 := (wM cI cZ md yth ybd yro yrow ymk yrm yst ypc ybu ybn ymg yspl9 yjn ymd24 ybg40 ymm24 yup40 yun40)) (ws := (wM cI cZ md yth ybd yro yrow ymk yrm yst ypc ybu ybn ymg yspl9 yjn ymd24 ybgl9 ymm24 yupl9 yunl9)) (ws' := (wM cI cZ md yth ybd yro yrow ymk yrm yst ypc ybu ybn ymg yspl9 yjn ymd24 ybg40 ymm24 yup40 yun40)) [0, 1, 2, 3, 4, 5, 6] [] 7 (As := [.int ymml9, .int x1]) (rest := []) (ci := 3) (q := (RX3, TX3, 18)) ⟨hx, hb, hml, hown, hts⟩ (c_X3_cuts l dC dI cI cZ md yth ybd yro yrow ymk yrm yst ypc ybu ybn ymg yspl9 yjn ymd24 ybgl9 ymm24 yupl9 yunl9 F ymml9 x1 H.size r40 ybg40 yup40 yun40 h_40) (cwV 2 hts gX3_mergesAll_X3_cuts rfl rfl rfl kv_X3_cuts ⟨Nat.le_of_ble_eq_true rfl, Nat.le_of_ble_eq_true rfl⟩) hK hP hD hS hA hP hD rfl rfl (by decide) rfl rfl (by decide) rfl rfl rfl rfl rfl hl.1 rfl (Nat.le_of_ble_eq_true rfl) dX3_mergesAll_40 ⟨Nat.zero_le _, Nat.zero_le _⟩ (fun H locs hP hD hS => ?_)
          refine lv_istore (lv' := [(5, .int r40), (4, .int r24), (3, .int ymml9), (2, .int x2), (1, .int x1), (0, .ref (md 0))]) hx hb dX3_mergesAll_43 hl (by decide) rfl (fun ls hl => ?_)
          refine lv_goto (tgt := 60) hx hb dX3_mergesAll_45 (by decide) ?_
          exact J_60 r40 ybg40 yup40 yun40 (o2 hm) _ _ hP hD hS _ (lv_sub hl [0, 3, 4, 5] rfl)
  exact L_9 F 0 0 ysp ymd ybg 0 yup yun hq_9 _ _ hP hD hS _ (lv_sub hl [0, 1, 2] rfl)
set_option maxHeartbeats 4000000 in
set_option maxRecDepth 100000 in
theorem c_X3_insert (l : Launch) (dC : Nat → ClassId) (dI : Nat → Nat → Nat) (cI : ClassId) (cZ : ClassId) (md : Nat → Nat) (yth : Int32) (ybd : Int32) (yro : Int32) (yrow : Nat → Int32) (ymk : Nat → Int32) (yrm : Int32) (yst : Nat → Int32) (ypc : Int32) (ybu : Nat → Int32) (ybn : Int32) (ymg : Int32) (ysp : Int32) (yjn : Int32) (ymd : Nat → Int32) (ybg : Nat → Int32) (ymm : Int32) (yup : Int64) (yun : Int64) (F : Nat) (p1 : Int32) (sz : Nat) (r : Int32) (u_yth : Int32) (u_yrow : Nat → Int32) (u_ymk : Nat → Int32) (u_yrm : Int32) (u_yst : Nat → Int32) (u_ypc : Int32) (u_ybu : Nat → Int32) (u_ybn : Int32) (u_ymg : Int32) (u_ysp : Int32) (u_yjn : Int32) (u_ymd : Nat → Int32) (u_ybg : Nat → Int32) (u_ymm : Int32) (u_yup : Int64) (u_yun : Int64) (hm : X3_insert F yth ybd yro yrow ymk yrm yst ypc ybu ybn ymg ysp yjn ymd ybg ymm yup yun p1 = some (r, u_yth, u_yrow, u_ymk, u_yrm, u_yst, u_ypc, u_ybu, u_ybn, u_ymg, u_ysp, u_yjn, u_ymd, u_ybg, u_ymm, u_yup, u_yun)) : Met l yX3_insert wsX3_insert ({ frames := 3, cells := 0, slots := 0, locals := 81 }) (va_Pc [.ref (md 0), .int p1] (zW (dC, dI) (wM cI cZ md yth ybd yro yrow ymk yrm yst ypc ybu ybn ymg ysp yjn ymd ybg ymm yup yun) [(cI, .int), (cZ, .boolean)] sz)) (zQi (dC, dI) (wM cI cZ md u_yth ybd yro u_yrow u_ymk u_yrm u_yst u_ypc u_ybu u_ybn u_ymg u_ysp u_yjn u_ymd u_ybg u_ymm u_yup u_yun) [(cI, .int), (cZ, .boolean)] (va_A (wM cI cZ md yth ybd yro yrow ymk yrm yst ypc ybu ybn ymg ysp yjn ymd ybg ymm yup yun) sz) r) 0 0 (va_A (wM cI cZ md yth ybd yro yrow ymk yrm yst ypc ybu ybn ymg ysp yjn ymd ybg ymm yup yun) sz) := by
  refine Met.ofW (cc := cX3_insert) (maxL := 4) (ret := (some .int)) (by decide) rfl ?_
  intro p e s m args below meth c s₁ B hml hv
  obtain ⟨rfl, hsz, hP, hK, hD0⟩ := hv
  have hx := B.exec
  have hb := B.bytes
  have hr := B.returns
  have hts := atoms_spec (ws := wsX3_insert) B.pre
  have hown : s.vm.findClass RX3 = some m.cls := findClass_of_methodNamed B.named
  have hlocks := B.notSynchronized
  subst hsz
  have hD := hD0.self (sz := s.heap.size)
  generalize hAe : va_A (wM cI cZ md yth ybd yro yrow ymk yrm yst ypc ybu ybn ymg ysp yjn ymd ybg ymm yup yun) s.heap.size = A at hD ⊢
  have hA : ∀ q : Nat, s.heap.size ≤ q → A q := fun q h => by rw [← hAe]; exact Or.inr h
  have hS : va_S A s.heap s.heap [] := va_S.rf
  generalize eL : ([] : List Loc) = locs at hS ⊢
  obtain ⟨H, eH⟩ : ∃ z : Heap, z = s.heap := ⟨_, rfl⟩
  have hP : va_P (dC, dI) vwCl (wM cI cZ md yth ybd yro yrow ymk yrm yst ypc ybu ybn ymg ysp yjn ymd ybg ymm yup yun) H := by rw [eH]; exact hP
  have hS : va_S A s.heap H locs := by rw [eH]; exact hS
  refine z_heap eH ?_
  have hl := lv_entry ([.ref (md 0), .int p1]) (n := 4) (Nat.le_of_ble_eq_true rfl)
  rw [lg_entry_eq]
  generalize (lg_sl ([.ref (md 0), .int p1]) ++ List.replicate (4 - (lg_sl ([.ref (md 0), .int p1])).length) Slot.unset).toArray = ls at hl ⊢
  have hl : lv_has ls 4 [(0, .ref (md 0)), (1, .int p1)] := hl
  have zw0 := hts (.fieldLink RX3 36 "LearnedLedgeModel" "thrown" "I") (by decide +kernel)
  have zw1 := hts (.fieldLink RX3 69 "LearnedLedgeModel" "buffered" "I") (by decide +kernel)
  have zw2 := hts (.fieldLink RX3 27 "LearnedLedgeModel" "buffer" "[I") (by decide +kernel)
  have zw3 := hts (.fieldLink RX3 13 "LearnedLedgeModel" "room" "I") (by decide +kernel)
  have zw4 := hts (.fieldLink RX3 20 "LearnedLedgeModel" "isMarked" "[Z") (by decide +kernel)
  have ziX3 : ∀ w ∈ u_ws RX3 TX3 18, w ∈ wsX3_insert := by decide +kernel
  refine lv_aload_n hx hb dX3_insert_0 rfl (lv_at hl 0 rfl) ?_
  refine lv_iload_n hx hb dX3_insert_1 rfl (lv_at hl 1 rfl) ?_
  obtain ⟨r2, h_2, hm⟩ := ob hm
  refine z_callRi (As := [.int p1]) (rest := []) (ci := 3) (q := (RX3, TX3, 18)) ⟨hx, hb, hml, hown, hts⟩ (c_X3_isInRow l dC dI cI cZ md yth ybd yro yrow ymk yrm yst ypc ybu ybn ymg ysp yjn ymd ybg ymm yup yun F p1 r2 h_2) (cwV 1 hts gX3_insert_X3_isInRow rfl rfl rfl kv_X3_isInRow ⟨Nat.le_of_ble_eq_true rfl, Nat.le_of_ble_eq_true rfl⟩) hK hP rfl rfl rfl rfl hl.1 rfl (Nat.le_of_ble_eq_true rfl) dX3_insert_2 ⟨Nat.zero_le _, Nat.zero_le _⟩ ?_
  refine lv_istore_n (lv' := [(2, .int r2), (0, .ref (md 0)), (1, .int p1)]) hx hb dX3_insert_5 rfl hl (by decide) rfl (fun ls hl => ?_)
  refine lv_aload_n hx hb dX3_insert_6 rfl (lv_at hl 1 rfl) ?_
  refine lv_iload_n hx hb dX3_insert_7 rfl (lv_at hl 2 rfl) ?_
  obtain ⟨r8, h_8, hm⟩ := ob hm
  refine z_callSi (As := [.int p1]) (rest := [.ref (md 0)]) ⟨hx, hb, hml, hown, hts⟩ (c_X3_isKey l dC dI F p1 r8 h_8) (va_cwS 1 hts gX3_insert_X3_isKey rfl rfl rfl ks_X3_isKey ⟨Nat.le_of_ble_eq_true rfl, Nat.le_of_ble_eq_true rfl⟩) (hK.sub (tys' := []) [] rfl) z_P0 rfl hl.1 rfl (Nat.le_of_ble_eq_true rfl) dX3_insert_8 ⟨Nat.zero_le _, Nat.zero_le _⟩ ?_
  obtain ⟨z_45, hq_45, hm⟩ := ob hm
  have J_45 : ∀ (y45 : Int32), z_45 = y45 → W p l e (headSpec wsX3_insert ({ frames := 3, cells := 0, slots := 0, locals := 81 } : Room)).room s m ([.ref (md 0), .int p1] : List Value).toArray below meth c H locs 0 0 (MQ below (zQi (dC, dI) (wM cI cZ md u_yth ybd yro u_yrow u_ymk u_yrm u_yst u_ypc u_ybu u_ybn u_ymg u_ysp u_yjn u_ymd u_ybg u_ymm u_yup u_yun) [(cI, .int), (cZ, .boolean)] A r) ([.ref (md 0), .int p1] : List Value).toArray s 0 0 A) (F0 m 45 ls [.int y45, .ref (md 0)]) := by
    intro y45 ez
    rw [ez] at hm
    refine va_put (D := (dC, dI)) (ci := 3) (v := .int y45) (ty := .int) (C := RX3) (T := TX3) (N := 18) hx hb hts ziX3 tyX3 tyX3_ok nmX3 hown hK hP hD hS 0 rfl rfl 0 (by decide) zw0 (fun _ h9 => h9) rfl (by decide +kernel) rfl rfl (Nat.le_of_ble_eq_true rfl) dX3_insert_45 (fun H locs hP hD hS => ?_)
    have hP : va_P (dC, dI) vwCl (wM cI cZ md y45 ybd yro yrow ymk yrm yst ypc ybu ybn ymg ysp yjn ymd ybg ymm yup yun) H := hP
    have hD : va_D A (wM cI cZ md y45 ybd yro yrow ymk yrm yst ypc ybu ybn ymg ysp yjn ymd ybg ymm yup yun) := hD
    refine lv_aload_n hx hb dX3_insert_48 rfl (lv_at hl 1 rfl) ?_
    refine va_get (D := (dC, dI)) (ci := 3) (v := .int y45) (C := RX3) (T := TX3) (N := 18) hx hb hts ziX3 hown hK hP 0 rfl rfl 0 (by decide) zw0 (fun _ h9 => h9) rfl dX3_insert_49 ?_
    refine lv_if_le (tgt := 57) hx hb dX3_insert_52 (by decide) (fun c_52 => ?_) (fun c_52 => ?_)
    · have hm := it_t hm c_52
      refine lv_iload_n hx hb dX3_insert_57 rfl (lv_at hl 0 rfl) ?_
      refine lv_if_eq (tgt := 77) hx hb dX3_insert_58 (by decide) (fun c_58 => ?_) (fun c_58 => ?_)
      · have hm := it_t hm c_58
        refine lv_aload_n hx hb dX3_insert_77 rfl (lv_at hl 1 rfl) ?_
        refine va_get (D := (dC, dI)) (ci := 3) (v := .int ybn) (C := RX3) (T := TX3) (N := 18) hx hb hts ziX3 hown hK hP 0 rfl rfl 9 (by decide) zw1 (fun _ h9 => h9) rfl dX3_insert_78 ?_
        refine lv_istore_n (lv' := [(3, .int ybn), (2, .int r2), (0, .ref (md 0)), (1, .int p1)]) hx hb dX3_insert_81 rfl hl (by decide) rfl (fun ls hl => ?_)
        obtain ⟨z_82, hq_82, hm⟩ := ob hm
        have K_82 : ∀ (x3_2 : Int32), ∀ (ybux82 : Nat → Int32), z_82 = (x3_2, ybux82) → ∀ (H : Heap) (locs : List Loc), va_P (dC, dI) vwCl (wM cI cZ md y45 ybd yro yrow ymk yrm yst ypc ybux82 ybn ymg ysp yjn ymd ybg ymm yup yun) H → va_D A (wM cI cZ md y45 ybd yro yrow ymk yrm yst ypc ybux82 ybn ymg ysp yjn ymd ybg ymm yup yun) → va_S A s.heap H locs → ∀ (ls : Array Slot), lv_has ls 4 [(3, .int x3_2), (0, .ref (md 0)), (1, .int p1)] → W p l e (headSpec wsX3_insert ({ frames := 3, cells := 0, slots := 0, locals := 81 } : Room)).room s m ([.ref (md 0), .int p1] : List Value).toArray below meth c H locs 0 0 (MQ below (zQi (dC, dI) (wM cI cZ md u_yth ybd yro u_yrow u_ymk u_yrm u_yst u_ypc u_ybu u_ybn u_ymg u_ysp u_yjn u_ymd u_ybg u_ymm u_yup u_yun) [(cI, .int), (cZ, .boolean)] A r) ([.ref (md 0), .int p1] : List Value).toArray s 0 0 A) (F0 m 118 ls []) := by
          intro x3_2 ybux82 ez H locs hP hD hS ls hl
          rw [ez] at hm
          refine lv_aload_n hx hb dX3_insert_118 rfl (lv_at hl 1 rfl) ?_
          refine va_get (D := (dC, dI)) (ci := 3) (v := .ref (md 4)) (C := RX3) (T := TX3) (N := 18) hx hb hts ziX3 hown hK hP 0 rfl rfl 8 (by decide) zw2 (fun _ h9 => h9) rfl dX3_insert_119 ?_
          refine lv_iload_n hx hb dX3_insert_122 rfl (lv_at hl 0 rfl) ?_
          refine lv_iload_n hx hb dX3_insert_123 rfl (lv_at hl 2 rfl) ?_
          obtain ⟨c_124, hm⟩ := ck hm
          refine va_iast hx hb hK hP hD hS 4 0 rfl rfl c_124 dX3_insert_124 (fun H locs hP hD hS => ?_)
          have hP : va_P (dC, dI) vwCl (wM cI cZ md y45 ybd yro yrow ymk yrm yst ypc (upd ybux82 (Int32.toNatClampNeg x3_2) p1) ybn ymg ysp yjn ymd ybg ymm yup yun) H := hP
          have hD : va_D A (wM cI cZ md y45 ybd yro yrow ymk yrm yst ypc (upd ybux82 (Int32.toNatClampNeg x3_2) p1) ybn ymg ysp yjn ymd ybg ymm yup yun) := hD
          refine lv_aload_n hx hb dX3_insert_125 rfl (lv_at hl 1 rfl) ?_
          refine lv_dup hx hb dX3_insert_126 rfl ?_
          refine va_get (D := (dC, dI)) (ci := 3) (v := .int ybn) (C := RX3) (T := TX3) (N := 18) hx hb hts ziX3 hown hK hP 0 rfl rfl 9 (by decide) zw1 (fun _ h9 => h9) rfl dX3_insert_127 ?_
          refine lv_iconst (v := 1) hx hb dX3_insert_130 (by decide) ?_
          refine lv_iadd hx hb dX3_insert_131 ?_
          refine va_put (D := (dC, dI)) (ci := 3) (v := .int (ybn + 1)) (ty := .int) (C := RX3) (T := TX3) (N := 18) hx hb hts ziX3 tyX3 tyX3_ok nmX3 hown hK hP hD hS 0 rfl rfl 9 (by decide) zw1 (fun _ h9 => h9) rfl (by decide +kernel) rfl rfl (Nat.le_of_ble_eq_true rfl) dX3_insert_132 (fun H locs hP hD hS => ?_)
          have hP : va_P (dC, dI) vwCl (wM cI cZ md y45 ybd yro yrow ymk yrm yst ypc (upd ybux82 (Int32.toNatClampNeg x3_2) p1) (ybn + 1) ymg ysp yjn ymd ybg ymm yup yun) H := hP
          have hD : va_D A (wM cI cZ md y45 ybd yro yrow ymk yrm yst ypc (upd ybux82 (Int32.toNatClampNeg x3_2) p1) (ybn + 1) ymg ysp yjn ymd ybg ymm yup yun) := hD
          refine lv_aload_n hx hb dX3_insert_135 rfl (lv_at hl 1 rfl) ?_
          refine va_get (D := (dC, dI)) (ci := 3) (v := .int (ybn + 1)) (C := RX3) (T := TX3) (N := 18) hx hb hts ziX3 hown hK hP 0 rfl rfl 9 (by decide) zw1 (fun _ h9 => h9) rfl dX3_insert_136 ?_
          refine lv_aload_n hx hb dX3_insert_139 rfl (lv_at hl 1 rfl) ?_
          refine va_get (D := (dC, dI)) (ci := 3) (v := .int yro) (C := RX3) (T := TX3) (N := 18) hx hb hts ziX3 hown hK hP 0 rfl rfl 2 (by decide) zw3 (fun _ h9 => h9) rfl dX3_insert_140 ?_
          refine lv_icmp_ne (tgt := 150) hx hb dX3_insert_143 (by decide) (fun c_143 => ?_) (fun c_143 => ?_)
          · have hm := it_f hm c_143
            refine lv_aload_n hx hb dX3_insert_150 rfl (lv_at hl 1 rfl) ?_
            refine va_get (D := (dC, dI)) (ci := 3) (v := .int (ybn + 1)) (C := RX3) (T := TX3) (N := 18) hx hb hts ziX3 hown hK hP 0 rfl rfl 9 (by decide) zw1 (fun _ h9 => h9) rfl dX3_insert_151 ?_
            cases o2 hm
            exact W.iret hx hb hr (fun t ht hW => ⟨⟨_, (), rfl, rfl, by rw [ht]; exact hP, va_K.moved hW.alike hK, hD⟩, hS.F ht⟩) hS.2.2 dX3_insert_154
          · have hm := it_t hm c_143
            refine lv_aload_n hx hb dX3_insert_146 rfl (lv_at hl 1 rfl) ?_
            obtain ⟨⟨yrow147, ymk147, yrm147, yst147, ypc147, ybn147, ymg147, ysp147, yjn147, ymd147, ybg147, ymm147, yup147, yun147⟩, h_147, hm⟩ := ob hm
            refine z_callWv (wc := (wM cI cZ md y45 ybd yro yrow ymk yrm yst ypc (upd ybux82 (Int32.toNatClampNeg x3_2) p1) (ybn + 1) ymg ysp yjn ymd ybg ymm yup yun)) (w1 := (wM cI cZ md y45 ybd yro yrow147 ymk147 yrm147 yst147 ypc147 (upd ybux82 (Int32.toNatClampNeg x3_2) p1) ybn147 ymg147 ysp147 yjn147 ymd147 ybg147 ymm147 yup147 yun147)) (ws := (wM cI cZ md y45 ybd yro yrow ymk yrm yst ypc (upd ybux82 (Int32.toNatClampNeg x3_2) p1) (ybn + 1) ymg ysp yjn ymd ybg ymm yup yun)) (ws' := (wM cI cZ md y45 ybd yro yrow147 ymk147 yrm147 yst147 ypc147 (upd ybux82 (Int32.toNatClampNeg x3_2) p1) ybn147 ymg147 ysp147 yjn147 ymd147 ybg147 ymm147 yup147 yun147)) [0, 1, 2, 3, 4, 5, 6] [] 7 (As := []) (rest := []) (ci := 3) (q := (RX3, TX3, 18)) ⟨hx, hb, hml, hown, hts⟩ (c_X3_mergesAll l dC dI cI cZ md y45 ybd yro yrow ymk yrm yst ypc (upd ybux82 (Int32.toNatClampNeg x3_2) p1) (ybn + 1) ymg ysp yjn ymd ybg ymm yup yun F H.size yrow147 ymk147 yrm147 yst147 ypc147 ybn147 ymg147 ysp147 yjn147 ymd147 ybg147 ymm147 yup147 yun147 h_147) (cwV 0 hts gX3_insert_X3_mergesAll rfl rfl rfl kv_X3_mergesAll ⟨Nat.le_of_ble_eq_true rfl, Nat.le_of_ble_eq_true rfl⟩) hK hP hD hS hA hP hD rfl rfl (by decide) rfl rfl (by decide) rfl rfl rfl rfl rfl hl.1 rfl (Nat.le_of_ble_eq_true rfl) dX3_insert_147 ⟨Nat.zero_le _, Nat.zero_le _⟩ (fun H locs hP hD hS => ?_)
            refine lv_aload_n hx hb dX3_insert_150 rfl (lv_at hl 1 rfl) ?_
            refine va_get (D := (dC, dI)) (ci := 3) (v := .int ybn147) (C := RX3) (T := TX3) (N := 18) hx hb hts ziX3 hown hK hP 0 rfl rfl 9 (by decide) zw1 (fun _ h9 => h9) rfl dX3_insert_151 ?_
            cases o2 hm
            exact W.iret hx hb hr (fun t ht hW => ⟨⟨_, (), rfl, rfl, by rw [ht]; exact hP, va_K.moved hW.alike hK, hD⟩, hS.F ht⟩) hS.2.2 dX3_insert_154
        have L_82 : ∀ (n : Nat) (x3 : Int32) (ybul82 : Nat → Int32), X3_insert_L82 p1 n x3 ybul82 = some z_82 → ∀ (H : Heap) (locs : List Loc), va_P (dC, dI) vwCl (wM cI cZ md y45 ybd yro yrow ymk yrm yst ypc ybul82 ybn ymg ysp yjn ymd ybg ymm yup yun) H → va_D A (wM cI cZ md y45 ybd yro yrow ymk yrm yst ypc ybul82 ybn ymg ysp yjn ymd ybg ymm yup yun) → va_S A s.heap H locs → ∀ (ls : Array Slot), lv_has ls 4 [(3, .int x3), (0, .ref (md 0)), (1, .int p1)] → W p l e (headSpec wsX3_insert ({ frames := 3, cells := 0, slots := 0, locals := 81 } : Room)).room s m ([.ref (md 0), .int p1] : List Value).toArray below meth c H locs 0 0 (MQ below (zQi (dC, dI) (wM cI cZ md u_yth ybd yro u_yrow u_ymk u_yrm u_yst u_ypc u_ybu u_ybn u_ymg u_ysp u_yjn u_ymd u_ybg u_ymm u_yup u_yun) [(cI, .int), (cZ, .boolean)] A r) ([.ref (md 0), .int p1] : List Value).toArray s 0 0 A) (F0 m 82 ls []) := by
          intro n
          induction n with
          | zero => intro x3 ybul82 hm; cases hm
          | succ n ih_82 =>
            intro x3 ybul82 hm H locs hP hD hS ls hl
            refine lv_iload_n hx hb dX3_insert_82 rfl (lv_at hl 0 rfl) ?_
            refine lv_if_le (tgt := 118) hx hb dX3_insert_83 (by decide) (fun c_83 => ?_) (fun c_83 => ?_)
            · have hm := it_t hm c_83
              exact K_82 x3 ybul82 (o2 hm) _ _ hP hD hS _ (lv_sub hl [0, 1, 2] rfl)
            · have hm := it_f hm c_83
              refine lv_aload_n hx hb dX3_insert_86 rfl (lv_at hl 1 rfl) ?_
              refine va_get (D := (dC, dI)) (ci := 3) (v := .ref (md 4)) (C := RX3) (T := TX3) (N := 18) hx hb hts ziX3 hown hK hP 0 rfl rfl 8 (by decide) zw2 (fun _ h9 => h9) rfl dX3_insert_87 ?_
              refine lv_iload_n hx hb dX3_insert_90 rfl (lv_at hl 0 rfl) ?_
              refine lv_iconst (v := 1) hx hb dX3_insert_91 (by decide) ?_
              refine lv_isub hx hb dX3_insert_92 ?_
              obtain ⟨c_93, hm⟩ := ck hm
              refine va_iald hx hb hK hP 4 0 rfl rfl c_93 dX3_insert_93 ?_
              refine lv_iload_n hx hb dX3_insert_94 rfl (lv_at hl 2 rfl) ?_
              refine lv_icmp_le (tgt := 118) hx hb dX3_insert_95 (by decide) (fun c_95 => ?_) (fun c_95 => ?_)
              · have hm := it_t hm c_95
                exact K_82 x3 ybul82 (o2 hm) _ _ hP hD hS _ (lv_sub hl [0, 1, 2] rfl)
              · have hm := it_f hm c_95
                refine lv_aload_n hx hb dX3_insert_98 rfl (lv_at hl 1 rfl) ?_
                refine va_get (D := (dC, dI)) (ci := 3) (v := .ref (md 4)) (C := RX3) (T := TX3) (N := 18) hx hb hts ziX3 hown hK hP 0 rfl rfl 8 (by decide) zw2 (fun _ h9 => h9) rfl dX3_insert_99 ?_
                refine lv_iload_n hx hb dX3_insert_102 rfl (lv_at hl 0 rfl) ?_
                refine lv_aload_n hx hb dX3_insert_103 rfl (lv_at hl 1 rfl) ?_
                refine va_get (D := (dC, dI)) (ci := 3) (v := .ref (md 4)) (C := RX3) (T := TX3) (N := 18) hx hb hts ziX3 hown hK hP 0 rfl rfl 8 (by decide) zw2 (fun _ h9 => h9) rfl dX3_insert_104 ?_
                refine lv_iload_n hx hb dX3_insert_107 rfl (lv_at hl 0 rfl) ?_
                refine lv_iconst (v := 1) hx hb dX3_insert_108 (by decide) ?_
                refine lv_isub hx hb dX3_insert_109 ?_
                obtain ⟨c_110, hm⟩ := ck hm
                refine va_iald hx hb hK hP 4 0 rfl rfl c_110 dX3_insert_110 ?_
                obtain ⟨c_111, hm⟩ := ck hm
                refine va_iast hx hb hK hP hD hS 4 0 rfl rfl c_111 dX3_insert_111 (fun H locs hP hD hS => ?_)
                have hP : va_P (dC, dI) vwCl (wM cI cZ md y45 ybd yro yrow ymk yrm yst ypc (upd ybul82 (Int32.toNatClampNeg x3) (ybul82 (Int32.toNatClampNeg (x3 - 1)))) ybn ymg ysp yjn ymd ybg ymm yup yun) H := hP
                have hD : va_D A (wM cI cZ md y45 ybd yro yrow ymk yrm yst ypc (upd ybul82 (Int32.toNatClampNeg x3) (ybul82 (Int32.toNatClampNeg (x3 - 1)))) ybn ymg ysp yjn ymd ybg ymm yup yun) := hD
                obtain ⟨x3_1, e_x3_1⟩ : ∃ y : Int32, y = x3 + (-1) := ⟨_, rfl⟩
                have hm := bnd_e hm e_x3_1
                refine lv_iinc (v := x3_1) (lv' := [(3, .int x3_1), (0, .ref (md 0)), (1, .int p1)]) hx hb dX3_insert_112 hl (k := 0) rfl (by rw [e_x3_1]; rfl) (by decide) rfl (fun ls hl => ?_)
                refine lv_goto (tgt := 82) hx hb dX3_insert_115 (by decide) ?_
                exact ih_82 x3_1 (upd ybul82 (Int32.toNatClampNeg x3) (ybul82 (Int32.toNatClampNeg (x3 - 1)))) hm _ _ hP hD hS _ (lv_sub hl [0, 1, 2] rfl)
        exact L_82 F ybn ybu hq_82 _ _ hP hD hS _ (lv_sub hl [0, 2, 3] rfl)
      · have hm := it_f hm c_58
        refine lv_aload_n hx hb dX3_insert_61 rfl (lv_at hl 1 rfl) ?_
        refine va_get (D := (dC, dI)) (ci := 3) (v := .ref (md 2)) (C := RX3) (T := TX3) (N := 18) hx hb hts ziX3 hown hK hP 0 rfl rfl 4 (by decide) zw4 (fun _ h9 => h9) rfl dX3_insert_62 ?_
        refine lv_aload_n hx hb dX3_insert_65 rfl (lv_at hl 1 rfl) ?_
        refine lv_iload_n hx hb dX3_insert_66 rfl (lv_at hl 2 rfl) ?_
        obtain ⟨r67, h_67, hm⟩ := ob hm
        refine z_callRi (As := [.int p1]) (rest := [.ref (md 2)]) (ci := 3) (q := (RX3, TX3, 18)) ⟨hx, hb, hml, hown, hts⟩ (c_X3_placeOf l dC dI cI cZ md y45 ybd yro yrow ymk yrm yst ypc ybu ybn ymg ysp yjn ymd ybg ymm yup yun F p1 r67 h_67) (cwV 1 hts gX3_insert_X3_placeOf rfl rfl rfl kv_X3_placeOf ⟨Nat.le_of_ble_eq_true rfl, Nat.le_of_ble_eq_true rfl⟩) hK hP rfl rfl rfl rfl hl.1 rfl (Nat.le_of_ble_eq_true rfl) dX3_insert_67 ⟨Nat.zero_le _, Nat.zero_le _⟩ ?_
        refine lv_iconst (v := 0) hx hb dX3_insert_70 (by decide) ?_
        obtain ⟨c_71, hm⟩ := ck hm
        refine va_zast hx hb hK hP hD hS 2 1 rfl rfl c_71 dX3_insert_71 (fun H locs hP hD hS => ?_)
        have hP : va_P (dC, dI) vwCl (wM cI cZ md y45 ybd yro yrow (upd ymk (Int32.toNatClampNeg r67) 0) yrm yst ypc ybu ybn ymg ysp yjn ymd ybg ymm yup yun) H := hP
        have hD : va_D A (wM cI cZ md y45 ybd yro yrow (upd ymk (Int32.toNatClampNeg r67) 0) yrm yst ypc ybu ybn ymg ysp yjn ymd ybg ymm yup yun) := hD
        refine lv_aload_n hx hb dX3_insert_72 rfl (lv_at hl 1 rfl) ?_
        refine va_get (D := (dC, dI)) (ci := 3) (v := .int ybn) (C := RX3) (T := TX3) (N := 18) hx hb hts ziX3 hown hK hP 0 rfl rfl 9 (by decide) zw1 (fun _ h9 => h9) rfl dX3_insert_73 ?_
        cases o2 hm
        exact W.iret hx hb hr (fun t ht hW => ⟨⟨_, (), rfl, rfl, by rw [ht]; exact hP, va_K.moved hW.alike hK, hD⟩, hS.F ht⟩) hS.2.2 dX3_insert_76
    · have hm := it_f hm c_52
      refine lv_iconst (v := 0) hx hb dX3_insert_55 (by decide) ?_
      cases o2 hm
      exact W.iret hx hb hr (fun t ht hW => ⟨⟨_, (), rfl, rfl, by rw [ht]; exact hP, va_K.moved hW.alike hK, hD⟩, hS.F ht⟩) hS.2.2 dX3_insert_56
  have hm := hq_45
  refine lv_if_ne (tgt := 18) hx hb dX3_insert_11 (by decide) (fun c_11 => ?_) (fun c_11 => ?_)
  · have hm := it_f hm c_11
    refine lv_aload_n hx hb dX3_insert_18 rfl (lv_at hl 1 rfl) ?_
    refine lv_iload_n hx hb dX3_insert_19 rfl (lv_at hl 2 rfl) ?_
    obtain ⟨r20, h_20, hm⟩ := ob hm
    refine z_callRi (As := [.int p1]) (rest := [.ref (md 0)]) (ci := 3) (q := (RX3, TX3, 18)) ⟨hx, hb, hml, hown, hts⟩ (c_X3_isThere l dC dI cI cZ md yth ybd yro yrow ymk yrm yst ypc ybu ybn ymg ysp yjn ymd ybg ymm yup yun F p1 r20 h_20) (cwV 1 hts gX3_insert_X3_isThere rfl rfl rfl kv_X3_isThere ⟨Nat.le_of_ble_eq_true rfl, Nat.le_of_ble_eq_true rfl⟩) hK hP rfl rfl rfl rfl hl.1 rfl (Nat.le_of_ble_eq_true rfl) dX3_insert_20 ⟨Nat.zero_le _, Nat.zero_le _⟩ ?_
    refine lv_if_ne (tgt := 40) hx hb dX3_insert_23 (by decide) (fun c_23 => ?_) (fun c_23 => ?_)
    · have hm := it_f hm c_23
      refine lv_iconst (v := 2) hx hb dX3_insert_40 (by decide) ?_
      refine lv_goto (tgt := 45) hx hb dX3_insert_41 (by decide) ?_
      exact J_45 2 (o2 hm)
    · have hm := it_t hm c_23
      refine lv_aload_n hx hb dX3_insert_26 rfl (lv_at hl 1 rfl) ?_
      obtain ⟨r27, h_27, hm⟩ := ob hm
      refine z_callRi (As := []) (rest := [.ref (md 0)]) (ci := 3) (q := (RX3, TX3, 18)) ⟨hx, hb, hml, hown, hts⟩ (c_X3_many l dC dI cI cZ md yth ybd yro yrow ymk yrm yst ypc ybu ybn ymg ysp yjn ymd ybg ymm yup yun F r27 h_27) (cwV 0 hts gX3_insert_X3_many rfl rfl rfl kv_X3_many ⟨Nat.le_of_ble_eq_true rfl, Nat.le_of_ble_eq_true rfl⟩) hK hP rfl rfl rfl rfl hl.1 rfl (Nat.le_of_ble_eq_true rfl) dX3_insert_27 ⟨Nat.zero_le _, Nat.zero_le _⟩ ?_
      refine lv_sipush (v := 256) hx hb dX3_insert_30 (by decide) ?_
      refine lv_icmp_ne (tgt := 44) hx hb dX3_insert_33 (by decide) (fun c_33 => ?_) (fun c_33 => ?_)
      · have hm := it_f hm c_33
        refine lv_iconst (v := 0) hx hb dX3_insert_44 (by decide) ?_
        exact J_45 0 (o2 hm)
      · have hm := it_t hm c_33
        refine lv_iload_n hx hb dX3_insert_36 rfl (lv_at hl 0 rfl) ?_
        refine lv_if_ne (tgt := 44) hx hb dX3_insert_37 (by decide) (fun c_37 => ?_) (fun c_37 => ?_)
        · have hm := it_f hm c_37
          refine lv_iconst (v := 0) hx hb dX3_insert_44 (by decide) ?_
          exact J_45 0 (o2 hm)
        · have hm := it_t hm c_37
          refine lv_iconst (v := 2) hx hb dX3_insert_40 (by decide) ?_
          refine lv_goto (tgt := 45) hx hb dX3_insert_41 (by decide) ?_
          exact J_45 2 (o2 hm)
  · have hm := it_t hm c_11
    refine lv_iconst (v := 1) hx hb dX3_insert_14 (by decide) ?_
    refine lv_goto (tgt := 45) hx hb dX3_insert_15 (by decide) ?_
    exact J_45 1 (o2 hm)
set_option maxHeartbeats 4000000 in
set_option maxRecDepth 100000 in
theorem c_X3_below (l : Launch) (dC : Nat → ClassId) (dI : Nat → Nat → Nat) (cI : ClassId) (cZ : ClassId) (md : Nat → Nat) (yth : Int32) (ybd : Int32) (yro : Int32) (yrow : Nat → Int32) (ymk : Nat → Int32) (yrm : Int32) (yst : Nat → Int32) (ypc : Int32) (ybu : Nat → Int32) (ybn : Int32) (ymg : Int32) (ysp : Int32) (yjn : Int32) (ymd : Nat → Int32) (ybg : Nat → Int32) (ymm : Int32) (yup : Int64) (yun : Int64) (F : Nat) (p1 : Int64) (r : Int32) (hm : X3_below F yrow ymk yrm ybu ybn p1 = some r) : Met l yX3_below wsX3_below ({ frames := 0, cells := 0, slots := 0, locals := 0 }) (va_Pc [.ref (md 0), .long p1] (zR (dC, dI) (wM cI cZ md yth ybd yro yrow ymk yrm yst ypc ybu ybn ymg ysp yjn ymd ybg ymm yup yun) [(cI, .int), (cZ, .boolean)])) (vp_Si (fun v => v = r)) 0 0 (fun _ => False) := by
  refine Met.ofW (cc := cX3_below) (maxL := 5) (ret := (some .int)) (by decide) rfl ?_
  intro p e s m args below meth c s₁ B hml hv
  obtain ⟨rfl, hP, hK⟩ := hv
  have hx := B.exec
  have hb := B.bytes
  have hr := B.returns
  have hts := atoms_spec (ws := wsX3_below) B.pre
  have hown : s.vm.findClass RX3 = some m.cls := findClass_of_methodNamed B.named
  have hlocks := B.notSynchronized
  have hl := lv_entry ([.ref (md 0), .long p1]) (n := 5) (Nat.le_of_ble_eq_true rfl)
  rw [lg_entry_eq]
  generalize (lg_sl ([.ref (md 0), .long p1]) ++ List.replicate (5 - (lg_sl ([.ref (md 0), .long p1])).length) Slot.unset).toArray = ls at hl ⊢
  have hl : lv_has ls 5 [(0, .ref (md 0)), (1, .long p1)] := hl
  have zw0 := hts (.fieldLink RX3 51 "LearnedLedgeModel" "rowMany" "I") (by decide +kernel)
  have zw1 := hts (.fieldLink RX3 20 "LearnedLedgeModel" "isMarked" "[Z") (by decide +kernel)
  have zw2 := hts (.fieldLink RX3 16 "LearnedLedgeModel" "row" "[I") (by decide +kernel)
  have zw3 := hts (.fieldLink RX3 69 "LearnedLedgeModel" "buffered" "I") (by decide +kernel)
  have zw4 := hts (.fieldLink RX3 27 "LearnedLedgeModel" "buffer" "[I") (by decide +kernel)
  have ziX3 : ∀ w ∈ u_ws RX3 TX3 18, w ∈ wsX3_below := by decide +kernel
  refine lv_iconst (v := 0) hx hb dX3_below_0 (by decide) ?_
  refine lv_istore_n (lv' := [(3, .int 0), (0, .ref (md 0)), (1, .long p1)]) hx hb dX3_below_1 rfl hl (by decide) rfl (fun ls hl => ?_)
  refine lv_iconst (v := 0) hx hb dX3_below_2 (by decide) ?_
  refine lv_istore (lv' := [(4, .int 0), (3, .int 0), (0, .ref (md 0)), (1, .long p1)]) hx hb dX3_below_3 hl (by decide) rfl (fun ls hl => ?_)
  obtain ⟨z_5, hq_5, hm⟩ := ob hm
  have K_5 : ∀ (x3_4 : Int32), z_5 = x3_4 → ∀ (ls : Array Slot), lv_has ls 5 [(3, .int x3_4), (0, .ref (md 0)), (1, .long p1)] → W p l e (headSpec wsX3_below ({ frames := 0, cells := 0, slots := 0, locals := 0 } : Room)).room s m ([.ref (md 0), .long p1] : List Value).toArray below meth c s.heap [] 0 0 (MQ below (vp_Si (fun v => v = r)) ([.ref (md 0), .long p1] : List Value).toArray s 0 0 (fun _ => False)) (F0 m 51 ls []) := by
    intro x3_4 ez ls hl
    rw [ez] at hm
    refine lv_iconst (v := 0) hx hb dX3_below_51 (by decide) ?_
    refine lv_istore (lv' := [(4, .int 0), (3, .int x3_4), (0, .ref (md 0)), (1, .long p1)]) hx hb dX3_below_52 hl (by decide) rfl (fun ls hl => ?_)
    obtain ⟨z_54, hq_54, hm⟩ := ob hm
    have K_54 : ∀ (x3_8 : Int32), z_54 = x3_8 → ∀ (ls : Array Slot), lv_has ls 5 [(3, .int x3_8)] → W p l e (headSpec wsX3_below ({ frames := 0, cells := 0, slots := 0, locals := 0 } : Room)).room s m ([.ref (md 0), .long p1] : List Value).toArray below meth c s.heap [] 0 0 (MQ below (vp_Si (fun v => v = r)) ([.ref (md 0), .long p1] : List Value).toArray s 0 0 (fun _ => False)) (F0 m 90 ls []) := by
      intro x3_8 ez ls hl
      rw [ez] at hm
      refine lv_iload_n hx hb dX3_below_90 rfl (lv_at hl 0 rfl) ?_
      exact W.iret hx hb hr (fun t ht hW => ⟨_, rfl, (o2 hm).symm, ht⟩) (fun q h => absurd h List.not_mem_nil) dX3_below_91
    have L_54 : ∀ (n : Nat) (x4_4 : Int32) (x3_5 : Int32), X3_below_L54 p1 ybu ybn n x4_4 x3_5 = some z_54 → ∀ (ls : Array Slot), lv_has ls 5 [(4, .int x4_4), (3, .int x3_5), (0, .ref (md 0)), (1, .long p1)] → W p l e (headSpec wsX3_below ({ frames := 0, cells := 0, slots := 0, locals := 0 } : Room)).room s m ([.ref (md 0), .long p1] : List Value).toArray below meth c s.heap [] 0 0 (MQ below (vp_Si (fun v => v = r)) ([.ref (md 0), .long p1] : List Value).toArray s 0 0 (fun _ => False)) (F0 m 54 ls []) := by
      intro n
      induction n with
      | zero => intro x4_4 x3_5 hm; cases hm
      | succ n ih_54 =>
        intro x4_4 x3_5 hm ls hl
        refine lv_iload hx hb dX3_below_54 (lv_at hl 0 rfl) ?_
        refine lv_aload_n hx hb dX3_below_56 rfl (lv_at hl 2 rfl) ?_
        refine va_get (D := (dC, dI)) (ci := 3) (v := .int ybn) (C := RX3) (T := TX3) (N := 18) hx hb hts ziX3 hown hK hP 0 rfl rfl 9 (by decide) zw3 (fun _ h9 => h9) rfl dX3_below_57 ?_
        refine lv_icmp_ge (tgt := 90) hx hb dX3_below_60 (by decide) (fun c_60 => ?_) (fun c_60 => ?_)
        · have hm := it_t hm c_60
          exact K_54 x3_5 (o2 hm) _ (lv_sub hl [1] rfl)
        · have hm := it_f hm c_60
          refine lv_iload_n hx hb dX3_below_63 rfl (lv_at hl 1 rfl) ?_
          refine lv_aload_n hx hb dX3_below_64 rfl (lv_at hl 2 rfl) ?_
          refine va_get (D := (dC, dI)) (ci := 3) (v := .ref (md 4)) (C := RX3) (T := TX3) (N := 18) hx hb hts ziX3 hown hK hP 0 rfl rfl 8 (by decide) zw4 (fun _ h9 => h9) rfl dX3_below_65 ?_
          refine lv_iload hx hb dX3_below_68 (lv_at hl 0 rfl) ?_
          obtain ⟨c_70, hm⟩ := ck hm
          refine va_iald hx hb hK hP 4 0 rfl rfl c_70 dX3_below_70 ?_
          refine lv_i2l hx hb dX3_below_71 rfl ?_
          refine lv_lload_n hx hb dX3_below_72 rfl (lv_at hl 3 rfl) ?_
          refine W.lcmp hx hb dX3_below_73 ?_
          refine lv_if_ge (tgt := 81) hx hb dX3_below_74 (by decide) (fun c_74 => ?_) (fun c_74 => ?_)
          · have c_74 : p1 ≤ (Int32.toInt64 (ybu (Int32.toNatClampNeg x4_4))) := (lg_cmp_ge _ _).mp c_74
            have hm := it_t hm c_74
            refine lv_iconst (v := 0) hx hb dX3_below_81 (by decide) ?_
            refine lv_iadd hx hb dX3_below_82 ?_
            refine lv_topi (fun x3_6 e_x3_6 => ?_)
            have hm := bnd_e hm e_x3_6
            refine lv_istore_n (lv' := [(3, .int x3_6), (4, .int x4_4), (0, .ref (md 0)), (1, .long p1)]) hx hb dX3_below_83 rfl hl (by decide) rfl (fun ls hl => ?_)
            obtain ⟨x4_5, e_x4_5⟩ : ∃ y : Int32, y = x4_4 + 1 := ⟨_, rfl⟩
            have hm := bnd_e hm e_x4_5
            refine lv_iinc (v := x4_5) (lv' := [(4, .int x4_5), (3, .int x3_6), (0, .ref (md 0)), (1, .long p1)]) hx hb dX3_below_84 hl (k := 1) rfl (by rw [e_x4_5]; rfl) (by decide) rfl (fun ls hl => ?_)
            refine lv_goto (tgt := 54) hx hb dX3_below_87 (by decide) ?_
            exact ih_54 x4_5 x3_6 hm _ (lv_sub hl [0, 1, 2, 3] rfl)
          · have c_74 : ¬ (p1 ≤ (Int32.toInt64 (ybu (Int32.toNatClampNeg x4_4)))) := fun h => c_74 ((lg_cmp_ge _ _).mpr h)
            have hm := it_f hm c_74
            refine lv_iconst (v := 1) hx hb dX3_below_77 (by decide) ?_
            refine lv_goto (tgt := 82) hx hb dX3_below_78 (by decide) ?_
            refine lv_iadd hx hb dX3_below_82 ?_
            refine lv_topi (fun x3_7 e_x3_7 => ?_)
            have hm := bnd_e hm e_x3_7
            refine lv_istore_n (lv' := [(3, .int x3_7), (4, .int x4_4), (0, .ref (md 0)), (1, .long p1)]) hx hb dX3_below_83 rfl hl (by decide) rfl (fun ls hl => ?_)
            obtain ⟨x4_6, e_x4_6⟩ : ∃ y : Int32, y = x4_4 + 1 := ⟨_, rfl⟩
            have hm := bnd_e hm e_x4_6
            refine lv_iinc (v := x4_6) (lv' := [(4, .int x4_6), (3, .int x3_7), (0, .ref (md 0)), (1, .long p1)]) hx hb dX3_below_84 hl (k := 1) rfl (by rw [e_x4_6]; rfl) (by decide) rfl (fun ls hl => ?_)
            refine lv_goto (tgt := 54) hx hb dX3_below_87 (by decide) ?_
            exact ih_54 x4_6 x3_7 hm _ (lv_sub hl [0, 1, 2, 3] rfl)
    exact L_54 F 0 x3_4 hq_54 _ (lv_sub hl [0, 1, 2, 3] rfl)
  have L_5 : ∀ (n : Nat) (x4 : Int32) (x3 : Int32), X3_below_L5 p1 yrow ymk yrm n x4 x3 = some z_5 → ∀ (ls : Array Slot), lv_has ls 5 [(4, .int x4), (3, .int x3), (0, .ref (md 0)), (1, .long p1)] → W p l e (headSpec wsX3_below ({ frames := 0, cells := 0, slots := 0, locals := 0 } : Room)).room s m ([.ref (md 0), .long p1] : List Value).toArray below meth c s.heap [] 0 0 (MQ below (vp_Si (fun v => v = r)) ([.ref (md 0), .long p1] : List Value).toArray s 0 0 (fun _ => False)) (F0 m 5 ls []) := by
    intro n
    induction n with
    | zero => intro x4 x3 hm; cases hm
    | succ n ih_5 =>
      intro x4 x3 hm ls hl
      refine lv_iload hx hb dX3_below_5 (lv_at hl 0 rfl) ?_
      refine lv_aload_n hx hb dX3_below_7 rfl (lv_at hl 2 rfl) ?_
      refine va_get (D := (dC, dI)) (ci := 3) (v := .int yrm) (C := RX3) (T := TX3) (N := 18) hx hb hts ziX3 hown hK hP 0 rfl rfl 5 (by decide) zw0 (fun _ h9 => h9) rfl dX3_below_8 ?_
      refine lv_icmp_ge (tgt := 51) hx hb dX3_below_11 (by decide) (fun c_11 => ?_) (fun c_11 => ?_)
      · have hm := it_t hm c_11
        exact K_5 x3 (o2 hm) _ (lv_sub hl [1, 2, 3] rfl)
      · have hm := it_f hm c_11
        refine lv_iload_n hx hb dX3_below_14 rfl (lv_at hl 1 rfl) ?_
        refine lv_aload_n hx hb dX3_below_15 rfl (lv_at hl 2 rfl) ?_
        refine va_get (D := (dC, dI)) (ci := 3) (v := .ref (md 2)) (C := RX3) (T := TX3) (N := 18) hx hb hts ziX3 hown hK hP 0 rfl rfl 4 (by decide) zw1 (fun _ h9 => h9) rfl dX3_below_16 ?_
        refine lv_iload hx hb dX3_below_19 (lv_at hl 0 rfl) ?_
        obtain ⟨c_21, hm⟩ := ck hm
        refine va_zald hx hb hK hP 2 1 rfl rfl c_21 dX3_below_21 ?_
        refine lv_if_ne (tgt := 42) hx hb dX3_below_22 (by decide) (fun c_22 => ?_) (fun c_22 => ?_)
        · have hm := it_f hm c_22
          refine lv_iconst (v := 0) hx hb dX3_below_42 (by decide) ?_
          refine lv_iadd hx hb dX3_below_43 ?_
          refine lv_topi (fun x3_1 e_x3_1 => ?_)
          have hm := bnd_e hm e_x3_1
          refine lv_istore_n (lv' := [(3, .int x3_1), (4, .int x4), (0, .ref (md 0)), (1, .long p1)]) hx hb dX3_below_44 rfl hl (by decide) rfl (fun ls hl => ?_)
          obtain ⟨x4_1, e_x4_1⟩ : ∃ y : Int32, y = x4 + 1 := ⟨_, rfl⟩
          have hm := bnd_e hm e_x4_1
          refine lv_iinc (v := x4_1) (lv' := [(4, .int x4_1), (3, .int x3_1), (0, .ref (md 0)), (1, .long p1)]) hx hb dX3_below_45 hl (k := 1) rfl (by rw [e_x4_1]; rfl) (by decide) rfl (fun ls hl => ?_)
          refine lv_goto (tgt := 5) hx hb dX3_below_48 (by decide) ?_
          exact ih_5 x4_1 x3_1 hm _ (lv_sub hl [0, 1, 2, 3] rfl)
        · have hm := it_t hm c_22
          refine lv_aload_n hx hb dX3_below_25 rfl (lv_at hl 2 rfl) ?_
          refine va_get (D := (dC, dI)) (ci := 3) (v := .ref (md 1)) (C := RX3) (T := TX3) (N := 18) hx hb hts ziX3 hown hK hP 0 rfl rfl 3 (by decide) zw2 (fun _ h9 => h9) rfl dX3_below_26 ?_
          refine lv_iload hx hb dX3_below_29 (lv_at hl 0 rfl) ?_
          obtain ⟨c_31, hm⟩ := ck hm
          refine va_iald hx hb hK hP 1 0 rfl rfl c_31 dX3_below_31 ?_
          refine lv_i2l hx hb dX3_below_32 rfl ?_
          refine lv_lload_n hx hb dX3_below_33 rfl (lv_at hl 3 rfl) ?_
          refine W.lcmp hx hb dX3_below_34 ?_
          refine lv_if_ge (tgt := 42) hx hb dX3_below_35 (by decide) (fun c_35 => ?_) (fun c_35 => ?_)
          · have c_35 : p1 ≤ (Int32.toInt64 (yrow (Int32.toNatClampNeg x4))) := (lg_cmp_ge _ _).mp c_35
            have hm := it_t hm c_35
            refine lv_iconst (v := 0) hx hb dX3_below_42 (by decide) ?_
            refine lv_iadd hx hb dX3_below_43 ?_
            refine lv_topi (fun x3_2 e_x3_2 => ?_)
            have hm := bnd_e hm e_x3_2
            refine lv_istore_n (lv' := [(3, .int x3_2), (4, .int x4), (0, .ref (md 0)), (1, .long p1)]) hx hb dX3_below_44 rfl hl (by decide) rfl (fun ls hl => ?_)
            obtain ⟨x4_2, e_x4_2⟩ : ∃ y : Int32, y = x4 + 1 := ⟨_, rfl⟩
            have hm := bnd_e hm e_x4_2
            refine lv_iinc (v := x4_2) (lv' := [(4, .int x4_2), (3, .int x3_2), (0, .ref (md 0)), (1, .long p1)]) hx hb dX3_below_45 hl (k := 1) rfl (by rw [e_x4_2]; rfl) (by decide) rfl (fun ls hl => ?_)
            refine lv_goto (tgt := 5) hx hb dX3_below_48 (by decide) ?_
            exact ih_5 x4_2 x3_2 hm _ (lv_sub hl [0, 1, 2, 3] rfl)
          · have c_35 : ¬ (p1 ≤ (Int32.toInt64 (yrow (Int32.toNatClampNeg x4)))) := fun h => c_35 ((lg_cmp_ge _ _).mpr h)
            have hm := it_f hm c_35
            refine lv_iconst (v := 1) hx hb dX3_below_38 (by decide) ?_
            refine lv_goto (tgt := 43) hx hb dX3_below_39 (by decide) ?_
            refine lv_iadd hx hb dX3_below_43 ?_
            refine lv_topi (fun x3_3 e_x3_3 => ?_)
            have hm := bnd_e hm e_x3_3
            refine lv_istore_n (lv' := [(3, .int x3_3), (4, .int x4), (0, .ref (md 0)), (1, .long p1)]) hx hb dX3_below_44 rfl hl (by decide) rfl (fun ls hl => ?_)
            obtain ⟨x4_3, e_x4_3⟩ : ∃ y : Int32, y = x4 + 1 := ⟨_, rfl⟩
            have hm := bnd_e hm e_x4_3
            refine lv_iinc (v := x4_3) (lv' := [(4, .int x4_3), (3, .int x3_3), (0, .ref (md 0)), (1, .long p1)]) hx hb dX3_below_45 hl (k := 1) rfl (by rw [e_x4_3]; rfl) (by decide) rfl (fun ls hl => ?_)
            refine lv_goto (tgt := 5) hx hb dX3_below_48 (by decide) ?_
            exact ih_5 x4_3 x3_3 hm _ (lv_sub hl [0, 1, 2, 3] rfl)
  exact L_5 F 0 0 hq_5 _ (lv_sub hl [0, 1, 2, 3] rfl)
set_option maxHeartbeats 4000000 in
set_option maxRecDepth 100000 in
theorem c_X3_keys (l : Launch) (dC : Nat → ClassId) (dI : Nat → Nat → Nat) (cI : ClassId) (cZ : ClassId) (md : Nat → Nat) (yth : Int32) (ybd : Int32) (yro : Int32) (yrow : Nat → Int32) (ymk : Nat → Int32) (yrm : Int32) (yst : Nat → Int32) (ypc : Int32) (ybu : Nat → Int32) (ybn : Int32) (ymg : Int32) (ysp : Int32) (yjn : Int32) (ymd : Nat → Int32) (ybg : Nat → Int32) (ymm : Int32) (yup : Int64) (yun : Int64) (F : Nat) (r : Int32) (hm : X3_keys F yrow ymk yrm ybu ybn = some r) : Met l yX3_keys wsX3_keys ({ frames := 1, cells := 0, slots := 0, locals := 24 }) (va_Pc [.ref (md 0)] (zR (dC, dI) (wM cI cZ md yth ybd yro yrow ymk yrm yst ypc ybu ybn ymg ysp yjn ymd ybg ymm yup yun) [(cI, .int), (cZ, .boolean)])) (vp_Si (fun v => v = r)) 0 0 (fun _ => False) := by
  refine Met.ofW (cc := cX3_keys) (maxL := 1) (ret := (some .int)) (by decide) rfl ?_
  intro p e s m args below meth c s₁ B hml hv
  obtain ⟨rfl, hP, hK⟩ := hv
  have hx := B.exec
  have hb := B.bytes
  have hr := B.returns
  have hts := atoms_spec (ws := wsX3_keys) B.pre
  have hown : s.vm.findClass RX3 = some m.cls := findClass_of_methodNamed B.named
  have hlocks := B.notSynchronized
  have hl := lv_entry ([.ref (md 0)]) (n := 1) (Nat.le_of_ble_eq_true rfl)
  rw [lg_entry_eq]
  generalize (lg_sl ([.ref (md 0)]) ++ List.replicate (1 - (lg_sl ([.ref (md 0)])).length) Slot.unset).toArray = ls at hl ⊢
  have hl : lv_has ls 1 [(0, .ref (md 0))] := hl
  have zw0 := hts (.constantLong RX3 133 (1000001)) (by decide +kernel)
  refine lv_aload_n hx hb dX3_keys_0 rfl (lv_at hl 0 rfl) ?_
  refine lv_ldc2 hx hb hown zw0 dX3_keys_1 ?_
  obtain ⟨r4, h_4, hm⟩ := ob hm
  refine z_callRi (As := [.long 1000001]) (rest := []) (ci := 3) (q := (RX3, TX3, 18)) ⟨hx, hb, hml, hown, hts⟩ (c_X3_below l dC dI cI cZ md yth ybd yro yrow ymk yrm yst ypc ybu ybn ymg ysp yjn ymd ybg ymm yup yun F 1000001 r4 h_4) (cwV 1 hts gX3_keys_X3_below rfl rfl rfl kv_X3_below ⟨Nat.le_of_ble_eq_true rfl, Nat.le_of_ble_eq_true rfl⟩) hK hP rfl rfl rfl rfl hl.1 rfl (Nat.le_of_ble_eq_true rfl) dX3_keys_4 ⟨Nat.zero_le _, Nat.zero_le _⟩ ?_
  exact W.iret hx hb hr (fun t ht hW => ⟨_, rfl, (o2 hm).symm, ht⟩) (fun q h => absurd h List.not_mem_nil) dX3_keys_7
set_option maxHeartbeats 4000000 in
set_option maxRecDepth 100000 in
theorem c_X3_remove (l : Launch) (dC : Nat → ClassId) (dI : Nat → Nat → Nat) (cI : ClassId) (cZ : ClassId) (md : Nat → Nat) (yth : Int32) (ybd : Int32) (yro : Int32) (yrow : Nat → Int32) (ymk : Nat → Int32) (yrm : Int32) (yst : Nat → Int32) (ypc : Int32) (ybu : Nat → Int32) (ybn : Int32) (ymg : Int32) (ysp : Int32) (yjn : Int32) (ymd : Nat → Int32) (ybg : Nat → Int32) (ymm : Int32) (yup : Int64) (yun : Int64) (F : Nat) (p1 : Int32) (sz : Nat) (r : Int32) (u_yth : Int32) (u_ymk : Nat → Int32) (u_ybu : Nat → Int32) (u_ybn : Int32) (hm : X3_remove F yth yrow ymk yrm ybu ybn p1 = some (r, u_yth, u_ymk, u_ybu, u_ybn)) : Met l yX3_remove wsX3_remove ({ frames := 3, cells := 0, slots := 0, locals := 65 }) (va_Pc [.ref (md 0), .int p1] (zW (dC, dI) (wM cI cZ md yth ybd yro yrow ymk yrm yst ypc ybu ybn ymg ysp yjn ymd ybg ymm yup yun) [(cI, .int), (cZ, .boolean)] sz)) (zQi (dC, dI) (wM cI cZ md u_yth ybd yro yrow u_ymk yrm yst ypc u_ybu u_ybn ymg ysp yjn ymd ybg ymm yup yun) [(cI, .int), (cZ, .boolean)] (va_A (wM cI cZ md yth ybd yro yrow ymk yrm yst ypc ybu ybn ymg ysp yjn ymd ybg ymm yup yun) sz) r) 0 0 (va_A (wM cI cZ md yth ybd yro yrow ymk yrm yst ypc ybu ybn ymg ysp yjn ymd ybg ymm yup yun) sz) := by
  refine Met.ofW (cc := cX3_remove) (maxL := 4) (ret := (some .int)) (by decide) rfl ?_
  intro p e s m args below meth c s₁ B hml hv
  obtain ⟨rfl, hsz, hP, hK, hD0⟩ := hv
  have hx := B.exec
  have hb := B.bytes
  have hr := B.returns
  have hts := atoms_spec (ws := wsX3_remove) B.pre
  have hown : s.vm.findClass RX3 = some m.cls := findClass_of_methodNamed B.named
  have hlocks := B.notSynchronized
  subst hsz
  have hD := hD0.self (sz := s.heap.size)
  generalize hAe : va_A (wM cI cZ md yth ybd yro yrow ymk yrm yst ypc ybu ybn ymg ysp yjn ymd ybg ymm yup yun) s.heap.size = A at hD ⊢
  have hA : ∀ q : Nat, s.heap.size ≤ q → A q := fun q h => by rw [← hAe]; exact Or.inr h
  have hS : va_S A s.heap s.heap [] := va_S.rf
  generalize eL : ([] : List Loc) = locs at hS ⊢
  obtain ⟨H, eH⟩ : ∃ z : Heap, z = s.heap := ⟨_, rfl⟩
  have hP : va_P (dC, dI) vwCl (wM cI cZ md yth ybd yro yrow ymk yrm yst ypc ybu ybn ymg ysp yjn ymd ybg ymm yup yun) H := by rw [eH]; exact hP
  have hS : va_S A s.heap H locs := by rw [eH]; exact hS
  refine z_heap eH ?_
  have hl := lv_entry ([.ref (md 0), .int p1]) (n := 4) (Nat.le_of_ble_eq_true rfl)
  rw [lg_entry_eq]
  generalize (lg_sl ([.ref (md 0), .int p1]) ++ List.replicate (4 - (lg_sl ([.ref (md 0), .int p1])).length) Slot.unset).toArray = ls at hl ⊢
  have hl : lv_has ls 4 [(0, .ref (md 0)), (1, .int p1)] := hl
  have zw0 := hts (.fieldLink RX3 36 "LearnedLedgeModel" "thrown" "I") (by decide +kernel)
  have zw1 := hts (.fieldLink RX3 69 "LearnedLedgeModel" "buffered" "I") (by decide +kernel)
  have zw2 := hts (.fieldLink RX3 27 "LearnedLedgeModel" "buffer" "[I") (by decide +kernel)
  have zw3 := hts (.fieldLink RX3 20 "LearnedLedgeModel" "isMarked" "[Z") (by decide +kernel)
  have ziX3 : ∀ w ∈ u_ws RX3 TX3 18, w ∈ wsX3_remove := by decide +kernel
  refine lv_aload_n hx hb dX3_remove_0 rfl (lv_at hl 0 rfl) ?_
  refine lv_aload_n hx hb dX3_remove_1 rfl (lv_at hl 0 rfl) ?_
  refine lv_iload_n hx hb dX3_remove_2 rfl (lv_at hl 1 rfl) ?_
  obtain ⟨r3, h_3, hm⟩ := ob hm
  refine z_callRi (As := [.int p1]) (rest := [.ref (md 0)]) (ci := 3) (q := (RX3, TX3, 18)) ⟨hx, hb, hml, hown, hts⟩ (c_X3_isThere l dC dI cI cZ md yth ybd yro yrow ymk yrm yst ypc ybu ybn ymg ysp yjn ymd ybg ymm yup yun F p1 r3 h_3) (cwV 1 hts gX3_remove_X3_isThere rfl rfl rfl kv_X3_isThere ⟨Nat.le_of_ble_eq_true rfl, Nat.le_of_ble_eq_true rfl⟩) hK hP rfl rfl rfl rfl hl.1 rfl (Nat.le_of_ble_eq_true rfl) dX3_remove_3 ⟨Nat.zero_le _, Nat.zero_le _⟩ ?_
  obtain ⟨y14, e_y14⟩ : ∃ y : Int32, y = (if r3 = 0 then 1 else 0) := ⟨_, rfl⟩
  have hm := bnd_e hm e_y14
  have J_14 : W p l e (headSpec wsX3_remove ({ frames := 3, cells := 0, slots := 0, locals := 65 } : Room)).room s m ([.ref (md 0), .int p1] : List Value).toArray below meth c H locs 0 0 (MQ below (zQi (dC, dI) (wM cI cZ md u_yth ybd yro yrow u_ymk yrm yst ypc u_ybu u_ybn ymg ysp yjn ymd ybg ymm yup yun) [(cI, .int), (cZ, .boolean)] A r) ([.ref (md 0), .int p1] : List Value).toArray s 0 0 A) (F0 m 14 ls [.int y14, .ref (md 0)]) := by
    refine va_put (D := (dC, dI)) (ci := 3) (v := .int y14) (ty := .int) (C := RX3) (T := TX3) (N := 18) hx hb hts ziX3 tyX3 tyX3_ok nmX3 hown hK hP hD hS 0 rfl rfl 0 (by decide) zw0 (fun _ h9 => h9) rfl (by decide +kernel) rfl rfl (Nat.le_of_ble_eq_true rfl) dX3_remove_14 (fun H locs hP hD hS => ?_)
    have hP : va_P (dC, dI) vwCl (wM cI cZ md y14 ybd yro yrow ymk yrm yst ypc ybu ybn ymg ysp yjn ymd ybg ymm yup yun) H := hP
    have hD : va_D A (wM cI cZ md y14 ybd yro yrow ymk yrm yst ypc ybu ybn ymg ysp yjn ymd ybg ymm yup yun) := hD
    refine lv_aload_n hx hb dX3_remove_17 rfl (lv_at hl 0 rfl) ?_
    refine va_get (D := (dC, dI)) (ci := 3) (v := .int y14) (C := RX3) (T := TX3) (N := 18) hx hb hts ziX3 hown hK hP 0 rfl rfl 0 (by decide) zw0 (fun _ h9 => h9) rfl dX3_remove_18 ?_
    refine lv_if_le (tgt := 26) hx hb dX3_remove_21 (by decide) (fun c_21 => ?_) (fun c_21 => ?_)
    · have hm := it_t hm c_21
      refine lv_aload_n hx hb dX3_remove_26 rfl (lv_at hl 0 rfl) ?_
      refine lv_iload_n hx hb dX3_remove_27 rfl (lv_at hl 1 rfl) ?_
      obtain ⟨r28, h_28, hm⟩ := ob hm
      refine z_callRi (As := [.int p1]) (rest := []) (ci := 3) (q := (RX3, TX3, 18)) ⟨hx, hb, hml, hown, hts⟩ (c_X3_isBuffered l dC dI cI cZ md y14 ybd yro yrow ymk yrm yst ypc ybu ybn ymg ysp yjn ymd ybg ymm yup yun F p1 r28 h_28) (cwV 1 hts gX3_remove_X3_isBuffered rfl rfl rfl kv_X3_isBuffered ⟨Nat.le_of_ble_eq_true rfl, Nat.le_of_ble_eq_true rfl⟩) hK hP rfl rfl rfl rfl hl.1 rfl (Nat.le_of_ble_eq_true rfl) dX3_remove_28 ⟨Nat.zero_le _, Nat.zero_le _⟩ ?_
      refine lv_if_ne (tgt := 50) hx hb dX3_remove_31 (by decide) (fun c_31 => ?_) (fun c_31 => ?_)
      · have hm := it_f hm c_31
        refine lv_iconst (v := 0) hx hb dX3_remove_50 (by decide) ?_
        refine lv_istore_n (lv' := [(2, .int 0), (0, .ref (md 0)), (1, .int p1)]) hx hb dX3_remove_51 rfl hl (by decide) rfl (fun ls hl => ?_)
        refine lv_iconst (v := 0) hx hb dX3_remove_52 (by decide) ?_
        refine lv_istore_n (lv' := [(3, .int 0), (2, .int 0), (0, .ref (md 0)), (1, .int p1)]) hx hb dX3_remove_53 rfl hl (by decide) rfl (fun ls hl => ?_)
        obtain ⟨z_54, hq_54, hm⟩ := ob hm
        have K_54 : ∀ (x2_2 : Int32), ∀ (ybux54 : Nat → Int32), z_54 = (x2_2, ybux54) → ∀ (H : Heap) (locs : List Loc), va_P (dC, dI) vwCl (wM cI cZ md y14 ybd yro yrow ymk yrm yst ypc ybux54 ybn ymg ysp yjn ymd ybg ymm yup yun) H → va_D A (wM cI cZ md y14 ybd yro yrow ymk yrm yst ypc ybux54 ybn ymg ysp yjn ymd ybg ymm yup yun) → va_S A s.heap H locs → ∀ (ls : Array Slot), lv_has ls 4 [(2, .int x2_2), (0, .ref (md 0))] → W p l e (headSpec wsX3_remove ({ frames := 3, cells := 0, slots := 0, locals := 65 } : Room)).room s m ([.ref (md 0), .int p1] : List Value).toArray below meth c H locs 0 0 (MQ below (zQi (dC, dI) (wM cI cZ md u_yth ybd yro yrow u_ymk yrm yst ypc u_ybu u_ybn ymg ysp yjn ymd ybg ymm yup yun) [(cI, .int), (cZ, .boolean)] A r) ([.ref (md 0), .int p1] : List Value).toArray s 0 0 A) (F0 m 93 ls []) := by
          intro x2_2 ybux54 ez H locs hP hD hS ls hl
          rw [ez] at hm
          refine lv_aload_n hx hb dX3_remove_93 rfl (lv_at hl 1 rfl) ?_
          refine lv_iload_n hx hb dX3_remove_94 rfl (lv_at hl 0 rfl) ?_
          refine va_put (D := (dC, dI)) (ci := 3) (v := .int x2_2) (ty := .int) (C := RX3) (T := TX3) (N := 18) hx hb hts ziX3 tyX3 tyX3_ok nmX3 hown hK hP hD hS 0 rfl rfl 9 (by decide) zw1 (fun _ h9 => h9) rfl (by decide +kernel) rfl rfl (Nat.le_of_ble_eq_true rfl) dX3_remove_95 (fun H locs hP hD hS => ?_)
          have hP : va_P (dC, dI) vwCl (wM cI cZ md y14 ybd yro yrow ymk yrm yst ypc ybux54 x2_2 ymg ysp yjn ymd ybg ymm yup yun) H := hP
          have hD : va_D A (wM cI cZ md y14 ybd yro yrow ymk yrm yst ypc ybux54 x2_2 ymg ysp yjn ymd ybg ymm yup yun) := hD
          refine lv_aload_n hx hb dX3_remove_98 rfl (lv_at hl 1 rfl) ?_
          obtain ⟨r99, h_99, hm⟩ := ob hm
          refine z_callRi (As := []) (rest := []) (ci := 3) (q := (RX3, TX3, 18)) ⟨hx, hb, hml, hown, hts⟩ (c_X3_keys l dC dI cI cZ md y14 ybd yro yrow ymk yrm yst ypc ybux54 x2_2 ymg ysp yjn ymd ybg ymm yup yun F r99 h_99) (cwV 0 hts gX3_remove_X3_keys rfl rfl rfl kv_X3_keys ⟨Nat.le_of_ble_eq_true rfl, Nat.le_of_ble_eq_true rfl⟩) hK hP rfl rfl rfl rfl hl.1 rfl (Nat.le_of_ble_eq_true rfl) dX3_remove_99 ⟨Nat.zero_le _, Nat.zero_le _⟩ ?_
          cases o2 hm
          exact W.iret hx hb hr (fun t ht hW => ⟨⟨_, (), rfl, rfl, by rw [ht]; exact hP, va_K.moved hW.alike hK, hD⟩, hS.F ht⟩) hS.2.2 dX3_remove_102
        have L_54 : ∀ (n : Nat) (x3 : Int32) (x2 : Int32) (ybul54 : Nat → Int32), X3_remove_L54 p1 ybn n x3 x2 ybul54 = some z_54 → ∀ (H : Heap) (locs : List Loc), va_P (dC, dI) vwCl (wM cI cZ md y14 ybd yro yrow ymk yrm yst ypc ybul54 ybn ymg ysp yjn ymd ybg ymm yup yun) H → va_D A (wM cI cZ md y14 ybd yro yrow ymk yrm yst ypc ybul54 ybn ymg ysp yjn ymd ybg ymm yup yun) → va_S A s.heap H locs → ∀ (ls : Array Slot), lv_has ls 4 [(3, .int x3), (2, .int x2), (0, .ref (md 0)), (1, .int p1)] → W p l e (headSpec wsX3_remove ({ frames := 3, cells := 0, slots := 0, locals := 65 } : Room)).room s m ([.ref (md 0), .int p1] : List Value).toArray below meth c H locs 0 0 (MQ below (zQi (dC, dI) (wM cI cZ md u_yth ybd yro yrow u_ymk yrm yst ypc u_ybu u_ybn ymg ysp yjn ymd ybg ymm yup yun) [(cI, .int), (cZ, .boolean)] A r) ([.ref (md 0), .int p1] : List Value).toArray s 0 0 A) (F0 m 54 ls []) := by
          intro n
          induction n with
          | zero => intro x3 x2 ybul54 hm; cases hm
          | succ n ih_54 =>
            intro x3 x2 ybul54 hm H locs hP hD hS ls hl
            refine lv_iload_n hx hb dX3_remove_54 rfl (lv_at hl 0 rfl) ?_
            refine lv_aload_n hx hb dX3_remove_55 rfl (lv_at hl 2 rfl) ?_
            refine va_get (D := (dC, dI)) (ci := 3) (v := .int ybn) (C := RX3) (T := TX3) (N := 18) hx hb hts ziX3 hown hK hP 0 rfl rfl 9 (by decide) zw1 (fun _ h9 => h9) rfl dX3_remove_56 ?_
            refine lv_icmp_ge (tgt := 93) hx hb dX3_remove_59 (by decide) (fun c_59 => ?_) (fun c_59 => ?_)
            · have hm := it_t hm c_59
              exact K_54 x2 ybul54 (o2 hm) _ _ hP hD hS _ (lv_sub hl [1, 2] rfl)
            · have hm := it_f hm c_59
              refine lv_aload_n hx hb dX3_remove_62 rfl (lv_at hl 2 rfl) ?_
              refine va_get (D := (dC, dI)) (ci := 3) (v := .ref (md 4)) (C := RX3) (T := TX3) (N := 18) hx hb hts ziX3 hown hK hP 0 rfl rfl 8 (by decide) zw2 (fun _ h9 => h9) rfl dX3_remove_63 ?_
              refine lv_iload_n hx hb dX3_remove_66 rfl (lv_at hl 0 rfl) ?_
              obtain ⟨c_67, hm⟩ := ck hm
              refine va_iald hx hb hK hP 4 0 rfl rfl c_67 dX3_remove_67 ?_
              refine lv_iload_n hx hb dX3_remove_68 rfl (lv_at hl 3 rfl) ?_
              refine lv_icmp_eq (tgt := 87) hx hb dX3_remove_69 (by decide) (fun c_69 => ?_) (fun c_69 => ?_)
              · have hm := it_t hm c_69
                obtain ⟨x3_1, e_x3_1⟩ : ∃ y : Int32, y = x3 + 1 := ⟨_, rfl⟩
                have hm := bnd_e hm e_x3_1
                refine lv_iinc (v := x3_1) (lv' := [(3, .int x3_1), (2, .int x2), (0, .ref (md 0)), (1, .int p1)]) hx hb dX3_remove_87 hl (k := 0) rfl (by rw [e_x3_1]; rfl) (by decide) rfl (fun ls hl => ?_)
                refine lv_goto (tgt := 54) hx hb dX3_remove_90 (by decide) ?_
                exact ih_54 x3_1 x2 ybul54 hm _ _ hP hD hS _ (lv_sub hl [0, 1, 2, 3] rfl)
              · have hm := it_f hm c_69
                refine lv_aload_n hx hb dX3_remove_72 rfl (lv_at hl 2 rfl) ?_
                refine va_get (D := (dC, dI)) (ci := 3) (v := .ref (md 4)) (C := RX3) (T := TX3) (N := 18) hx hb hts ziX3 hown hK hP 0 rfl rfl 8 (by decide) zw2 (fun _ h9 => h9) rfl dX3_remove_73 ?_
                refine lv_iload_n hx hb dX3_remove_76 rfl (lv_at hl 1 rfl) ?_
                refine lv_aload_n hx hb dX3_remove_77 rfl (lv_at hl 2 rfl) ?_
                refine va_get (D := (dC, dI)) (ci := 3) (v := .ref (md 4)) (C := RX3) (T := TX3) (N := 18) hx hb hts ziX3 hown hK hP 0 rfl rfl 8 (by decide) zw2 (fun _ h9 => h9) rfl dX3_remove_78 ?_
                refine lv_iload_n hx hb dX3_remove_81 rfl (lv_at hl 0 rfl) ?_
                obtain ⟨c_82, hm⟩ := ck hm
                refine va_iald hx hb hK hP 4 0 rfl rfl c_82 dX3_remove_82 ?_
                obtain ⟨c_83, hm⟩ := ck hm
                refine va_iast hx hb hK hP hD hS 4 0 rfl rfl c_83 dX3_remove_83 (fun H locs hP hD hS => ?_)
                have hP : va_P (dC, dI) vwCl (wM cI cZ md y14 ybd yro yrow ymk yrm yst ypc (upd ybul54 (Int32.toNatClampNeg x2) (ybul54 (Int32.toNatClampNeg x3))) ybn ymg ysp yjn ymd ybg ymm yup yun) H := hP
                have hD : va_D A (wM cI cZ md y14 ybd yro yrow ymk yrm yst ypc (upd ybul54 (Int32.toNatClampNeg x2) (ybul54 (Int32.toNatClampNeg x3))) ybn ymg ysp yjn ymd ybg ymm yup yun) := hD
                obtain ⟨x2_1, e_x2_1⟩ : ∃ y : Int32, y = x2 + 1 := ⟨_, rfl⟩
                have hm := bnd_e hm e_x2_1
                refine lv_iinc (v := x2_1) (lv' := [(2, .int x2_1), (3, .int x3), (0, .ref (md 0)), (1, .int p1)]) hx hb dX3_remove_84 hl (k := 1) rfl (by rw [e_x2_1]; rfl) (by decide) rfl (fun ls hl => ?_)
                obtain ⟨x3_2, e_x3_2⟩ : ∃ y : Int32, y = x3 + 1 := ⟨_, rfl⟩
                have hm := bnd_e hm e_x3_2
                refine lv_iinc (v := x3_2) (lv' := [(3, .int x3_2), (2, .int x2_1), (0, .ref (md 0)), (1, .int p1)]) hx hb dX3_remove_87 hl (k := 1) rfl (by rw [e_x3_2]; rfl) (by decide) rfl (fun ls hl => ?_)
                refine lv_goto (tgt := 54) hx hb dX3_remove_90 (by decide) ?_
                exact ih_54 x3_2 x2_1 (upd ybul54 (Int32.toNatClampNeg x2) (ybul54 (Int32.toNatClampNeg x3))) hm _ _ hP hD hS _ (lv_sub hl [0, 1, 2, 3] rfl)
        exact L_54 F 0 0 ybu hq_54 _ _ hP hD hS _ (lv_sub hl [0, 1, 2, 3] rfl)
      · have hm := it_t hm c_31
        refine lv_aload_n hx hb dX3_remove_34 rfl (lv_at hl 0 rfl) ?_
        refine va_get (D := (dC, dI)) (ci := 3) (v := .ref (md 2)) (C := RX3) (T := TX3) (N := 18) hx hb hts ziX3 hown hK hP 0 rfl rfl 4 (by decide) zw3 (fun _ h9 => h9) rfl dX3_remove_35 ?_
        refine lv_aload_n hx hb dX3_remove_38 rfl (lv_at hl 0 rfl) ?_
        refine lv_iload_n hx hb dX3_remove_39 rfl (lv_at hl 1 rfl) ?_
        obtain ⟨r40, h_40, hm⟩ := ob hm
        refine z_callRi (As := [.int p1]) (rest := [.ref (md 2)]) (ci := 3) (q := (RX3, TX3, 18)) ⟨hx, hb, hml, hown, hts⟩ (c_X3_placeOf l dC dI cI cZ md y14 ybd yro yrow ymk yrm yst ypc ybu ybn ymg ysp yjn ymd ybg ymm yup yun F p1 r40 h_40) (cwV 1 hts gX3_remove_X3_placeOf rfl rfl rfl kv_X3_placeOf ⟨Nat.le_of_ble_eq_true rfl, Nat.le_of_ble_eq_true rfl⟩) hK hP rfl rfl rfl rfl hl.1 rfl (Nat.le_of_ble_eq_true rfl) dX3_remove_40 ⟨Nat.zero_le _, Nat.zero_le _⟩ ?_
        refine lv_iconst (v := 1) hx hb dX3_remove_43 (by decide) ?_
        obtain ⟨c_44, hm⟩ := ck hm
        refine va_zast hx hb hK hP hD hS 2 1 rfl rfl c_44 dX3_remove_44 (fun H locs hP hD hS => ?_)
        have hP : va_P (dC, dI) vwCl (wM cI cZ md y14 ybd yro yrow (upd ymk (Int32.toNatClampNeg r40) 1) yrm yst ypc ybu ybn ymg ysp yjn ymd ybg ymm yup yun) H := hP
        have hD : va_D A (wM cI cZ md y14 ybd yro yrow (upd ymk (Int32.toNatClampNeg r40) 1) yrm yst ypc ybu ybn ymg ysp yjn ymd ybg ymm yup yun) := hD
        refine lv_aload_n hx hb dX3_remove_45 rfl (lv_at hl 0 rfl) ?_
        obtain ⟨r46, h_46, hm⟩ := ob hm
        refine z_callRi (As := []) (rest := []) (ci := 3) (q := (RX3, TX3, 18)) ⟨hx, hb, hml, hown, hts⟩ (c_X3_keys l dC dI cI cZ md y14 ybd yro yrow (upd ymk (Int32.toNatClampNeg r40) 1) yrm yst ypc ybu ybn ymg ysp yjn ymd ybg ymm yup yun F r46 h_46) (cwV 0 hts gX3_remove_X3_keys rfl rfl rfl kv_X3_keys ⟨Nat.le_of_ble_eq_true rfl, Nat.le_of_ble_eq_true rfl⟩) hK hP rfl rfl rfl rfl hl.1 rfl (Nat.le_of_ble_eq_true rfl) dX3_remove_46 ⟨Nat.zero_le _, Nat.zero_le _⟩ ?_
        cases o2 hm
        exact W.iret hx hb hr (fun t ht hW => ⟨⟨_, (), rfl, rfl, by rw [ht]; exact hP, va_K.moved hW.alike hK, hD⟩, hS.F ht⟩) hS.2.2 dX3_remove_49
    · have hm := it_f hm c_21
      refine lv_iconst (v := 0) hx hb dX3_remove_24 (by decide) ?_
      cases o2 hm
      exact W.iret hx hb hr (fun t ht hW => ⟨⟨_, (), rfl, rfl, by rw [ht]; exact hP, va_K.moved hW.alike hK, hD⟩, hS.F ht⟩) hS.2.2 dX3_remove_25
  refine lv_if_eq (tgt := 13) hx hb dX3_remove_6 (by decide) (fun c_6 => ?_) (fun c_6 => ?_)
  · refine lv_iconst (v := 1) hx hb dX3_remove_13 (by decide) ?_
    have e9 : y14 = 1 := by rw [e_y14, if_pos c_6]
    rw [e9] at J_14
    exact J_14
  · refine lv_iconst (v := 0) hx hb dX3_remove_9 (by decide) ?_
    refine lv_goto (tgt := 14) hx hb dX3_remove_10 (by decide) ?_
    have e9 : y14 = 0 := by rw [e_y14, if_neg c_6]
    rw [e9] at J_14
    exact J_14
