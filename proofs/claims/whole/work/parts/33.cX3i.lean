set_option maxHeartbeats 4000000 in
set_option maxRecDepth 100000 in
theorem c_X3_insert (l : Launch) (dC : Nat → ClassId) (dI : Nat → Nat → Nat) (cI : ClassId) (cZ : ClassId) (md : Nat → Nat) (yth : Int32) (ybd : Int32) (yro : Int32) (yrow : Nat → Int32) (ymk : Nat → Int32) (yrm : Int32) (yst : Nat → Int32) (ypc : Int32) (ybu : Nat → Int32) (ybn : Int32) (ymg : Int32) (ysp : Int32) (yjn : Int32) (ymd : Nat → Int32) (ybg : Nat → Int32) (ymm : Int32) (yup : Int64) (yun : Int64) (F : Nat) (p1 : Int32) (sz : Nat) (r : Int32) (u_yth : Int32) (u_yrow : Nat → Int32) (u_ymk : Nat → Int32) (u_yrm : Int32) (u_yst : Nat → Int32) (u_ypc : Int32) (u_ybu : Nat → Int32) (u_ybn : Int32) (u_ymg : Int32) (u_ysp : Int32) (u_yjn : Int32) (u_ymd : Nat → Int32) (u_ybg : Nat → Int32) (u_ymm : Int32) (u_yup : Int64) (u_yun : Int64) (hm : X3_insert F yth ybd yro yrow ymk yrm yst ypc ybu ybn ymg ysp yjn ymd ybg ymm yup yun p1 = some (r, u_yth, u_yrow, u_ymk, u_yrm, u_yst, u_ypc, u_ybu, u_ybn, u_ymg, u_ysp, u_yjn, u_ymd, u_ybg, u_ymm, u_yup, u_yun)) : Met l yX3_insert wsX3_insert ({ frames := 3, cells := 0, slots := 0, locals := 81 }) (va_Pc [.ref (md 0), .int p1] (zW (dC, dI) (wM cI cZ md yth ybd yro yrow ymk yrm yst ypc ybu ybn ymg ysp yjn ymd ybg ymm yup yun) [(cI, .int), (cZ, .boolean)] sz)) (zQi (dC, dI) (wM cI cZ md u_yth ybd yro u_yrow u_ymk u_yrm u_yst u_ypc u_ybu u_ybn u_ymg u_ysp u_yjn u_ymd u_ybg u_ymm u_yup u_yun) [(cI, .int), (cZ, .boolean)] (va_A (wM cI cZ md yth ybd yro yrow ymk yrm yst ypc ybu ybn ymg ysp yjn ymd ybg ymm yup yun) sz) r) 0 0 (va_A (wM cI cZ md yth ybd yro yrow ymk yrm yst ypc ybu ybn ymg ysp yjn ymd ybg ymm yup yun) sz) := by
  refine Met.ofW (cc := cX3_insert) (maxL := 4) (ret := (some .int)) (by decide) rfl ?_
  intro p e s m args below meth c s₁ B hml hv
  obtain ⟨rfl, hsz, hP, hK, hD0⟩ := hv
  have hx := B.exec
  have hb := B.bytes
  have hr := B.returns
  have hts := atoms_spec (ws := wsX3_insert) B.pre
  have hown : s.vm.findClass RX3 = some m.cls := findClass_of_methodNamed B.named
  have hlocks := B.notSynchronized
  subst hsz
  have hD := hD0.self (sz := s.heap.size)
  generalize hAe : va_A (wM cI cZ md yth ybd yro yrow ymk yrm yst ypc ybu ybn ymg ysp yjn ymd ybg ymm yup yun) s.heap.size = A at hD ⊢
  have hA : ∀ q : Nat, s.heap.size ≤ q → A q := fun q h => by rw [← hAe]; exact Or.inr h
  have hS : va_S A s.heap s.heap [] := va_S.rf
  generalize eL : ([] : List Loc) = locs at hS ⊢
  obtain ⟨H, eH⟩ : ∃ z : Heap, z = s.heap := ⟨_, rfl⟩
  have hP : va_P (dC, dI) vwCl (wM cI cZ md yth ybd yro yrow ymk yrm yst ypc ybu ybn ymg ysp yjn ymd ybg ymm yup yun) H := by rw [eH]; exact hP
  have hS : va_S A s.heap H locs := by rw [eH]; exact hS
  refine z_heap eH ?_
  have hl := lv_entry ([.ref (md 0), .int p1]) (n := 4) (Nat.le_of_ble_eq_true rfl)
  rw [lg_entry_eq]
  generalize (lg_sl ([.ref (md 0), .int p1]) ++ List.replicate (4 - (lg_sl ([.ref (md 0), .int p1])).length) Slot.unset).toArray = ls at hl ⊢
  have hl : lv_has ls 4 [(0, .ref (md 0)), (1, .int p1)] := hl
  have zw0 := hts (.fieldLink RX3 36 "LearnedLedgeModel" "thrown" "I") (List.mem_cons_of_mem _ (List.mem_append_left _ (List.mem_append_left _ (List.mem_of_getElem? (i := 0) rfl))))
  have zw1 := hts (.fieldLink RX3 69 "LearnedLedgeModel" "buffered" "I") (List.mem_cons_of_mem _ (List.mem_append_left _ (List.mem_append_left _ (List.mem_of_getElem? (i := 2) rfl))))
  have zw2 := hts (.fieldLink RX3 27 "LearnedLedgeModel" "buffer" "[I") (List.mem_cons_of_mem _ (List.mem_append_left _ (List.mem_append_left _ (List.mem_of_getElem? (i := 3) rfl))))
  have zw3 := hts (.fieldLink RX3 13 "LearnedLedgeModel" "room" "I") (List.mem_cons_of_mem _ (List.mem_append_left _ (List.mem_append_left _ (List.mem_of_getElem? (i := 4) rfl))))
  have zw4 := hts (.fieldLink RX3 20 "LearnedLedgeModel" "isMarked" "[Z") (List.mem_cons_of_mem _ (List.mem_append_left _ (List.mem_append_left _ (List.mem_of_getElem? (i := 1) rfl))))
  have ziX3 : ∀ w ∈ u_ws RX3 TX3 18, w ∈ wsX3_insert := (fun _ h9 => (List.mem_cons_of_mem _ (List.mem_append_right _ h9)))
  refine lv_aload_n hx hb dX3_insert_0 rfl (lv_at hl 0 rfl) ?_
  refine lv_iload_n hx hb dX3_insert_1 rfl (lv_at hl 1 rfl) ?_
  obtain ⟨r2, h_2, hm⟩ := ob hm
  refine z_callRi (As := [.int p1]) (rest := []) (ci := 3) (q := (RX3, TX3, 18)) ⟨hx, hb, hml, hown, hts⟩ (c_X3_isInRow l dC dI cI cZ md yth ybd yro yrow ymk yrm yst ypc ybu ybn ymg ysp yjn ymd ybg ymm yup yun F p1 r2 h_2) (cwV 1 hts gX3_insert_X3_isInRow rfl rfl rfl kv_X3_isInRow ⟨Nat.le_of_ble_eq_true rfl, Nat.le_of_ble_eq_true rfl⟩) hK hP rfl rfl rfl rfl hl.1 rfl (Nat.le_of_ble_eq_true rfl) dX3_insert_2 ⟨Nat.zero_le _, Nat.zero_le _⟩ ?_
  refine lv_istore_n (lv' := [(2, .int r2), (0, .ref (md 0)), (1, .int p1)]) hx hb dX3_insert_5 rfl hl (by decide) rfl (fun ls hl => ?_)
  refine lv_aload_n hx hb dX3_insert_6 rfl (lv_at hl 1 rfl) ?_
  refine lv_iload_n hx hb dX3_insert_7 rfl (lv_at hl 2 rfl) ?_
  obtain ⟨r8, h_8, hm⟩ := ob hm
  refine z_callSi (As := [.int p1]) (rest := [.ref (md 0)]) ⟨hx, hb, hml, hown, hts⟩ (c_X3_isKey l dC dI F p1 r8 h_8) (va_cwS 1 hts gX3_insert_X3_isKey rfl rfl rfl ks_X3_isKey ⟨Nat.le_of_ble_eq_true rfl, Nat.le_of_ble_eq_true rfl⟩) (hK.sub (tys' := []) [] rfl) z_P0 rfl hl.1 rfl (Nat.le_of_ble_eq_true rfl) dX3_insert_8 ⟨Nat.zero_le _, Nat.zero_le _⟩ ?_
  obtain ⟨z_45, hq_45, hm⟩ := ob hm
  have J_45 : ∀ (y45 : Int32), z_45 = y45 → W p l e (headSpec wsX3_insert ({ frames := 3, cells := 0, slots := 0, locals := 81 } : Room)).room s m ([.ref (md 0), .int p1] : List Value).toArray below meth c H locs 0 0 (MQ below (zQi (dC, dI) (wM cI cZ md u_yth ybd yro u_yrow u_ymk u_yrm u_yst u_ypc u_ybu u_ybn u_ymg u_ysp u_yjn u_ymd u_ybg u_ymm u_yup u_yun) [(cI, .int), (cZ, .boolean)] A r) ([.ref (md 0), .int p1] : List Value).toArray s 0 0 A) (F0 m 45 ls [.int y45, .ref (md 0)]) := by
    intro y45 ez
    rw [ez] at hm
    refine va_put (D := (dC, dI)) (ci := 3) (v := .int y45) (ty := .int) (C := RX3) (T := TX3) (N := 18) hx hb hts ziX3 tyX3 tyX3_ok nmX3 hown hK hP hD hS 0 rfl rfl 0 (by decide) zw0 (fun _ h9 => h9) rfl (by decide +kernel) rfl rfl (Nat.le_of_ble_eq_true rfl) dX3_insert_45 (fun H locs hP hD hS => ?_)
    have hP : va_P (dC, dI) vwCl (wM cI cZ md y45 ybd yro yrow ymk yrm yst ypc ybu ybn ymg ysp yjn ymd ybg ymm yup yun) H := hP
    have hD : va_D A (wM cI cZ md y45 ybd yro yrow ymk yrm yst ypc ybu ybn ymg ysp yjn ymd ybg ymm yup yun) := hD
    refine lv_aload_n hx hb dX3_insert_48 rfl (lv_at hl 1 rfl) ?_
    refine va_get (D := (dC, dI)) (ci := 3) (v := .int y45) (C := RX3) (T := TX3) (N := 18) hx hb hts ziX3 hown hK hP 0 rfl rfl 0 (by decide) zw0 (fun _ h9 => h9) rfl dX3_insert_49 ?_
    refine lv_if_le (tgt := 57) hx hb dX3_insert_52 (by decide) (fun c_52 => ?_) (fun c_52 => ?_)
    · have hm := it_t hm c_52
      refine lv_iload_n hx hb dX3_insert_57 rfl (lv_at hl 0 rfl) ?_
      refine lv_if_eq (tgt := 77) hx hb dX3_insert_58 (by decide) (fun c_58 => ?_) (fun c_58 => ?_)
      · have hm := it_t hm c_58
        refine lv_aload_n hx hb dX3_insert_77 rfl (lv_at hl 1 rfl) ?_
        refine va_get (D := (dC, dI)) (ci := 3) (v := .int ybn) (C := RX3) (T := TX3) (N := 18) hx hb hts ziX3 hown hK hP 0 rfl rfl 9 (by decide) zw1 (fun _ h9 => h9) rfl dX3_insert_78 ?_
        refine lv_istore_n (lv' := [(3, .int ybn), (2, .int r2), (0, .ref (md 0)), (1, .int p1)]) hx hb dX3_insert_81 rfl hl (by decide) rfl (fun ls hl => ?_)
        obtain ⟨z_82, hq_82, hm⟩ := ob hm
        have K_82 : ∀ (x3_2 : Int32), ∀ (ybux82 : Nat → Int32), z_82 = (x3_2, ybux82) → ∀ (H : Heap) (locs : List Loc), va_P (dC, dI) vwCl (wM cI cZ md y45 ybd yro yrow ymk yrm yst ypc ybux82 ybn ymg ysp yjn ymd ybg ymm yup yun) H → va_D A (wM cI cZ md y45 ybd yro yrow ymk yrm yst ypc ybux82 ybn ymg ysp yjn ymd ybg ymm yup yun) → va_S A s.heap H locs → ∀ (ls : Array Slot), lv_has ls 4 [(3, .int x3_2), (0, .ref (md 0)), (1, .int p1)] → W p l e (headSpec wsX3_insert ({ frames := 3, cells := 0, slots := 0, locals := 81 } : Room)).room s m ([.ref (md 0), .int p1] : List Value).toArray below meth c H locs 0 0 (MQ below (zQi (dC, dI) (wM cI cZ md u_yth ybd yro u_yrow u_ymk u_yrm u_yst u_ypc u_ybu u_ybn u_ymg u_ysp u_yjn u_ymd u_ybg u_ymm u_yup u_yun) [(cI, .int), (cZ, .boolean)] A r) ([.ref (md 0), .int p1] : List Value).toArray s 0 0 A) (F0 m 118 ls []) := by
          intro x3_2 ybux82 ez H locs hP hD hS ls hl
          rw [ez] at hm
          refine lv_aload_n hx hb dX3_insert_118 rfl (lv_at hl 1 rfl) ?_
          refine va_get (D := (dC, dI)) (ci := 3) (v := .ref (md 4)) (C := RX3) (T := TX3) (N := 18) hx hb hts ziX3 hown hK hP 0 rfl rfl 8 (by decide) zw2 (fun _ h9 => h9) rfl dX3_insert_119 ?_
          refine lv_iload_n hx hb dX3_insert_122 rfl (lv_at hl 0 rfl) ?_
          refine lv_iload_n hx hb dX3_insert_123 rfl (lv_at hl 2 rfl) ?_
          obtain ⟨c_124, hm⟩ := ck hm
          refine va_iast hx hb hK hP hD hS 4 0 rfl rfl c_124 dX3_insert_124 (fun H locs hP hD hS => ?_)
          have hP : va_P (dC, dI) vwCl (wM cI cZ md y45 ybd yro yrow ymk yrm yst ypc (upd ybux82 (Int32.toNatClampNeg x3_2) p1) ybn ymg ysp yjn ymd ybg ymm yup yun) H := hP
          have hD : va_D A (wM cI cZ md y45 ybd yro yrow ymk yrm yst ypc (upd ybux82 (Int32.toNatClampNeg x3_2) p1) ybn ymg ysp yjn ymd ybg ymm yup yun) := hD
          refine lv_aload_n hx hb dX3_insert_125 rfl (lv_at hl 1 rfl) ?_
          refine lv_dup hx hb dX3_insert_126 rfl ?_
          refine va_get (D := (dC, dI)) (ci := 3) (v := .int ybn) (C := RX3) (T := TX3) (N := 18) hx hb hts ziX3 hown hK hP 0 rfl rfl 9 (by decide) zw1 (fun _ h9 => h9) rfl dX3_insert_127 ?_
          refine lv_iconst (v := 1) hx hb dX3_insert_130 (by decide) ?_
          refine lv_iadd hx hb dX3_insert_131 ?_
          refine va_put (D := (dC, dI)) (ci := 3) (v := .int (ybn + 1)) (ty := .int) (C := RX3) (T := TX3) (N := 18) hx hb hts ziX3 tyX3 tyX3_ok nmX3 hown hK hP hD hS 0 rfl rfl 9 (by decide) zw1 (fun _ h9 => h9) rfl (by decide +kernel) rfl rfl (Nat.le_of_ble_eq_true rfl) dX3_insert_132 (fun H locs hP hD hS => ?_)
          have hP : va_P (dC, dI) vwCl (wM cI cZ md y45 ybd yro yrow ymk yrm yst ypc (upd ybux82 (Int32.toNatClampNeg x3_2) p1) (ybn + 1) ymg ysp yjn ymd ybg ymm yup yun) H := hP
          have hD : va_D A (wM cI cZ md y45 ybd yro yrow ymk yrm yst ypc (upd ybux82 (Int32.toNatClampNeg x3_2) p1) (ybn + 1) ymg ysp yjn ymd ybg ymm yup yun) := hD
          refine lv_aload_n hx hb dX3_insert_135 rfl (lv_at hl 1 rfl) ?_
          refine va_get (D := (dC, dI)) (ci := 3) (v := .int (ybn + 1)) (C := RX3) (T := TX3) (N := 18) hx hb hts ziX3 hown hK hP 0 rfl rfl 9 (by decide) zw1 (fun _ h9 => h9) rfl dX3_insert_136 ?_
          refine lv_aload_n hx hb dX3_insert_139 rfl (lv_at hl 1 rfl) ?_
          refine va_get (D := (dC, dI)) (ci := 3) (v := .int yro) (C := RX3) (T := TX3) (N := 18) hx hb hts ziX3 hown hK hP 0 rfl rfl 2 (by decide) zw3 (fun _ h9 => h9) rfl dX3_insert_140 ?_
          refine lv_icmp_ne (tgt := 150) hx hb dX3_insert_143 (by decide) (fun c_143 => ?_) (fun c_143 => ?_)
          · have hm := it_f hm c_143
            refine lv_aload_n hx hb dX3_insert_150 rfl (lv_at hl 1 rfl) ?_
            refine va_get (D := (dC, dI)) (ci := 3) (v := .int (ybn + 1)) (C := RX3) (T := TX3) (N := 18) hx hb hts ziX3 hown hK hP 0 rfl rfl 9 (by decide) zw1 (fun _ h9 => h9) rfl dX3_insert_151 ?_
            cases o2 hm
            exact W.iret hx hb hr (fun t ht hW => ⟨⟨_, (), rfl, rfl, by rw [ht]; exact hP, va_K.moved hW.alike hK, hD⟩, hS.F ht⟩) hS.2.2 dX3_insert_154
          · have hm := it_t hm c_143
            refine lv_aload_n hx hb dX3_insert_146 rfl (lv_at hl 1 rfl) ?_
            obtain ⟨⟨yrow147, ymk147, yrm147, yst147, ypc147, ybn147, ymg147, ysp147, yjn147, ymd147, ybg147, ymm147, yup147, yun147⟩, h_147, hm⟩ := ob hm
            refine z_callWv (wc := (wM cI cZ md y45 ybd yro yrow ymk yrm yst ypc (upd ybux82 (Int32.toNatClampNeg x3_2) p1) (ybn + 1) ymg ysp yjn ymd ybg ymm yup yun)) (w1 := (wM cI cZ md y45 ybd yro yrow147 ymk147 yrm147 yst147 ypc147 (upd ybux82 (Int32.toNatClampNeg x3_2) p1) ybn147 ymg147 ysp147 yjn147 ymd147 ybg147 ymm147 yup147 yun147)) (ws := (wM cI cZ md y45 ybd yro yrow ymk yrm yst ypc (upd ybux82 (Int32.toNatClampNeg x3_2) p1) (ybn + 1) ymg ysp yjn ymd ybg ymm yup yun)) (ws' := (wM cI cZ md y45 ybd yro yrow147 ymk147 yrm147 yst147 ypc147 (upd ybux82 (Int32.toNatClampNeg x3_2) p1) ybn147 ymg147 ysp147 yjn147 ymd147 ybg147 ymm147 yup147 yun147)) (As := []) (rest := []) (ci := 3) (q := (RX3, TX3, 18)) ⟨hx, hb, hml, hown, hts⟩ (c_X3_mergesAll l dC dI cI cZ md y45 ybd yro yrow ymk yrm yst ypc (upd ybux82 (Int32.toNatClampNeg x3_2) p1) (ybn + 1) ymg ysp yjn ymd ybg ymm yup yun F H.size yrow147 ymk147 yrm147 yst147 ypc147 ybn147 ymg147 ysp147 yjn147 ymd147 ybg147 ymm147 yup147 yun147 h_147) (cwV 0 hts gX3_insert_X3_mergesAll rfl rfl rfl kv_X3_mergesAll ⟨Nat.le_of_ble_eq_true rfl, Nat.le_of_ble_eq_true rfl⟩) hK hP hD hS hA (z_spAll (wM cI cZ md y45 ybd yro yrow ymk yrm yst ypc (upd ybux82 (Int32.toNatClampNeg x3_2) p1) (ybn + 1) ymg ysp yjn ymd ybg ymm yup yun) (wM cI cZ md y45 ybd yro yrow147 ymk147 yrm147 yst147 ypc147 (upd ybux82 (Int32.toNatClampNeg x3_2) p1) ybn147 ymg147 ysp147 yjn147 ymd147 ybg147 ymm147 yup147 yun147)) ((paM cI cZ md y45 ybd yro yrow147 ymk147 yrm147 yst147 ypc147 (upd ybux82 (Int32.toNatClampNeg x3_2) p1) ybn147 ymg147 ysp147 yjn147 ymd147 ybg147 ymm147 yup147 yun147).trans (paM cI cZ md y45 ybd yro yrow ymk yrm yst ypc (upd ybux82 (Int32.toNatClampNeg x3_2) p1) (ybn + 1) ymg ysp yjn ymd ybg ymm yup yun).symm) rfl rfl rfl rfl hl.1 rfl (Nat.le_of_ble_eq_true rfl) dX3_insert_147 ⟨Nat.zero_le _, Nat.zero_le _⟩ (fun H locs hP hD hS => ?_)
            refine lv_aload_n hx hb dX3_insert_150 rfl (lv_at hl 1 rfl) ?_
            refine va_get (D := (dC, dI)) (ci := 3) (v := .int ybn147) (C := RX3) (T := TX3) (N := 18) hx hb hts ziX3 hown hK hP 0 rfl rfl 9 (by decide) zw1 (fun _ h9 => h9) rfl dX3_insert_151 ?_
            cases o2 hm
            exact W.iret hx hb hr (fun t ht hW => ⟨⟨_, (), rfl, rfl, by rw [ht]; exact hP, va_K.moved hW.alike hK, hD⟩, hS.F ht⟩) hS.2.2 dX3_insert_154
        have L_82 : ∀ (n : Nat) (x3 : Int32) (ybul82 : Nat → Int32), X3_insert_L82 p1 n x3 ybul82 = some z_82 → ∀ (H : Heap) (locs : List Loc), va_P (dC, dI) vwCl (wM cI cZ md y45 ybd yro yrow ymk yrm yst ypc ybul82 ybn ymg ysp yjn ymd ybg ymm yup yun) H → va_D A (wM cI cZ md y45 ybd yro yrow ymk yrm yst ypc ybul82 ybn ymg ysp yjn ymd ybg ymm yup yun) → va_S A s.heap H locs → ∀ (ls : Array Slot), lv_has ls 4 [(3, .int x3), (0, .ref (md 0)), (1, .int p1)] → W p l e (headSpec wsX3_insert ({ frames := 3, cells := 0, slots := 0, locals := 81 } : Room)).room s m ([.ref (md 0), .int p1] : List Value).toArray below meth c H locs 0 0 (MQ below (zQi (dC, dI) (wM cI cZ md u_yth ybd yro u_yrow u_ymk u_yrm u_yst u_ypc u_ybu u_ybn u_ymg u_ysp u_yjn u_ymd u_ybg u_ymm u_yup u_yun) [(cI, .int), (cZ, .boolean)] A r) ([.ref (md 0), .int p1] : List Value).toArray s 0 0 A) (F0 m 82 ls []) := by
          intro n
          induction n with
          | zero => intro x3 ybul82 hm; cases hm
          | succ n ih_82 =>
            intro x3 ybul82 hm H locs hP hD hS ls hl
            refine lv_iload_n hx hb dX3_insert_82 rfl (lv_at hl 0 rfl) ?_
            refine lv_if_le (tgt := 118) hx hb dX3_insert_83 (by decide) (fun c_83 => ?_) (fun c_83 => ?_)
            · have hm := it_t hm c_83
              exact K_82 x3 ybul82 (o2 hm) _ _ hP hD hS _ (lv_sub hl [0, 1, 2] rfl)
            · have hm := it_f hm c_83
              refine lv_aload_n hx hb dX3_insert_86 rfl (lv_at hl 1 rfl) ?_
              refine va_get (D := (dC, dI)) (ci := 3) (v := .ref (md 4)) (C := RX3) (T := TX3) (N := 18) hx hb hts ziX3 hown hK hP 0 rfl rfl 8 (by decide) zw2 (fun _ h9 => h9) rfl dX3_insert_87 ?_
              refine lv_iload_n hx hb dX3_insert_90 rfl (lv_at hl 0 rfl) ?_
              refine lv_iconst (v := 1) hx hb dX3_insert_91 (by decide) ?_
              refine lv_isub hx hb dX3_insert_92 ?_
              obtain ⟨c_93, hm⟩ := ck hm
              refine va_iald hx hb hK hP 4 0 rfl rfl c_93 dX3_insert_93 ?_
              refine lv_iload_n hx hb dX3_insert_94 rfl (lv_at hl 2 rfl) ?_
              refine lv_icmp_le (tgt := 118) hx hb dX3_insert_95 (by decide) (fun c_95 => ?_) (fun c_95 => ?_)
              · have hm := it_t hm c_95
                exact K_82 x3 ybul82 (o2 hm) _ _ hP hD hS _ (lv_sub hl [0, 1, 2] rfl)
              · have hm := it_f hm c_95
                refine lv_aload_n hx hb dX3_insert_98 rfl (lv_at hl 1 rfl) ?_
                refine va_get (D := (dC, dI)) (ci := 3) (v := .ref (md 4)) (C := RX3) (T := TX3) (N := 18) hx hb hts ziX3 hown hK hP 0 rfl rfl 8 (by decide) zw2 (fun _ h9 => h9) rfl dX3_insert_99 ?_
                refine lv_iload_n hx hb dX3_insert_102 rfl (lv_at hl 0 rfl) ?_
                refine lv_aload_n hx hb dX3_insert_103 rfl (lv_at hl 1 rfl) ?_
                refine va_get (D := (dC, dI)) (ci := 3) (v := .ref (md 4)) (C := RX3) (T := TX3) (N := 18) hx hb hts ziX3 hown hK hP 0 rfl rfl 8 (by decide) zw2 (fun _ h9 => h9) rfl dX3_insert_104 ?_
                refine lv_iload_n hx hb dX3_insert_107 rfl (lv_at hl 0 rfl) ?_
                refine lv_iconst (v := 1) hx hb dX3_insert_108 (by decide) ?_
                refine lv_isub hx hb dX3_insert_109 ?_
                obtain ⟨c_110, hm⟩ := ck hm
                refine va_iald hx hb hK hP 4 0 rfl rfl c_110 dX3_insert_110 ?_
                obtain ⟨c_111, hm⟩ := ck hm
                refine va_iast hx hb hK hP hD hS 4 0 rfl rfl c_111 dX3_insert_111 (fun H locs hP hD hS => ?_)
                have hP : va_P (dC, dI) vwCl (wM cI cZ md y45 ybd yro yrow ymk yrm yst ypc (upd ybul82 (Int32.toNatClampNeg x3) (ybul82 (Int32.toNatClampNeg (x3 - 1)))) ybn ymg ysp yjn ymd ybg ymm yup yun) H := hP
                have hD : va_D A (wM cI cZ md y45 ybd yro yrow ymk yrm yst ypc (upd ybul82 (Int32.toNatClampNeg x3) (ybul82 (Int32.toNatClampNeg (x3 - 1)))) ybn ymg ysp yjn ymd ybg ymm yup yun) := hD
                obtain ⟨x3_1, e_x3_1⟩ : ∃ y : Int32, y = x3 + (-1) := ⟨_, rfl⟩
                have hm := bnd_e hm e_x3_1
                refine lv_iinc (v := x3_1) (lv' := [(3, .int x3_1), (0, .ref (md 0)), (1, .int p1)]) hx hb dX3_insert_112 hl (k := 0) rfl (by rw [e_x3_1]; rfl) (by decide) rfl (fun ls hl => ?_)
                refine lv_goto (tgt := 82) hx hb dX3_insert_115 (by decide) ?_
                exact ih_82 x3_1 (upd ybul82 (Int32.toNatClampNeg x3) (ybul82 (Int32.toNatClampNeg (x3 - 1)))) hm _ _ hP hD hS _ (lv_sub hl [0, 1, 2] rfl)
        exact L_82 F ybn ybu hq_82 _ _ hP hD hS _ (lv_sub hl [0, 2, 3] rfl)
      · have hm := it_f hm c_58
        refine lv_aload_n hx hb dX3_insert_61 rfl (lv_at hl 1 rfl) ?_
        refine va_get (D := (dC, dI)) (ci := 3) (v := .ref (md 2)) (C := RX3) (T := TX3) (N := 18) hx hb hts ziX3 hown hK hP 0 rfl rfl 4 (by decide) zw4 (fun _ h9 => h9) rfl dX3_insert_62 ?_
        refine lv_aload_n hx hb dX3_insert_65 rfl (lv_at hl 1 rfl) ?_
        refine lv_iload_n hx hb dX3_insert_66 rfl (lv_at hl 2 rfl) ?_
        obtain ⟨r67, h_67, hm⟩ := ob hm
        refine z_callRi (As := [.int p1]) (rest := [.ref (md 2)]) (ci := 3) (q := (RX3, TX3, 18)) ⟨hx, hb, hml, hown, hts⟩ (c_X3_placeOf l dC dI cI cZ md y45 ybd yro yrow ymk yrm yst ypc ybu ybn ymg ysp yjn ymd ybg ymm yup yun F p1 r67 h_67) (cwV 1 hts gX3_insert_X3_placeOf rfl rfl rfl kv_X3_placeOf ⟨Nat.le_of_ble_eq_true rfl, Nat.le_of_ble_eq_true rfl⟩) hK hP rfl rfl rfl rfl hl.1 rfl (Nat.le_of_ble_eq_true rfl) dX3_insert_67 ⟨Nat.zero_le _, Nat.zero_le _⟩ ?_
        refine lv_iconst (v := 0) hx hb dX3_insert_70 (by decide) ?_
        obtain ⟨c_71, hm⟩ := ck hm
        refine va_zast hx hb hK hP hD hS 2 1 rfl rfl c_71 dX3_insert_71 (fun H locs hP hD hS => ?_)
        have hP : va_P (dC, dI) vwCl (wM cI cZ md y45 ybd yro yrow (upd ymk (Int32.toNatClampNeg r67) 0) yrm yst ypc ybu ybn ymg ysp yjn ymd ybg ymm yup yun) H := hP
        have hD : va_D A (wM cI cZ md y45 ybd yro yrow (upd ymk (Int32.toNatClampNeg r67) 0) yrm yst ypc ybu ybn ymg ysp yjn ymd ybg ymm yup yun) := hD
        refine lv_aload_n hx hb dX3_insert_72 rfl (lv_at hl 1 rfl) ?_
        refine va_get (D := (dC, dI)) (ci := 3) (v := .int ybn) (C := RX3) (T := TX3) (N := 18) hx hb hts ziX3 hown hK hP 0 rfl rfl 9 (by decide) zw1 (fun _ h9 => h9) rfl dX3_insert_73 ?_
        cases o2 hm
        exact W.iret hx hb hr (fun t ht hW => ⟨⟨_, (), rfl, rfl, by rw [ht]; exact hP, va_K.moved hW.alike hK, hD⟩, hS.F ht⟩) hS.2.2 dX3_insert_76
    · have hm := it_f hm c_52
      refine lv_iconst (v := 0) hx hb dX3_insert_55 (by decide) ?_
      cases o2 hm
      exact W.iret hx hb hr (fun t ht hW => ⟨⟨_, (), rfl, rfl, by rw [ht]; exact hP, va_K.moved hW.alike hK, hD⟩, hS.F ht⟩) hS.2.2 dX3_insert_56
  have hm := hq_45
  refine lv_if_ne (tgt := 18) hx hb dX3_insert_11 (by decide) (fun c_11 => ?_) (fun c_11 => ?_)
  · have hm := it_f hm c_11
    refine lv_aload_n hx hb dX3_insert_18 rfl (lv_at hl 1 rfl) ?_
    refine lv_iload_n hx hb dX3_insert_19 rfl (lv_at hl 2 rfl) ?_
    obtain ⟨r20, h_20, hm⟩ := ob hm
    refine z_callRi (As := [.int p1]) (rest := [.ref (md 0)]) (ci := 3) (q := (RX3, TX3, 18)) ⟨hx, hb, hml, hown, hts⟩ (c_X3_isThere l dC dI cI cZ md yth ybd yro yrow ymk yrm yst ypc ybu ybn ymg ysp yjn ymd ybg ymm yup yun F p1 r20 h_20) (cwV 1 hts gX3_insert_X3_isThere rfl rfl rfl kv_X3_isThere ⟨Nat.le_of_ble_eq_true rfl, Nat.le_of_ble_eq_true rfl⟩) hK hP rfl rfl rfl rfl hl.1 rfl (Nat.le_of_ble_eq_true rfl) dX3_insert_20 ⟨Nat.zero_le _, Nat.zero_le _⟩ ?_
    refine lv_if_ne (tgt := 40) hx hb dX3_insert_23 (by decide) (fun c_23 => ?_) (fun c_23 => ?_)
    · have hm := it_f hm c_23
      refine lv_iconst (v := 2) hx hb dX3_insert_40 (by decide) ?_
      refine lv_goto (tgt := 45) hx hb dX3_insert_41 (by decide) ?_
      exact J_45 2 (o2 hm)
    · have hm := it_t hm c_23
      refine lv_aload_n hx hb dX3_insert_26 rfl (lv_at hl 1 rfl) ?_
      obtain ⟨r27, h_27, hm⟩ := ob hm
      refine z_callRi (As := []) (rest := [.ref (md 0)]) (ci := 3) (q := (RX3, TX3, 18)) ⟨hx, hb, hml, hown, hts⟩ (c_X3_many l dC dI cI cZ md yth ybd yro yrow ymk yrm yst ypc ybu ybn ymg ysp yjn ymd ybg ymm yup yun F r27 h_27) (cwV 0 hts gX3_insert_X3_many rfl rfl rfl kv_X3_many ⟨Nat.le_of_ble_eq_true rfl, Nat.le_of_ble_eq_true rfl⟩) hK hP rfl rfl rfl rfl hl.1 rfl (Nat.le_of_ble_eq_true rfl) dX3_insert_27 ⟨Nat.zero_le _, Nat.zero_le _⟩ ?_
      refine lv_sipush (v := 256) hx hb dX3_insert_30 (by decide) ?_
      refine lv_icmp_ne (tgt := 44) hx hb dX3_insert_33 (by decide) (fun c_33 => ?_) (fun c_33 => ?_)
      · have hm := it_f hm c_33
        refine lv_iconst (v := 0) hx hb dX3_insert_44 (by decide) ?_
        exact J_45 0 (o2 hm)
      · have hm := it_t hm c_33
        refine lv_iload_n hx hb dX3_insert_36 rfl (lv_at hl 0 rfl) ?_
        refine lv_if_ne (tgt := 44) hx hb dX3_insert_37 (by decide) (fun c_37 => ?_) (fun c_37 => ?_)
        · have hm := it_f hm c_37
          refine lv_iconst (v := 0) hx hb dX3_insert_44 (by decide) ?_
          exact J_45 0 (o2 hm)
        · have hm := it_t hm c_37
          refine lv_iconst (v := 2) hx hb dX3_insert_40 (by decide) ?_
          refine lv_goto (tgt := 45) hx hb dX3_insert_41 (by decide) ?_
          exact J_45 2 (o2 hm)
  · have hm := it_t hm c_11
    refine lv_iconst (v := 1) hx hb dX3_insert_14 (by decide) ?_
    refine lv_goto (tgt := 45) hx hb dX3_insert_15 (by decide) ?_
    exact J_45 1 (o2 hm)
set_option maxHeartbeats 4000000 in
set_option maxRecDepth 100000 in
theorem c_X3_below (l : Launch) (dC : Nat → ClassId) (dI : Nat → Nat → Nat) (cI : ClassId) (cZ : ClassId) (md : Nat → Nat) (yth : Int32) (ybd : Int32) (yro : Int32) (yrow : Nat → Int32) (ymk : Nat → Int32) (yrm : Int32) (yst : Nat → Int32) (ypc : Int32) (ybu : Nat → Int32) (ybn : Int32) (ymg : Int32) (ysp : Int32) (yjn : Int32) (ymd : Nat → Int32) (ybg : Nat → Int32) (ymm : Int32) (yup : Int64) (yun : Int64) (F : Nat) (p1 : Int64) (r : Int32) (hm : X3_below F yrow ymk yrm ybu ybn p1 = some r) : Met l yX3_below wsX3_below ({ frames := 0, cells := 0, slots := 0, locals := 0 }) (va_Pc [.ref (md 0), .long p1] (zR (dC, dI) (wM cI cZ md yth ybd yro yrow ymk yrm yst ypc ybu ybn ymg ysp yjn ymd ybg ymm yup yun) [(cI, .int), (cZ, .boolean)])) (vp_Si (fun v => v = r)) 0 0 (fun _ => False) := by
  refine Met.ofW (cc := cX3_below) (maxL := 5) (ret := (some .int)) (by decide) rfl ?_
  intro p e s m args below meth c s₁ B hml hv
  obtain ⟨rfl, hP, hK⟩ := hv
  have hx := B.exec
  have hb := B.bytes
  have hr := B.returns
  have hts := atoms_spec (ws := wsX3_below) B.pre
  have hown : s.vm.findClass RX3 = some m.cls := findClass_of_methodNamed B.named
  have hlocks := B.notSynchronized
  have hl := lv_entry ([.ref (md 0), .long p1]) (n := 5) (Nat.le_of_ble_eq_true rfl)
  rw [lg_entry_eq]
  generalize (lg_sl ([.ref (md 0), .long p1]) ++ List.replicate (5 - (lg_sl ([.ref (md 0), .long p1])).length) Slot.unset).toArray = ls at hl ⊢
  have hl : lv_has ls 5 [(0, .ref (md 0)), (1, .long p1)] := hl
  have zw0 := hts (.fieldLink RX3 51 "LearnedLedgeModel" "rowMany" "I") (List.mem_cons_of_mem _ (List.mem_append_left _ (List.mem_of_getElem? (i := 0) rfl)))
  have zw1 := hts (.fieldLink RX3 20 "LearnedLedgeModel" "isMarked" "[Z") (List.mem_cons_of_mem _ (List.mem_append_left _ (List.mem_of_getElem? (i := 1) rfl)))
  have zw2 := hts (.fieldLink RX3 16 "LearnedLedgeModel" "row" "[I") (List.mem_cons_of_mem _ (List.mem_append_left _ (List.mem_of_getElem? (i := 2) rfl)))
  have zw3 := hts (.fieldLink RX3 69 "LearnedLedgeModel" "buffered" "I") (List.mem_cons_of_mem _ (List.mem_append_left _ (List.mem_of_getElem? (i := 3) rfl)))
  have zw4 := hts (.fieldLink RX3 27 "LearnedLedgeModel" "buffer" "[I") (List.mem_cons_of_mem _ (List.mem_append_left _ (List.mem_of_getElem? (i := 4) rfl)))
  have ziX3 : ∀ w ∈ u_ws RX3 TX3 18, w ∈ wsX3_below := (fun _ h9 => (List.mem_cons_of_mem _ (List.mem_append_right _ h9)))
  refine lv_iconst (v := 0) hx hb dX3_below_0 (by decide) ?_
  refine lv_istore_n (lv' := [(3, .int 0), (0, .ref (md 0)), (1, .long p1)]) hx hb dX3_below_1 rfl hl (by decide) rfl (fun ls hl => ?_)
  refine lv_iconst (v := 0) hx hb dX3_below_2 (by decide) ?_
  refine lv_istore (lv' := [(4, .int 0), (3, .int 0), (0, .ref (md 0)), (1, .long p1)]) hx hb dX3_below_3 hl (by decide) rfl (fun ls hl => ?_)
  obtain ⟨z_5, hq_5, hm⟩ := ob hm
  have K_5 : ∀ (x3_4 : Int32), z_5 = x3_4 → ∀ (ls : Array Slot), lv_has ls 5 [(3, .int x3_4), (0, .ref (md 0)), (1, .long p1)] → W p l e (headSpec wsX3_below ({ frames := 0, cells := 0, slots := 0, locals := 0 } : Room)).room s m ([.ref (md 0), .long p1] : List Value).toArray below meth c s.heap [] 0 0 (MQ below (vp_Si (fun v => v = r)) ([.ref (md 0), .long p1] : List Value).toArray s 0 0 (fun _ => False)) (F0 m 51 ls []) := by
    intro x3_4 ez ls hl
    rw [ez] at hm
    refine lv_iconst (v := 0) hx hb dX3_below_51 (by decide) ?_
    refine lv_istore (lv' := [(4, .int 0), (3, .int x3_4), (0, .ref (md 0)), (1, .long p1)]) hx hb dX3_below_52 hl (by decide) rfl (fun ls hl => ?_)
    obtain ⟨z_54, hq_54, hm⟩ := ob hm
    have K_54 : ∀ (x3_8 : Int32), z_54 = x3_8 → ∀ (ls : Array Slot), lv_has ls 5 [(3, .int x3_8)] → W p l e (headSpec wsX3_below ({ frames := 0, cells := 0, slots := 0, locals := 0 } : Room)).room s m ([.ref (md 0), .long p1] : List Value).toArray below meth c s.heap [] 0 0 (MQ below (vp_Si (fun v => v = r)) ([.ref (md 0), .long p1] : List Value).toArray s 0 0 (fun _ => False)) (F0 m 90 ls []) := by
      intro x3_8 ez ls hl
      rw [ez] at hm
      refine lv_iload_n hx hb dX3_below_90 rfl (lv_at hl 0 rfl) ?_
      exact W.iret hx hb hr (fun t ht hW => ⟨_, rfl, (o2 hm).symm, ht⟩) (fun q h => absurd h List.not_mem_nil) dX3_below_91
    have L_54 : ∀ (n : Nat) (x4_4 : Int32) (x3_5 : Int32), X3_below_L54 p1 ybu ybn n x4_4 x3_5 = some z_54 → ∀ (ls : Array Slot), lv_has ls 5 [(4, .int x4_4), (3, .int x3_5), (0, .ref (md 0)), (1, .long p1)] → W p l e (headSpec wsX3_below ({ frames := 0, cells := 0, slots := 0, locals := 0 } : Room)).room s m ([.ref (md 0), .long p1] : List Value).toArray below meth c s.heap [] 0 0 (MQ below (vp_Si (fun v => v = r)) ([.ref (md 0), .long p1] : List Value).toArray s 0 0 (fun _ => False)) (F0 m 54 ls []) := by
      intro n
      induction n with
      | zero => intro x4_4 x3_5 hm; cases hm
      | succ n ih_54 =>
        intro x4_4 x3_5 hm ls hl
        refine lv_iload hx hb dX3_below_54 (lv_at hl 0 rfl) ?_
        refine lv_aload_n hx hb dX3_below_56 rfl (lv_at hl 2 rfl) ?_
        refine va_get (D := (dC, dI)) (ci := 3) (v := .int ybn) (C := RX3) (T := TX3) (N := 18) hx hb hts ziX3 hown hK hP 0 rfl rfl 9 (by decide) zw3 (fun _ h9 => h9) rfl dX3_below_57 ?_
        refine lv_icmp_ge (tgt := 90) hx hb dX3_below_60 (by decide) (fun c_60 => ?_) (fun c_60 => ?_)
        · have hm := it_t hm c_60
          exact K_54 x3_5 (o2 hm) _ (lv_sub hl [1] rfl)
        · have hm := it_f hm c_60
          refine lv_iload_n hx hb dX3_below_63 rfl (lv_at hl 1 rfl) ?_
          refine lv_aload_n hx hb dX3_below_64 rfl (lv_at hl 2 rfl) ?_
          refine va_get (D := (dC, dI)) (ci := 3) (v := .ref (md 4)) (C := RX3) (T := TX3) (N := 18) hx hb hts ziX3 hown hK hP 0 rfl rfl 8 (by decide) zw4 (fun _ h9 => h9) rfl dX3_below_65 ?_
          refine lv_iload hx hb dX3_below_68 (lv_at hl 0 rfl) ?_
          obtain ⟨c_70, hm⟩ := ck hm
          refine va_iald hx hb hK hP 4 0 rfl rfl c_70 dX3_below_70 ?_
          refine lv_i2l hx hb dX3_below_71 rfl ?_
          refine lv_lload_n hx hb dX3_below_72 rfl (lv_at hl 3 rfl) ?_
          refine W.lcmp hx hb dX3_below_73 ?_
          refine lv_if_ge (tgt := 81) hx hb dX3_below_74 (by decide) (fun c_74 => ?_) (fun c_74 => ?_)
          · have c_74 : p1 ≤ (Int32.toInt64 (ybu (Int32.toNatClampNeg x4_4))) := (lg_cmp_ge _ _).mp c_74
            have hm := it_t hm c_74
            refine lv_iconst (v := 0) hx hb dX3_below_81 (by decide) ?_
            refine lv_iadd hx hb dX3_below_82 ?_
            refine lv_topi (fun x3_6 e_x3_6 => ?_)
            have hm := bnd_e hm e_x3_6
            refine lv_istore_n (lv' := [(3, .int x3_6), (4, .int x4_4), (0, .ref (md 0)), (1, .long p1)]) hx hb dX3_below_83 rfl hl (by decide) rfl (fun ls hl => ?_)
            obtain ⟨x4_5, e_x4_5⟩ : ∃ y : Int32, y = x4_4 + 1 := ⟨_, rfl⟩
            have hm := bnd_e hm e_x4_5
            refine lv_iinc (v := x4_5) (lv' := [(4, .int x4_5), (3, .int x3_6), (0, .ref (md 0)), (1, .long p1)]) hx hb dX3_below_84 hl (k := 1) rfl (by rw [e_x4_5]; rfl) (by decide) rfl (fun ls hl => ?_)
            refine lv_goto (tgt := 54) hx hb dX3_below_87 (by decide) ?_
            exact ih_54 x4_5 x3_6 hm _ (lv_sub hl [0, 1, 2, 3] rfl)
          · have c_74 : ¬ (p1 ≤ (Int32.toInt64 (ybu (Int32.toNatClampNeg x4_4)))) := fun h => c_74 ((lg_cmp_ge _ _).mpr h)
            have hm := it_f hm c_74
            refine lv_iconst (v := 1) hx hb dX3_below_77 (by decide) ?_
            refine lv_goto (tgt := 82) hx hb dX3_below_78 (by decide) ?_
            refine lv_iadd hx hb dX3_below_82 ?_
            refine lv_topi (fun x3_7 e_x3_7 => ?_)
            have hm := bnd_e hm e_x3_7
            refine lv_istore_n (lv' := [(3, .int x3_7), (4, .int x4_4), (0, .ref (md 0)), (1, .long p1)]) hx hb dX3_below_83 rfl hl (by decide) rfl (fun ls hl => ?_)
            obtain ⟨x4_6, e_x4_6⟩ : ∃ y : Int32, y = x4_4 + 1 := ⟨_, rfl⟩
            have hm := bnd_e hm e_x4_6
            refine lv_iinc (v := x4_6) (lv' := [(4, .int x4_6), (3, .int x3_7), (0, .ref (md 0)), (1, .long p1)]) hx hb dX3_below_84 hl (k := 1) rfl (by rw [e_x4_6]; rfl) (by decide) rfl (fun ls hl => ?_)
            refine lv_goto (tgt := 54) hx hb dX3_below_87 (by decide) ?_
            exact ih_54 x4_6 x3_7 hm _ (lv_sub hl [0, 1, 2, 3] rfl)
    exact L_54 F 0 x3_4 hq_54 _ (lv_sub hl [0, 1, 2, 3] rfl)
  have L_5 : ∀ (n : Nat) (x4 : Int32) (x3 : Int32), X3_below_L5 p1 yrow ymk yrm n x4 x3 = some z_5 → ∀ (ls : Array Slot), lv_has ls 5 [(4, .int x4), (3, .int x3), (0, .ref (md 0)), (1, .long p1)] → W p l e (headSpec wsX3_below ({ frames := 0, cells := 0, slots := 0, locals := 0 } : Room)).room s m ([.ref (md 0), .long p1] : List Value).toArray below meth c s.heap [] 0 0 (MQ below (vp_Si (fun v => v = r)) ([.ref (md 0), .long p1] : List Value).toArray s 0 0 (fun _ => False)) (F0 m 5 ls []) := by
    intro n
    induction n with
    | zero => intro x4 x3 hm; cases hm
    | succ n ih_5 =>
      intro x4 x3 hm ls hl
      refine lv_iload hx hb dX3_below_5 (lv_at hl 0 rfl) ?_
      refine lv_aload_n hx hb dX3_below_7 rfl (lv_at hl 2 rfl) ?_
      refine va_get (D := (dC, dI)) (ci := 3) (v := .int yrm) (C := RX3) (T := TX3) (N := 18) hx hb hts ziX3 hown hK hP 0 rfl rfl 5 (by decide) zw0 (fun _ h9 => h9) rfl dX3_below_8 ?_
      refine lv_icmp_ge (tgt := 51) hx hb dX3_below_11 (by decide) (fun c_11 => ?_) (fun c_11 => ?_)
      · have hm := it_t hm c_11
        exact K_5 x3 (o2 hm) _ (lv_sub hl [1, 2, 3] rfl)
      · have hm := it_f hm c_11
        refine lv_iload_n hx hb dX3_below_14 rfl (lv_at hl 1 rfl) ?_
        refine lv_aload_n hx hb dX3_below_15 rfl (lv_at hl 2 rfl) ?_
        refine va_get (D := (dC, dI)) (ci := 3) (v := .ref (md 2)) (C := RX3) (T := TX3) (N := 18) hx hb hts ziX3 hown hK hP 0 rfl rfl 4 (by decide) zw1 (fun _ h9 => h9) rfl dX3_below_16 ?_
        refine lv_iload hx hb dX3_below_19 (lv_at hl 0 rfl) ?_
        obtain ⟨c_21, hm⟩ := ck hm
        refine va_zald hx hb hK hP 2 1 rfl rfl c_21 dX3_below_21 ?_
        refine lv_if_ne (tgt := 42) hx hb dX3_below_22 (by decide) (fun c_22 => ?_) (fun c_22 => ?_)
        · have hm := it_f hm c_22
          refine lv_iconst (v := 0) hx hb dX3_below_42 (by decide) ?_
          refine lv_iadd hx hb dX3_below_43 ?_
          refine lv_topi (fun x3_1 e_x3_1 => ?_)
          have hm := bnd_e hm e_x3_1
          refine lv_istore_n (lv' := [(3, .int x3_1), (4, .int x4), (0, .ref (md 0)), (1, .long p1)]) hx hb dX3_below_44 rfl hl (by decide) rfl (fun ls hl => ?_)
          obtain ⟨x4_1, e_x4_1⟩ : ∃ y : Int32, y = x4 + 1 := ⟨_, rfl⟩
          have hm := bnd_e hm e_x4_1
          refine lv_iinc (v := x4_1) (lv' := [(4, .int x4_1), (3, .int x3_1), (0, .ref (md 0)), (1, .long p1)]) hx hb dX3_below_45 hl (k := 1) rfl (by rw [e_x4_1]; rfl) (by decide) rfl (fun ls hl => ?_)
          refine lv_goto (tgt := 5) hx hb dX3_below_48 (by decide) ?_
          exact ih_5 x4_1 x3_1 hm _ (lv_sub hl [0, 1, 2, 3] rfl)
        · have hm := it_t hm c_22
          refine lv_aload_n hx hb dX3_below_25 rfl (lv_at hl 2 rfl) ?_
          refine va_get (D := (dC, dI)) (ci := 3) (v := .ref (md 1)) (C := RX3) (T := TX3) (N := 18) hx hb hts ziX3 hown hK hP 0 rfl rfl 3 (by decide) zw2 (fun _ h9 => h9) rfl dX3_below_26 ?_
          refine lv_iload hx hb dX3_below_29 (lv_at hl 0 rfl) ?_
          obtain ⟨c_31, hm⟩ := ck hm
          refine va_iald hx hb hK hP 1 0 rfl rfl c_31 dX3_below_31 ?_
          refine lv_i2l hx hb dX3_below_32 rfl ?_
          refine lv_lload_n hx hb dX3_below_33 rfl (lv_at hl 3 rfl) ?_
          refine W.lcmp hx hb dX3_below_34 ?_
          refine lv_if_ge (tgt := 42) hx hb dX3_below_35 (by decide) (fun c_35 => ?_) (fun c_35 => ?_)
          · have c_35 : p1 ≤ (Int32.toInt64 (yrow (Int32.toNatClampNeg x4))) := (lg_cmp_ge _ _).mp c_35
            have hm := it_t hm c_35
            refine lv_iconst (v := 0) hx hb dX3_below_42 (by decide) ?_
            refine lv_iadd hx hb dX3_below_43 ?_
            refine lv_topi (fun x3_2 e_x3_2 => ?_)
            have hm := bnd_e hm e_x3_2
            refine lv_istore_n (lv' := [(3, .int x3_2), (4, .int x4), (0, .ref (md 0)), (1, .long p1)]) hx hb dX3_below_44 rfl hl (by decide) rfl (fun ls hl => ?_)
            obtain ⟨x4_2, e_x4_2⟩ : ∃ y : Int32, y = x4 + 1 := ⟨_, rfl⟩
            have hm := bnd_e hm e_x4_2
            refine lv_iinc (v := x4_2) (lv' := [(4, .int x4_2), (3, .int x3_2), (0, .ref (md 0)), (1, .long p1)]) hx hb dX3_below_45 hl (k := 1) rfl (by rw [e_x4_2]; rfl) (by decide) rfl (fun ls hl => ?_)
            refine lv_goto (tgt := 5) hx hb dX3_below_48 (by decide) ?_
            exact ih_5 x4_2 x3_2 hm _ (lv_sub hl [0, 1, 2, 3] rfl)
          · have c_35 : ¬ (p1 ≤ (Int32.toInt64 (yrow (Int32.toNatClampNeg x4)))) := fun h => c_35 ((lg_cmp_ge _ _).mpr h)
            have hm := it_f hm c_35
            refine lv_iconst (v := 1) hx hb dX3_below_38 (by decide) ?_
            refine lv_goto (tgt := 43) hx hb dX3_below_39 (by decide) ?_
            refine lv_iadd hx hb dX3_below_43 ?_
            refine lv_topi (fun x3_3 e_x3_3 => ?_)
            have hm := bnd_e hm e_x3_3
            refine lv_istore_n (lv' := [(3, .int x3_3), (4, .int x4), (0, .ref (md 0)), (1, .long p1)]) hx hb dX3_below_44 rfl hl (by decide) rfl (fun ls hl => ?_)
            obtain ⟨x4_3, e_x4_3⟩ : ∃ y : Int32, y = x4 + 1 := ⟨_, rfl⟩
            have hm := bnd_e hm e_x4_3
            refine lv_iinc (v := x4_3) (lv' := [(4, .int x4_3), (3, .int x3_3), (0, .ref (md 0)), (1, .long p1)]) hx hb dX3_below_45 hl (k := 1) rfl (by rw [e_x4_3]; rfl) (by decide) rfl (fun ls hl => ?_)
            refine lv_goto (tgt := 5) hx hb dX3_below_48 (by decide) ?_
            exact ih_5 x4_3 x3_3 hm _ (lv_sub hl [0, 1, 2, 3] rfl)
  exact L_5 F 0 0 hq_5 _ (lv_sub hl [0, 1, 2, 3] rfl)
set_option maxHeartbeats 4000000 in
set_option maxRecDepth 100000 in
theorem c_X3_keys (l : Launch) (dC : Nat → ClassId) (dI : Nat → Nat → Nat) (cI : ClassId) (cZ : ClassId) (md : Nat → Nat) (yth : Int32) (ybd : Int32) (yro : Int32) (yrow : Nat → Int32) (ymk : Nat → Int32) (yrm : Int32) (yst : Nat → Int32) (ypc : Int32) (ybu : Nat → Int32) (ybn : Int32) (ymg : Int32) (ysp : Int32) (yjn : Int32) (ymd : Nat → Int32) (ybg : Nat → Int32) (ymm : Int32) (yup : Int64) (yun : Int64) (F : Nat) (r : Int32) (hm : X3_keys F yrow ymk yrm ybu ybn = some r) : Met l yX3_keys wsX3_keys ({ frames := 1, cells := 0, slots := 0, locals := 24 }) (va_Pc [.ref (md 0)] (zR (dC, dI) (wM cI cZ md yth ybd yro yrow ymk yrm yst ypc ybu ybn ymg ysp yjn ymd ybg ymm yup yun) [(cI, .int), (cZ, .boolean)])) (vp_Si (fun v => v = r)) 0 0 (fun _ => False) := by
  refine Met.ofW (cc := cX3_keys) (maxL := 1) (ret := (some .int)) (by decide) rfl ?_
  intro p e s m args below meth c s₁ B hml hv
  obtain ⟨rfl, hP, hK⟩ := hv
  have hx := B.exec
  have hb := B.bytes
  have hr := B.returns
  have hts := atoms_spec (ws := wsX3_keys) B.pre
  have hown : s.vm.findClass RX3 = some m.cls := findClass_of_methodNamed B.named
  have hlocks := B.notSynchronized
  have hl := lv_entry ([.ref (md 0)]) (n := 1) (Nat.le_of_ble_eq_true rfl)
  rw [lg_entry_eq]
  generalize (lg_sl ([.ref (md 0)]) ++ List.replicate (1 - (lg_sl ([.ref (md 0)])).length) Slot.unset).toArray = ls at hl ⊢
  have hl : lv_has ls 1 [(0, .ref (md 0))] := hl
  have zw0 := hts (.constantLong RX3 133 (1000001)) (List.mem_cons_of_mem _ (List.mem_append_left _ (List.mem_of_getElem? (i := 0) rfl)))
  refine lv_aload_n hx hb dX3_keys_0 rfl (lv_at hl 0 rfl) ?_
  refine lv_ldc2 hx hb hown zw0 dX3_keys_1 ?_
  obtain ⟨r4, h_4, hm⟩ := ob hm
  refine z_callRi (As := [.long 1000001]) (rest := []) (ci := 3) (q := (RX3, TX3, 18)) ⟨hx, hb, hml, hown, hts⟩ (c_X3_below l dC dI cI cZ md yth ybd yro yrow ymk yrm yst ypc ybu ybn ymg ysp yjn ymd ybg ymm yup yun F 1000001 r4 h_4) (cwV 1 hts gX3_keys_X3_below rfl rfl rfl kv_X3_below ⟨Nat.le_of_ble_eq_true rfl, Nat.le_of_ble_eq_true rfl⟩) hK hP rfl rfl rfl rfl hl.1 rfl (Nat.le_of_ble_eq_true rfl) dX3_keys_4 ⟨Nat.zero_le _, Nat.zero_le _⟩ ?_
  exact W.iret hx hb hr (fun t ht hW => ⟨_, rfl, (o2 hm).symm, ht⟩) (fun q h => absurd h List.not_mem_nil) dX3_keys_7
