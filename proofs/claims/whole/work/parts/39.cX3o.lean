set_option maxHeartbeats 4000000 in
set_option maxRecDepth 100000 in
theorem c_X3_rise (l : Launch) (dC : Nat → ClassId) (dI : Nat → Nat → Nat) (cI : ClassId) (cZ : ClassId) (md : Nat → Nat) (yth : Int32) (ybd : Int32) (yro : Int32) (yrow : Nat → Int32) (ymk : Nat → Int32) (yrm : Int32) (yst : Nat → Int32) (ypc : Int32) (ybu : Nat → Int32) (ybn : Int32) (ymg : Int32) (ysp : Int32) (yjn : Int32) (ymd : Nat → Int32) (ybg : Nat → Int32) (ymm : Int32) (yup : Int64) (yun : Int64) (F : Nat) (p1 : Int32) (sz : Nat) (r : Int32) (u_yth : Int32) (u_yup : Int64) (u_yun : Int64) (hm : X3_rise F yth ybd yrow yrm yst ypc yup yun p1 = some (r, u_yth, u_yup, u_yun)) : Met l yX3_rise wsX3_rise ({ frames := 3, cells := 0, slots := 0, locals := 76 }) (va_Pc [.ref (md 0), .int p1] (zW (dC, dI) (wM cI cZ md yth ybd yro yrow ymk yrm yst ypc ybu ybn ymg ysp yjn ymd ybg ymm yup yun) [(cI, .int), (cZ, .boolean)] sz)) (zQi (dC, dI) (wM cI cZ md u_yth ybd yro yrow ymk yrm yst ypc ybu ybn ymg ysp yjn ymd ybg ymm u_yup u_yun) [(cI, .int), (cZ, .boolean)] (va_A (wM cI cZ md yth ybd yro yrow ymk yrm yst ypc ybu ybn ymg ysp yjn ymd ybg ymm yup yun) sz) r) 0 0 (va_A (wM cI cZ md yth ybd yro yrow ymk yrm yst ypc ybu ybn ymg ysp yjn ymd ybg ymm yup yun) sz) := by
  refine Met.ofW (cc := cX3_rise) (maxL := 2) (ret := (some .int)) (by decide) rfl ?_
  intro p e s m args below meth c s₁ B hml hv
  obtain ⟨rfl, hsz, hP, hK, hD0⟩ := hv
  have hx := B.exec
  have hb := B.bytes
  have hr := B.returns
  have hts := atoms_spec (ws := wsX3_rise) B.pre
  have hown : s.vm.findClass RX3 = some m.cls := findClass_of_methodNamed B.named
  have hlocks := B.notSynchronized
  subst hsz
  have hD := hD0.self (sz := s.heap.size)
  generalize hAe : va_A (wM cI cZ md yth ybd yro yrow ymk yrm yst ypc ybu ybn ymg ysp yjn ymd ybg ymm yup yun) s.heap.size = A at hD ⊢
  have hA : ∀ q : Nat, s.heap.size ≤ q → A q := fun q h => by rw [← hAe]; exact Or.inr h
  have hS : va_S A s.heap s.heap [] := va_S.rf
  generalize eL : ([] : List Loc) = locs at hS ⊢
  obtain ⟨H, eH⟩ : ∃ z : Heap, z = s.heap := ⟨_, rfl⟩
  have hP : va_P (dC, dI) vwCl (wM cI cZ md yth ybd yro yrow ymk yrm yst ypc ybu ybn ymg ysp yjn ymd ybg ymm yup yun) H := by rw [eH]; exact hP
  have hS : va_S A s.heap H locs := by rw [eH]; exact hS
  refine z_heap eH ?_
  have hl := lv_entry ([.ref (md 0), .int p1]) (n := 2) (Nat.le_of_ble_eq_true rfl)
  rw [lg_entry_eq]
  generalize (lg_sl ([.ref (md 0), .int p1]) ++ List.replicate (2 - (lg_sl ([.ref (md 0), .int p1])).length) Slot.unset).toArray = ls at hl ⊢
  have hl : lv_has ls 2 [(0, .ref (md 0)), (1, .int p1)] := hl
  refine lv_aload_n hx hb dX3_rise_0 rfl (lv_at hl 0 rfl) ?_
  refine lv_iload_n hx hb dX3_rise_1 rfl (lv_at hl 1 rfl) ?_
  obtain ⟨⟨r2, yth2⟩, h_2, hm⟩ := ob hm
  refine z_callWi (wc := (wM cI cZ md yth ybd yro yrow ymk yrm yst ypc ybu ybn ymg ysp yjn ymd ybg ymm yup yun)) (w1 := (wM cI cZ md yth2 ybd yro yrow ymk yrm yst ypc ybu ybn ymg ysp yjn ymd ybg ymm yup yun)) (ws := (wM cI cZ md yth ybd yro yrow ymk yrm yst ypc ybu ybn ymg ysp yjn ymd ybg ymm yup yun)) (ws' := (wM cI cZ md yth2 ybd yro yrow ymk yrm yst ypc ybu ybn ymg ysp yjn ymd ybg ymm yup yun)) (As := [.int p1]) (rest := []) (ci := 3) (q := (RX3, TX3, 18)) ⟨hx, hb, hml, hown, hts⟩ (c_X3_asks l dC dI cI cZ md yth ybd yro yrow ymk yrm yst ypc ybu ybn ymg ysp yjn ymd ybg ymm yup yun F p1 H.size r2 yth2 h_2) (cwV 1 hts gX3_rise_X3_asks rfl rfl rfl kv_X3_asks ⟨Nat.le_of_ble_eq_true rfl, Nat.le_of_ble_eq_true rfl⟩) hK hP hD hS hA (z_spAll (wM cI cZ md yth ybd yro yrow ymk yrm yst ypc ybu ybn ymg ysp yjn ymd ybg ymm yup yun) (wM cI cZ md yth2 ybd yro yrow ymk yrm yst ypc ybu ybn ymg ysp yjn ymd ybg ymm yup yun)) ((paM cI cZ md yth2 ybd yro yrow ymk yrm yst ypc ybu ybn ymg ysp yjn ymd ybg ymm yup yun).trans (paM cI cZ md yth ybd yro yrow ymk yrm yst ypc ybu ybn ymg ysp yjn ymd ybg ymm yup yun).symm) rfl rfl rfl rfl hl.1 rfl (Nat.le_of_ble_eq_true rfl) dX3_rise_2 ⟨Nat.zero_le _, Nat.zero_le _⟩ (fun H locs hP hD hS => ?_)
  refine lv_if_eq (tgt := 16) hx hb dX3_rise_5 (by decide) (fun c_5 => ?_) (fun c_5 => ?_)
  · have hm := it_t hm c_5
    refine lv_iconst (v := 0) hx hb dX3_rise_16 (by decide) ?_
    cases o2 hm
    exact W.iret hx hb hr (fun t ht hW => ⟨⟨_, (), rfl, rfl, by rw [ht]; exact hP, va_K.moved hW.alike hK, hD⟩, hS.F ht⟩) hS.2.2 dX3_rise_17
  · have hm := it_f hm c_5
    refine lv_aload_n hx hb dX3_rise_8 rfl (lv_at hl 0 rfl) ?_
    refine lv_iload_n hx hb dX3_rise_9 rfl (lv_at hl 1 rfl) ?_
    obtain ⟨⟨r10, yup10, yun10⟩, h_10, hm⟩ := ob hm
    refine z_callWi (wc := (wM cI cZ md yth2 ybd yro yrow ymk yrm yst ypc ybu ybn ymg ysp yjn ymd ybg ymm yup yun)) (w1 := (wM cI cZ md yth2 ybd yro yrow ymk yrm yst ypc ybu ybn ymg ysp yjn ymd ybg ymm yup10 yun10)) (ws := (wM cI cZ md yth2 ybd yro yrow ymk yrm yst ypc ybu ybn ymg ysp yjn ymd ybg ymm yup yun)) (ws' := (wM cI cZ md yth2 ybd yro yrow ymk yrm yst ypc ybu ybn ymg ysp yjn ymd ybg ymm yup10 yun10)) (As := [.int p1]) (rest := []) (ci := 3) (q := (RX3, TX3, 18)) ⟨hx, hb, hml, hown, hts⟩ (c_X3_riseOf l dC dI cI cZ md yth2 ybd yro yrow ymk yrm yst ypc ybu ybn ymg ysp yjn ymd ybg ymm yup yun F p1 H.size r10 yup10 yun10 h_10) (cwV 1 hts gX3_rise_X3_riseOf rfl rfl rfl kv_X3_riseOf ⟨Nat.le_of_ble_eq_true rfl, Nat.le_of_ble_eq_true rfl⟩) hK hP hD hS hA (z_spAll (wM cI cZ md yth2 ybd yro yrow ymk yrm yst ypc ybu ybn ymg ysp yjn ymd ybg ymm yup yun) (wM cI cZ md yth2 ybd yro yrow ymk yrm yst ypc ybu ybn ymg ysp yjn ymd ybg ymm yup10 yun10)) ((paM cI cZ md yth2 ybd yro yrow ymk yrm yst ypc ybu ybn ymg ysp yjn ymd ybg ymm yup10 yun10).trans (paM cI cZ md yth2 ybd yro yrow ymk yrm yst ypc ybu ybn ymg ysp yjn ymd ybg ymm yup yun).symm) rfl rfl rfl rfl hl.1 rfl (Nat.le_of_ble_eq_true rfl) dX3_rise_10 ⟨Nat.zero_le _, Nat.zero_le _⟩ (fun H locs hP hD hS => ?_)
    refine lv_goto (tgt := 17) hx hb dX3_rise_13 (by decide) ?_
    cases o2 hm
    exact W.iret hx hb hr (fun t ht hW => ⟨⟨_, (), rfl, rfl, by rw [ht]; exact hP, va_K.moved hW.alike hK, hD⟩, hS.F ht⟩) hS.2.2 dX3_rise_17
set_option maxHeartbeats 4000000 in
set_option maxRecDepth 100000 in
theorem c_X3_run (l : Launch) (dC : Nat → ClassId) (dI : Nat → Nat → Nat) (cI : ClassId) (cZ : ClassId) (md : Nat → Nat) (yth : Int32) (ybd : Int32) (yro : Int32) (yrow : Nat → Int32) (ymk : Nat → Int32) (yrm : Int32) (yst : Nat → Int32) (ypc : Int32) (ybu : Nat → Int32) (ybn : Int32) (ymg : Int32) (ysp : Int32) (yjn : Int32) (ymd : Nat → Int32) (ybg : Nat → Int32) (ymm : Int32) (yup : Int64) (yun : Int64) (F : Nat) (p1 : Int32) (sz : Nat) (r : Int32) (u_yth : Int32) (u_yup : Int64) (u_yun : Int64) (hm : X3_run F yth ybd yrow yrm yst ypc yup yun p1 = some (r, u_yth, u_yup, u_yun)) : Met l yX3_run wsX3_run ({ frames := 3, cells := 0, slots := 0, locals := 76 }) (va_Pc [.ref (md 0), .int p1] (zW (dC, dI) (wM cI cZ md yth ybd yro yrow ymk yrm yst ypc ybu ybn ymg ysp yjn ymd ybg ymm yup yun) [(cI, .int), (cZ, .boolean)] sz)) (zQi (dC, dI) (wM cI cZ md u_yth ybd yro yrow ymk yrm yst ypc ybu ybn ymg ysp yjn ymd ybg ymm u_yup u_yun) [(cI, .int), (cZ, .boolean)] (va_A (wM cI cZ md yth ybd yro yrow ymk yrm yst ypc ybu ybn ymg ysp yjn ymd ybg ymm yup yun) sz) r) 0 0 (va_A (wM cI cZ md yth ybd yro yrow ymk yrm yst ypc ybu ybn ymg ysp yjn ymd ybg ymm yup yun) sz) := by
  refine Met.ofW (cc := cX3_run) (maxL := 2) (ret := (some .int)) (by decide) rfl ?_
  intro p e s m args below meth c s₁ B hml hv
  obtain ⟨rfl, hsz, hP, hK, hD0⟩ := hv
  have hx := B.exec
  have hb := B.bytes
  have hr := B.returns
  have hts := atoms_spec (ws := wsX3_run) B.pre
  have hown : s.vm.findClass RX3 = some m.cls := findClass_of_methodNamed B.named
  have hlocks := B.notSynchronized
  subst hsz
  have hD := hD0.self (sz := s.heap.size)
  generalize hAe : va_A (wM cI cZ md yth ybd yro yrow ymk yrm yst ypc ybu ybn ymg ysp yjn ymd ybg ymm yup yun) s.heap.size = A at hD ⊢
  have hA : ∀ q : Nat, s.heap.size ≤ q → A q := fun q h => by rw [← hAe]; exact Or.inr h
  have hS : va_S A s.heap s.heap [] := va_S.rf
  generalize eL : ([] : List Loc) = locs at hS ⊢
  obtain ⟨H, eH⟩ : ∃ z : Heap, z = s.heap := ⟨_, rfl⟩
  have hP : va_P (dC, dI) vwCl (wM cI cZ md yth ybd yro yrow ymk yrm yst ypc ybu ybn ymg ysp yjn ymd ybg ymm yup yun) H := by rw [eH]; exact hP
  have hS : va_S A s.heap H locs := by rw [eH]; exact hS
  refine z_heap eH ?_
  have hl := lv_entry ([.ref (md 0), .int p1]) (n := 2) (Nat.le_of_ble_eq_true rfl)
  rw [lg_entry_eq]
  generalize (lg_sl ([.ref (md 0), .int p1]) ++ List.replicate (2 - (lg_sl ([.ref (md 0), .int p1])).length) Slot.unset).toArray = ls at hl ⊢
  have hl : lv_has ls 2 [(0, .ref (md 0)), (1, .int p1)] := hl
  refine lv_aload_n hx hb dX3_run_0 rfl (lv_at hl 0 rfl) ?_
  refine lv_iload_n hx hb dX3_run_1 rfl (lv_at hl 1 rfl) ?_
  obtain ⟨⟨r2, yth2⟩, h_2, hm⟩ := ob hm
  refine z_callWi (wc := (wM cI cZ md yth ybd yro yrow ymk yrm yst ypc ybu ybn ymg ysp yjn ymd ybg ymm yup yun)) (w1 := (wM cI cZ md yth2 ybd yro yrow ymk yrm yst ypc ybu ybn ymg ysp yjn ymd ybg ymm yup yun)) (ws := (wM cI cZ md yth ybd yro yrow ymk yrm yst ypc ybu ybn ymg ysp yjn ymd ybg ymm yup yun)) (ws' := (wM cI cZ md yth2 ybd yro yrow ymk yrm yst ypc ybu ybn ymg ysp yjn ymd ybg ymm yup yun)) (As := [.int p1]) (rest := []) (ci := 3) (q := (RX3, TX3, 18)) ⟨hx, hb, hml, hown, hts⟩ (c_X3_asks l dC dI cI cZ md yth ybd yro yrow ymk yrm yst ypc ybu ybn ymg ysp yjn ymd ybg ymm yup yun F p1 H.size r2 yth2 h_2) (cwV 1 hts gX3_run_X3_asks rfl rfl rfl kv_X3_asks ⟨Nat.le_of_ble_eq_true rfl, Nat.le_of_ble_eq_true rfl⟩) hK hP hD hS hA (z_spAll (wM cI cZ md yth ybd yro yrow ymk yrm yst ypc ybu ybn ymg ysp yjn ymd ybg ymm yup yun) (wM cI cZ md yth2 ybd yro yrow ymk yrm yst ypc ybu ybn ymg ysp yjn ymd ybg ymm yup yun)) ((paM cI cZ md yth2 ybd yro yrow ymk yrm yst ypc ybu ybn ymg ysp yjn ymd ybg ymm yup yun).trans (paM cI cZ md yth ybd yro yrow ymk yrm yst ypc ybu ybn ymg ysp yjn ymd ybg ymm yup yun).symm) rfl rfl rfl rfl hl.1 rfl (Nat.le_of_ble_eq_true rfl) dX3_run_2 ⟨Nat.zero_le _, Nat.zero_le _⟩ (fun H locs hP hD hS => ?_)
  refine lv_if_eq (tgt := 16) hx hb dX3_run_5 (by decide) (fun c_5 => ?_) (fun c_5 => ?_)
  · have hm := it_t hm c_5
    refine lv_iconst (v := 0) hx hb dX3_run_16 (by decide) ?_
    cases o2 hm
    exact W.iret hx hb hr (fun t ht hW => ⟨⟨_, (), rfl, rfl, by rw [ht]; exact hP, va_K.moved hW.alike hK, hD⟩, hS.F ht⟩) hS.2.2 dX3_run_17
  · have hm := it_f hm c_5
    refine lv_aload_n hx hb dX3_run_8 rfl (lv_at hl 0 rfl) ?_
    refine lv_iload_n hx hb dX3_run_9 rfl (lv_at hl 1 rfl) ?_
    obtain ⟨⟨r10, yup10, yun10⟩, h_10, hm⟩ := ob hm
    refine z_callWi (wc := (wM cI cZ md yth2 ybd yro yrow ymk yrm yst ypc ybu ybn ymg ysp yjn ymd ybg ymm yup yun)) (w1 := (wM cI cZ md yth2 ybd yro yrow ymk yrm yst ypc ybu ybn ymg ysp yjn ymd ybg ymm yup10 yun10)) (ws := (wM cI cZ md yth2 ybd yro yrow ymk yrm yst ypc ybu ybn ymg ysp yjn ymd ybg ymm yup yun)) (ws' := (wM cI cZ md yth2 ybd yro yrow ymk yrm yst ypc ybu ybn ymg ysp yjn ymd ybg ymm yup10 yun10)) (As := [.int p1]) (rest := []) (ci := 3) (q := (RX3, TX3, 18)) ⟨hx, hb, hml, hown, hts⟩ (c_X3_runOf l dC dI cI cZ md yth2 ybd yro yrow ymk yrm yst ypc ybu ybn ymg ysp yjn ymd ybg ymm yup yun F p1 H.size r10 yup10 yun10 h_10) (cwV 1 hts gX3_run_X3_runOf rfl rfl rfl kv_X3_runOf ⟨Nat.le_of_ble_eq_true rfl, Nat.le_of_ble_eq_true rfl⟩) hK hP hD hS hA (z_spAll (wM cI cZ md yth2 ybd yro yrow ymk yrm yst ypc ybu ybn ymg ysp yjn ymd ybg ymm yup yun) (wM cI cZ md yth2 ybd yro yrow ymk yrm yst ypc ybu ybn ymg ysp yjn ymd ybg ymm yup10 yun10)) ((paM cI cZ md yth2 ybd yro yrow ymk yrm yst ypc ybu ybn ymg ysp yjn ymd ybg ymm yup10 yun10).trans (paM cI cZ md yth2 ybd yro yrow ymk yrm yst ypc ybu ybn ymg ysp yjn ymd ybg ymm yup yun).symm) rfl rfl rfl rfl hl.1 rfl (Nat.le_of_ble_eq_true rfl) dX3_run_10 ⟨Nat.zero_le _, Nat.zero_le _⟩ (fun H locs hP hD hS => ?_)
    refine lv_goto (tgt := 17) hx hb dX3_run_13 (by decide) ?_
    cases o2 hm
    exact W.iret hx hb hr (fun t ht hW => ⟨⟨_, (), rfl, rfl, by rw [ht]; exact hP, va_K.moved hW.alike hK, hD⟩, hS.F ht⟩) hS.2.2 dX3_run_17
set_option maxHeartbeats 4000000 in
set_option maxRecDepth 100000 in
theorem c_X3_alike (l : Launch) (dC : Nat → ClassId) (dI : Nat → Nat → Nat) (cI : ClassId) (cZ : ClassId) (md : Nat → Nat) (yth : Int32) (ybd : Int32) (yro : Int32) (yrow : Nat → Int32) (ymk : Nat → Int32) (yrm : Int32) (yst : Nat → Int32) (ypc : Int32) (ybu : Nat → Int32) (ybn : Int32) (ymg : Int32) (ysp : Int32) (yjn : Int32) (ymd : Nat → Int32) (ybg : Nat → Int32) (ymm : Int32) (yup : Int64) (yun : Int64) (F : Nat) (p1 : Int32) (p2 : Int32) (sz : Nat) (r : Int32) (u_yup : Int64) (u_yun : Int64) (hm : X3_alike F ybd yrow yrm yst ypc yup yun p1 p2 = some (r, u_yup, u_yun)) : Met l yX3_alike wsX3_alike ({ frames := 3, cells := 0, slots := 0, locals := 76 }) (va_Pc [.ref (md 0), .int p1, .int p2] (zW (dC, dI) (wM cI cZ md yth ybd yro yrow ymk yrm yst ypc ybu ybn ymg ysp yjn ymd ybg ymm yup yun) [(cI, .int), (cZ, .boolean)] sz)) (zQi (dC, dI) (wM cI cZ md yth ybd yro yrow ymk yrm yst ypc ybu ybn ymg ysp yjn ymd ybg ymm u_yup u_yun) [(cI, .int), (cZ, .boolean)] (va_A (wM cI cZ md yth ybd yro yrow ymk yrm yst ypc ybu ybn ymg ysp yjn ymd ybg ymm yup yun) sz) r) 0 0 (va_A (wM cI cZ md yth ybd yro yrow ymk yrm yst ypc ybu ybn ymg ysp yjn ymd ybg ymm yup yun) sz) := by
  refine Met.ofW (cc := cX3_alike) (maxL := 7) (ret := (some .int)) (by decide) rfl ?_
  intro p e s m args below meth c s₁ B hml hv
  obtain ⟨rfl, hsz, hP, hK, hD0⟩ := hv
  have hx := B.exec
  have hb := B.bytes
  have hr := B.returns
  have hts := atoms_spec (ws := wsX3_alike) B.pre
  have hown : s.vm.findClass RX3 = some m.cls := findClass_of_methodNamed B.named
  have hlocks := B.notSynchronized
  subst hsz
  have hD := hD0.self (sz := s.heap.size)
  generalize hAe : va_A (wM cI cZ md yth ybd yro yrow ymk yrm yst ypc ybu ybn ymg ysp yjn ymd ybg ymm yup yun) s.heap.size = A at hD ⊢
  have hA : ∀ q : Nat, s.heap.size ≤ q → A q := fun q h => by rw [← hAe]; exact Or.inr h
  have hS : va_S A s.heap s.heap [] := va_S.rf
  generalize eL : ([] : List Loc) = locs at hS ⊢
  obtain ⟨H, eH⟩ : ∃ z : Heap, z = s.heap := ⟨_, rfl⟩
  have hP : va_P (dC, dI) vwCl (wM cI cZ md yth ybd yro yrow ymk yrm yst ypc ybu ybn ymg ysp yjn ymd ybg ymm yup yun) H := by rw [eH]; exact hP
  have hS : va_S A s.heap H locs := by rw [eH]; exact hS
  refine z_heap eH ?_
  have hl := lv_entry ([.ref (md 0), .int p1, .int p2]) (n := 7) (Nat.le_of_ble_eq_true rfl)
  rw [lg_entry_eq]
  generalize (lg_sl ([.ref (md 0), .int p1, .int p2]) ++ List.replicate (7 - (lg_sl ([.ref (md 0), .int p1, .int p2])).length) Slot.unset).toArray = ls at hl ⊢
  have hl : lv_has ls 7 [(0, .ref (md 0)), (1, .int p1), (2, .int p2)] := hl
  have zw0 := hts (.fieldLink RX3 48 "LearnedLedgeModel" "pieces" "I") (List.mem_cons_of_mem _ (List.mem_append_left _ (List.mem_append_left _ (List.mem_of_getElem? (i := 0) rfl))))
  have ziX3 : ∀ w ∈ u_ws RX3 TX3 18, w ∈ wsX3_alike := (fun _ h9 => (List.mem_cons_of_mem _ (List.mem_append_right _ h9)))
  refine lv_iconst (v := 0) hx hb dX3_alike_0 (by decide) ?_
  refine lv_istore_n (lv' := [(3, .int 0), (0, .ref (md 0)), (1, .int p1), (2, .int p2)]) hx hb dX3_alike_1 rfl hl (by decide) rfl (fun ls hl => ?_)
  refine lv_aload_n hx hb dX3_alike_2 rfl (lv_at hl 1 rfl) ?_
  refine lv_iload_n hx hb dX3_alike_3 rfl (lv_at hl 2 rfl) ?_
  obtain ⟨⟨r4, yup4, yun4⟩, h_4, hm⟩ := ob hm
  refine z_callWi (wc := (wM cI cZ md yth ybd yro yrow ymk yrm yst ypc ybu ybn ymg ysp yjn ymd ybg ymm yup yun)) (w1 := (wM cI cZ md yth ybd yro yrow ymk yrm yst ypc ybu ybn ymg ysp yjn ymd ybg ymm yup4 yun4)) (ws := (wM cI cZ md yth ybd yro yrow ymk yrm yst ypc ybu ybn ymg ysp yjn ymd ybg ymm yup yun)) (ws' := (wM cI cZ md yth ybd yro yrow ymk yrm yst ypc ybu ybn ymg ysp yjn ymd ybg ymm yup4 yun4)) (As := [.int p1]) (rest := []) (ci := 3) (q := (RX3, TX3, 18)) ⟨hx, hb, hml, hown, hts⟩ (c_X3_riseOf l dC dI cI cZ md yth ybd yro yrow ymk yrm yst ypc ybu ybn ymg ysp yjn ymd ybg ymm yup yun F p1 H.size r4 yup4 yun4 h_4) (cwV 1 hts gX3_alike_X3_riseOf rfl rfl rfl kv_X3_riseOf ⟨Nat.le_of_ble_eq_true rfl, Nat.le_of_ble_eq_true rfl⟩) hK hP hD hS hA (z_spAll (wM cI cZ md yth ybd yro yrow ymk yrm yst ypc ybu ybn ymg ysp yjn ymd ybg ymm yup yun) (wM cI cZ md yth ybd yro yrow ymk yrm yst ypc ybu ybn ymg ysp yjn ymd ybg ymm yup4 yun4)) ((paM cI cZ md yth ybd yro yrow ymk yrm yst ypc ybu ybn ymg ysp yjn ymd ybg ymm yup4 yun4).trans (paM cI cZ md yth ybd yro yrow ymk yrm yst ypc ybu ybn ymg ysp yjn ymd ybg ymm yup yun).symm) rfl rfl rfl rfl hl.1 rfl (Nat.le_of_ble_eq_true rfl) dX3_alike_4 ⟨Nat.zero_le _, Nat.zero_le _⟩ (fun H locs hP hD hS => ?_)
  refine lv_istore (lv' := [(4, .int r4), (3, .int 0), (0, .ref (md 0)), (1, .int p1), (2, .int p2)]) hx hb dX3_alike_7 hl (by decide) rfl (fun ls hl => ?_)
  refine lv_aload_n hx hb dX3_alike_9 rfl (lv_at hl 2 rfl) ?_
  refine lv_iload_n hx hb dX3_alike_10 rfl (lv_at hl 3 rfl) ?_
  obtain ⟨⟨r11, yup11, yun11⟩, h_11, hm⟩ := ob hm
  refine z_callWi (wc := (wM cI cZ md yth ybd yro yrow ymk yrm yst ypc ybu ybn ymg ysp yjn ymd ybg ymm yup4 yun4)) (w1 := (wM cI cZ md yth ybd yro yrow ymk yrm yst ypc ybu ybn ymg ysp yjn ymd ybg ymm yup11 yun11)) (ws := (wM cI cZ md yth ybd yro yrow ymk yrm yst ypc ybu ybn ymg ysp yjn ymd ybg ymm yup4 yun4)) (ws' := (wM cI cZ md yth ybd yro yrow ymk yrm yst ypc ybu ybn ymg ysp yjn ymd ybg ymm yup11 yun11)) (As := [.int p1]) (rest := []) (ci := 3) (q := (RX3, TX3, 18)) ⟨hx, hb, hml, hown, hts⟩ (c_X3_runOf l dC dI cI cZ md yth ybd yro yrow ymk yrm yst ypc ybu ybn ymg ysp yjn ymd ybg ymm yup4 yun4 F p1 H.size r11 yup11 yun11 h_11) (cwV 1 hts gX3_alike_X3_runOf rfl rfl rfl kv_X3_runOf ⟨Nat.le_of_ble_eq_true rfl, Nat.le_of_ble_eq_true rfl⟩) hK hP hD hS hA (z_spAll (wM cI cZ md yth ybd yro yrow ymk yrm yst ypc ybu ybn ymg ysp yjn ymd ybg ymm yup4 yun4) (wM cI cZ md yth ybd yro yrow ymk yrm yst ypc ybu ybn ymg ysp yjn ymd ybg ymm yup11 yun11)) ((paM cI cZ md yth ybd yro yrow ymk yrm yst ypc ybu ybn ymg ysp yjn ymd ybg ymm yup11 yun11).trans (paM cI cZ md yth ybd yro yrow ymk yrm yst ypc ybu ybn ymg ysp yjn ymd ybg ymm yup4 yun4).symm) rfl rfl rfl rfl hl.1 rfl (Nat.le_of_ble_eq_true rfl) dX3_alike_11 ⟨Nat.zero_le _, Nat.zero_le _⟩ (fun H locs hP hD hS => ?_)
  refine lv_istore (lv' := [(5, .int r11), (4, .int r4), (3, .int 0), (0, .ref (md 0)), (1, .int p1), (2, .int p2)]) hx hb dX3_alike_14 hl (by decide) rfl (fun ls hl => ?_)
  refine lv_iload_n hx hb dX3_alike_16 rfl (lv_at hl 5 rfl) ?_
  refine lv_istore (lv' := [(6, .int p2), (5, .int r11), (4, .int r4), (3, .int 0), (0, .ref (md 0)), (1, .int p1), (2, .int p2)]) hx hb dX3_alike_17 hl (by decide) rfl (fun ls hl => ?_)
  obtain ⟨z_19, hq_19, hm⟩ := ob hm
  have K_19 : ∀ (x3_4 : Int32), ∀ (yupx19 : Int64), ∀ (yunx19 : Int64), z_19 = (x3_4, yupx19, yunx19) → ∀ (H : Heap) (locs : List Loc), va_P (dC, dI) vwCl (wM cI cZ md yth ybd yro yrow ymk yrm yst ypc ybu ybn ymg ysp yjn ymd ybg ymm yupx19 yunx19) H → va_D A (wM cI cZ md yth ybd yro yrow ymk yrm yst ypc ybu ybn ymg ysp yjn ymd ybg ymm yupx19 yunx19) → va_S A s.heap H locs → ∀ (ls : Array Slot), lv_has ls 7 [(3, .int x3_4)] → W p l e (headSpec wsX3_alike ({ frames := 3, cells := 0, slots := 0, locals := 76 } : Room)).room s m ([.ref (md 0), .int p1, .int p2] : List Value).toArray below meth c H locs 0 0 (MQ below (zQi (dC, dI) (wM cI cZ md yth ybd yro yrow ymk yrm yst ypc ybu ybn ymg ysp yjn ymd ybg ymm u_yup u_yun) [(cI, .int), (cZ, .boolean)] A r) ([.ref (md 0), .int p1, .int p2] : List Value).toArray s 0 0 A) (F0 m 64 ls []) := by
    intro x3_4 yupx19 yunx19 ez H locs hP hD hS ls hl
    rw [ez] at hm
    refine lv_iload_n hx hb dX3_alike_64 rfl (lv_at hl 0 rfl) ?_
    cases o2 hm
    exact W.iret hx hb hr (fun t ht hW => ⟨⟨_, (), rfl, rfl, by rw [ht]; exact hP, va_K.moved hW.alike hK, hD⟩, hS.F ht⟩) hS.2.2 dX3_alike_65
  have L_19 : ∀ (n : Nat) (x6 : Int32) (x3 : Int32) (yupl19 : Int64) (yunl19 : Int64), X3_alike_L19 ybd yrow yrm yst ypc F r4 r11 n x6 x3 yupl19 yunl19 = some z_19 → ∀ (H : Heap) (locs : List Loc), va_P (dC, dI) vwCl (wM cI cZ md yth ybd yro yrow ymk yrm yst ypc ybu ybn ymg ysp yjn ymd ybg ymm yupl19 yunl19) H → va_D A (wM cI cZ md yth ybd yro yrow ymk yrm yst ypc ybu ybn ymg ysp yjn ymd ybg ymm yupl19 yunl19) → va_S A s.heap H locs → ∀ (ls : Array Slot), lv_has ls 7 [(6, .int x6), (5, .int r11), (4, .int r4), (3, .int x3), (0, .ref (md 0))] → W p l e (headSpec wsX3_alike ({ frames := 3, cells := 0, slots := 0, locals := 76 } : Room)).room s m ([.ref (md 0), .int p1, .int p2] : List Value).toArray below meth c H locs 0 0 (MQ below (zQi (dC, dI) (wM cI cZ md yth ybd yro yrow ymk yrm yst ypc ybu ybn ymg ysp yjn ymd ybg ymm u_yup u_yun) [(cI, .int), (cZ, .boolean)] A r) ([.ref (md 0), .int p1, .int p2] : List Value).toArray s 0 0 A) (F0 m 19 ls []) := by
    intro n
    induction n with
    | zero => intro x6 x3 yupl19 yunl19 hm; cases hm
    | succ n ih_19 =>
      intro x6 x3 yupl19 yunl19 hm H locs hP hD hS ls hl
      refine lv_iload hx hb dX3_alike_19 (lv_at hl 0 rfl) ?_
      refine lv_aload_n hx hb dX3_alike_21 rfl (lv_at hl 4 rfl) ?_
      refine va_get (D := (dC, dI)) (ci := 3) (v := .int ypc) (C := RX3) (T := TX3) (N := 18) hx hb hts ziX3 hown hK hP 0 rfl rfl 7 (by decide) zw0 (fun _ h9 => h9) rfl dX3_alike_22 ?_
      refine lv_icmp_ge (tgt := 64) hx hb dX3_alike_25 (by decide) (fun c_25 => ?_) (fun c_25 => ?_)
      · have hm := it_t hm c_25
        exact K_19 x3 yupl19 yunl19 (o2 hm) _ _ hP hD hS _ (lv_sub hl [3] rfl)
      · have hm := it_f hm c_25
        refine lv_iload_n hx hb dX3_alike_28 rfl (lv_at hl 3 rfl) ?_
        refine lv_aload_n hx hb dX3_alike_29 rfl (lv_at hl 4 rfl) ?_
        refine lv_iload hx hb dX3_alike_30 (lv_at hl 0 rfl) ?_
        obtain ⟨⟨r32, yup32, yun32⟩, h_32, hm⟩ := ob hm
        refine z_callWi (wc := (wM cI cZ md yth ybd yro yrow ymk yrm yst ypc ybu ybn ymg ysp yjn ymd ybg ymm yupl19 yunl19)) (w1 := (wM cI cZ md yth ybd yro yrow ymk yrm yst ypc ybu ybn ymg ysp yjn ymd ybg ymm yup32 yun32)) (ws := (wM cI cZ md yth ybd yro yrow ymk yrm yst ypc ybu ybn ymg ysp yjn ymd ybg ymm yupl19 yunl19)) (ws' := (wM cI cZ md yth ybd yro yrow ymk yrm yst ypc ybu ybn ymg ysp yjn ymd ybg ymm yup32 yun32)) (As := [.int x6]) (rest := [.int x3]) (ci := 3) (q := (RX3, TX3, 18)) ⟨hx, hb, hml, hown, hts⟩ (c_X3_riseOf l dC dI cI cZ md yth ybd yro yrow ymk yrm yst ypc ybu ybn ymg ysp yjn ymd ybg ymm yupl19 yunl19 F x6 H.size r32 yup32 yun32 h_32) (cwV 1 hts gX3_alike_X3_riseOf rfl rfl rfl kv_X3_riseOf ⟨Nat.le_of_ble_eq_true rfl, Nat.le_of_ble_eq_true rfl⟩) hK hP hD hS hA (z_spAll (wM cI cZ md yth ybd yro yrow ymk yrm yst ypc ybu ybn ymg ysp yjn ymd ybg ymm yupl19 yunl19) (wM cI cZ md yth ybd yro yrow ymk yrm yst ypc ybu ybn ymg ysp yjn ymd ybg ymm yup32 yun32)) ((paM cI cZ md yth ybd yro yrow ymk yrm yst ypc ybu ybn ymg ysp yjn ymd ybg ymm yup32 yun32).trans (paM cI cZ md yth ybd yro yrow ymk yrm yst ypc ybu ybn ymg ysp yjn ymd ybg ymm yupl19 yunl19).symm) rfl rfl rfl rfl hl.1 rfl (Nat.le_of_ble_eq_true rfl) dX3_alike_32 ⟨Nat.zero_le _, Nat.zero_le _⟩ (fun H locs hP hD hS => ?_)
        refine lv_iload hx hb dX3_alike_35 (lv_at hl 2 rfl) ?_
        refine lv_icmp_ne (tgt := 55) hx hb dX3_alike_37 (by decide) (fun c_37 => ?_) (fun c_37 => ?_)
        · have hm := it_f hm c_37
          refine lv_iconst (v := 0) hx hb dX3_alike_55 (by decide) ?_
          refine lv_iadd hx hb dX3_alike_56 ?_
          refine lv_topi (fun x3_1 e_x3_1 => ?_)
          have hm := bnd_e hm e_x3_1
          refine lv_istore_n (lv' := [(3, .int x3_1), (6, .int x6), (5, .int r11), (4, .int r4), (0, .ref (md 0))]) hx hb dX3_alike_57 rfl hl (by decide) rfl (fun ls hl => ?_)
          obtain ⟨x6_1, e_x6_1⟩ : ∃ y : Int32, y = x6 + 1 := ⟨_, rfl⟩
          have hm := bnd_e hm e_x6_1
          refine lv_iinc (v := x6_1) (lv' := [(6, .int x6_1), (3, .int x3_1), (5, .int r11), (4, .int r4), (0, .ref (md 0))]) hx hb dX3_alike_58 hl (k := 1) rfl (by rw [e_x6_1]; rfl) (by decide) rfl (fun ls hl => ?_)
          refine lv_goto (tgt := 19) hx hb dX3_alike_61 (by decide) ?_
          exact ih_19 x6_1 x3_1 yup32 yun32 hm _ _ hP hD hS _ (lv_sub hl [0, 2, 3, 1, 4] rfl)
        · have hm := it_t hm c_37
          refine lv_aload_n hx hb dX3_alike_40 rfl (lv_at hl 4 rfl) ?_
          refine lv_iload hx hb dX3_alike_41 (lv_at hl 0 rfl) ?_
          obtain ⟨⟨r43, yup43, yun43⟩, h_43, hm⟩ := ob hm
          refine z_callWi (wc := (wM cI cZ md yth ybd yro yrow ymk yrm yst ypc ybu ybn ymg ysp yjn ymd ybg ymm yup32 yun32)) (w1 := (wM cI cZ md yth ybd yro yrow ymk yrm yst ypc ybu ybn ymg ysp yjn ymd ybg ymm yup43 yun43)) (ws := (wM cI cZ md yth ybd yro yrow ymk yrm yst ypc ybu ybn ymg ysp yjn ymd ybg ymm yup32 yun32)) (ws' := (wM cI cZ md yth ybd yro yrow ymk yrm yst ypc ybu ybn ymg ysp yjn ymd ybg ymm yup43 yun43)) (As := [.int x6]) (rest := [.int x3]) (ci := 3) (q := (RX3, TX3, 18)) ⟨hx, hb, hml, hown, hts⟩ (c_X3_runOf l dC dI cI cZ md yth ybd yro yrow ymk yrm yst ypc ybu ybn ymg ysp yjn ymd ybg ymm yup32 yun32 F x6 H.size r43 yup43 yun43 h_43) (cwV 1 hts gX3_alike_X3_runOf rfl rfl rfl kv_X3_runOf ⟨Nat.le_of_ble_eq_true rfl, Nat.le_of_ble_eq_true rfl⟩) hK hP hD hS hA (z_spAll (wM cI cZ md yth ybd yro yrow ymk yrm yst ypc ybu ybn ymg ysp yjn ymd ybg ymm yup32 yun32) (wM cI cZ md yth ybd yro yrow ymk yrm yst ypc ybu ybn ymg ysp yjn ymd ybg ymm yup43 yun43)) ((paM cI cZ md yth ybd yro yrow ymk yrm yst ypc ybu ybn ymg ysp yjn ymd ybg ymm yup43 yun43).trans (paM cI cZ md yth ybd yro yrow ymk yrm yst ypc ybu ybn ymg ysp yjn ymd ybg ymm yup32 yun32).symm) rfl rfl rfl rfl hl.1 rfl (Nat.le_of_ble_eq_true rfl) dX3_alike_43 ⟨Nat.zero_le _, Nat.zero_le _⟩ (fun H locs hP hD hS => ?_)
          refine lv_iload hx hb dX3_alike_46 (lv_at hl 1 rfl) ?_
          refine lv_icmp_ne (tgt := 55) hx hb dX3_alike_48 (by decide) (fun c_48 => ?_) (fun c_48 => ?_)
          · have hm := it_f hm c_48
            refine lv_iconst (v := 0) hx hb dX3_alike_55 (by decide) ?_
            refine lv_iadd hx hb dX3_alike_56 ?_
            refine lv_topi (fun x3_2 e_x3_2 => ?_)
            have hm := bnd_e hm e_x3_2
            refine lv_istore_n (lv' := [(3, .int x3_2), (6, .int x6), (5, .int r11), (4, .int r4), (0, .ref (md 0))]) hx hb dX3_alike_57 rfl hl (by decide) rfl (fun ls hl => ?_)
            obtain ⟨x6_2, e_x6_2⟩ : ∃ y : Int32, y = x6 + 1 := ⟨_, rfl⟩
            have hm := bnd_e hm e_x6_2
            refine lv_iinc (v := x6_2) (lv' := [(6, .int x6_2), (3, .int x3_2), (5, .int r11), (4, .int r4), (0, .ref (md 0))]) hx hb dX3_alike_58 hl (k := 1) rfl (by rw [e_x6_2]; rfl) (by decide) rfl (fun ls hl => ?_)
            refine lv_goto (tgt := 19) hx hb dX3_alike_61 (by decide) ?_
            exact ih_19 x6_2 x3_2 yup43 yun43 hm _ _ hP hD hS _ (lv_sub hl [0, 2, 3, 1, 4] rfl)
          · have hm := it_t hm c_48
            refine lv_iconst (v := 1) hx hb dX3_alike_51 (by decide) ?_
            refine lv_goto (tgt := 56) hx hb dX3_alike_52 (by decide) ?_
            refine lv_iadd hx hb dX3_alike_56 ?_
            refine lv_topi (fun x3_3 e_x3_3 => ?_)
            have hm := bnd_e hm e_x3_3
            refine lv_istore_n (lv' := [(3, .int x3_3), (6, .int x6), (5, .int r11), (4, .int r4), (0, .ref (md 0))]) hx hb dX3_alike_57 rfl hl (by decide) rfl (fun ls hl => ?_)
            obtain ⟨x6_3, e_x6_3⟩ : ∃ y : Int32, y = x6 + 1 := ⟨_, rfl⟩
            have hm := bnd_e hm e_x6_3
            refine lv_iinc (v := x6_3) (lv' := [(6, .int x6_3), (3, .int x3_3), (5, .int r11), (4, .int r4), (0, .ref (md 0))]) hx hb dX3_alike_58 hl (k := 1) rfl (by rw [e_x6_3]; rfl) (by decide) rfl (fun ls hl => ?_)
            refine lv_goto (tgt := 19) hx hb dX3_alike_61 (by decide) ?_
            exact ih_19 x6_3 x3_3 yup43 yun43 hm _ _ hP hD hS _ (lv_sub hl [0, 2, 3, 1, 4] rfl)
  exact L_19 F p2 0 yup11 yun11 hq_19 _ _ hP hD hS _ (lv_sub hl [0, 1, 2, 3, 4] rfl)
set_option maxHeartbeats 4000000 in
set_option maxRecDepth 100000 in
theorem c_X3_slopes (l : Launch) (dC : Nat → ClassId) (dI : Nat → Nat → Nat) (cI : ClassId) (cZ : ClassId) (md : Nat → Nat) (yth : Int32) (ybd : Int32) (yro : Int32) (yrow : Nat → Int32) (ymk : Nat → Int32) (yrm : Int32) (yst : Nat → Int32) (ypc : Int32) (ybu : Nat → Int32) (ybn : Int32) (ymg : Int32) (ysp : Int32) (yjn : Int32) (ymd : Nat → Int32) (ybg : Nat → Int32) (ymm : Int32) (yup : Int64) (yun : Int64) (F : Nat) (sz : Nat) (r : Int32) (u_yth : Int32) (u_yup : Int64) (u_yun : Int64) (hm : X3_slopes F yth ybd yrow yrm yst ypc yup yun = some (r, u_yth, u_yup, u_yun)) : Met l yX3_slopes wsX3_slopes ({ frames := 4, cells := 0, slots := 0, locals := 102 }) (va_Pc [.ref (md 0)] (zW (dC, dI) (wM cI cZ md yth ybd yro yrow ymk yrm yst ypc ybu ybn ymg ysp yjn ymd ybg ymm yup yun) [(cI, .int), (cZ, .boolean)] sz)) (zQi (dC, dI) (wM cI cZ md u_yth ybd yro yrow ymk yrm yst ypc ybu ybn ymg ysp yjn ymd ybg ymm u_yup u_yun) [(cI, .int), (cZ, .boolean)] (va_A (wM cI cZ md yth ybd yro yrow ymk yrm yst ypc ybu ybn ymg ysp yjn ymd ybg ymm yup yun) sz) r) 0 0 (va_A (wM cI cZ md yth ybd yro yrow ymk yrm yst ypc ybu ybn ymg ysp yjn ymd ybg ymm yup yun) sz) := by
  refine Met.ofW (cc := cX3_slopes) (maxL := 3) (ret := (some .int)) (by decide) rfl ?_
  intro p e s m args below meth c s₁ B hml hv
  obtain ⟨rfl, hsz, hP, hK, hD0⟩ := hv
  have hx := B.exec
  have hb := B.bytes
  have hr := B.returns
  have hts := atoms_spec (ws := wsX3_slopes) B.pre
  have hown : s.vm.findClass RX3 = some m.cls := findClass_of_methodNamed B.named
  have hlocks := B.notSynchronized
  subst hsz
  have hD := hD0.self (sz := s.heap.size)
  generalize hAe : va_A (wM cI cZ md yth ybd yro yrow ymk yrm yst ypc ybu ybn ymg ysp yjn ymd ybg ymm yup yun) s.heap.size = A at hD ⊢
  have hA : ∀ q : Nat, s.heap.size ≤ q → A q := fun q h => by rw [← hAe]; exact Or.inr h
  have hS : va_S A s.heap s.heap [] := va_S.rf
  generalize eL : ([] : List Loc) = locs at hS ⊢
  obtain ⟨H, eH⟩ : ∃ z : Heap, z = s.heap := ⟨_, rfl⟩
  have hP : va_P (dC, dI) vwCl (wM cI cZ md yth ybd yro yrow ymk yrm yst ypc ybu ybn ymg ysp yjn ymd ybg ymm yup yun) H := by rw [eH]; exact hP
  have hS : va_S A s.heap H locs := by rw [eH]; exact hS
  refine z_heap eH ?_
  have hl := lv_entry ([.ref (md 0)]) (n := 3) (Nat.le_of_ble_eq_true rfl)
  rw [lg_entry_eq]
  generalize (lg_sl ([.ref (md 0)]) ++ List.replicate (3 - (lg_sl ([.ref (md 0)])).length) Slot.unset).toArray = ls at hl ⊢
  have hl : lv_has ls 3 [(0, .ref (md 0))] := hl
  have zw0 := hts (.fieldLink RX3 36 "LearnedLedgeModel" "thrown" "I") (List.mem_cons_of_mem _ (List.mem_append_left _ (List.mem_append_left _ (List.mem_of_getElem? (i := 0) rfl))))
  have zw1 := hts (.fieldLink RX3 48 "LearnedLedgeModel" "pieces" "I") (List.mem_cons_of_mem _ (List.mem_append_left _ (List.mem_append_left _ (List.mem_of_getElem? (i := 1) rfl))))
  have ziX3 : ∀ w ∈ u_ws RX3 TX3 18, w ∈ wsX3_slopes := (fun _ h9 => (List.mem_cons_of_mem _ (List.mem_append_right _ h9)))
  refine lv_aload_n hx hb dX3_slopes_0 rfl (lv_at hl 0 rfl) ?_
  refine lv_iconst (v := 0) hx hb dX3_slopes_1 (by decide) ?_
  refine va_put (D := (dC, dI)) (ci := 3) (v := .int 0) (ty := .int) (C := RX3) (T := TX3) (N := 18) hx hb hts ziX3 tyX3 tyX3_ok nmX3 hown hK hP hD hS 0 rfl rfl 0 (by decide) zw0 (fun _ h9 => h9) rfl (by decide +kernel) rfl rfl (Nat.le_of_ble_eq_true rfl) dX3_slopes_2 (fun H locs hP hD hS => ?_)
  have hP : va_P (dC, dI) vwCl (wM cI cZ md 0 ybd yro yrow ymk yrm yst ypc ybu ybn ymg ysp yjn ymd ybg ymm yup yun) H := hP
  have hD : va_D A (wM cI cZ md 0 ybd yro yrow ymk yrm yst ypc ybu ybn ymg ysp yjn ymd ybg ymm yup yun) := hD
  refine lv_iconst (v := 0) hx hb dX3_slopes_5 (by decide) ?_
  refine lv_istore_n (lv' := [(1, .int 0), (0, .ref (md 0))]) hx hb dX3_slopes_6 rfl hl (by decide) rfl (fun ls hl => ?_)
  refine lv_iconst (v := 0) hx hb dX3_slopes_7 (by decide) ?_
  refine lv_istore_n (lv' := [(2, .int 0), (1, .int 0), (0, .ref (md 0))]) hx hb dX3_slopes_8 rfl hl (by decide) rfl (fun ls hl => ?_)
  obtain ⟨z_9, hq_9, hm⟩ := ob hm
  have K_9 : ∀ (x1_3 : Int32), ∀ (yupx9 : Int64), ∀ (yunx9 : Int64), z_9 = (x1_3, yupx9, yunx9) → ∀ (H : Heap) (locs : List Loc), va_P (dC, dI) vwCl (wM cI cZ md 0 ybd yro yrow ymk yrm yst ypc ybu ybn ymg ysp yjn ymd ybg ymm yupx9 yunx9) H → va_D A (wM cI cZ md 0 ybd yro yrow ymk yrm yst ypc ybu ybn ymg ysp yjn ymd ybg ymm yupx9 yunx9) → va_S A s.heap H locs → ∀ (ls : Array Slot), lv_has ls 3 [(1, .int x1_3)] → W p l e (headSpec wsX3_slopes ({ frames := 4, cells := 0, slots := 0, locals := 102 } : Room)).room s m ([.ref (md 0)] : List Value).toArray below meth c H locs 0 0 (MQ below (zQi (dC, dI) (wM cI cZ md u_yth ybd yro yrow ymk yrm yst ypc ybu ybn ymg ysp yjn ymd ybg ymm u_yup u_yun) [(cI, .int), (cZ, .boolean)] A r) ([.ref (md 0)] : List Value).toArray s 0 0 A) (F0 m 41 ls []) := by
    intro x1_3 yupx9 yunx9 ez H locs hP hD hS ls hl
    rw [ez] at hm
    refine lv_iload_n hx hb dX3_slopes_41 rfl (lv_at hl 0 rfl) ?_
    cases o2 hm
    exact W.iret hx hb hr (fun t ht hW => ⟨⟨_, (), rfl, rfl, by rw [ht]; exact hP, va_K.moved hW.alike hK, hD⟩, hS.F ht⟩) hS.2.2 dX3_slopes_42
  have L_9 : ∀ (n : Nat) (x2 : Int32) (x1 : Int32) (yupl9 : Int64) (yunl9 : Int64), X3_slopes_L9 ybd yrow yrm yst ypc F n x2 x1 yupl9 yunl9 = some z_9 → ∀ (H : Heap) (locs : List Loc), va_P (dC, dI) vwCl (wM cI cZ md 0 ybd yro yrow ymk yrm yst ypc ybu ybn ymg ysp yjn ymd ybg ymm yupl9 yunl9) H → va_D A (wM cI cZ md 0 ybd yro yrow ymk yrm yst ypc ybu ybn ymg ysp yjn ymd ybg ymm yupl9 yunl9) → va_S A s.heap H locs → ∀ (ls : Array Slot), lv_has ls 3 [(2, .int x2), (1, .int x1), (0, .ref (md 0))] → W p l e (headSpec wsX3_slopes ({ frames := 4, cells := 0, slots := 0, locals := 102 } : Room)).room s m ([.ref (md 0)] : List Value).toArray below meth c H locs 0 0 (MQ below (zQi (dC, dI) (wM cI cZ md u_yth ybd yro yrow ymk yrm yst ypc ybu ybn ymg ysp yjn ymd ybg ymm u_yup u_yun) [(cI, .int), (cZ, .boolean)] A r) ([.ref (md 0)] : List Value).toArray s 0 0 A) (F0 m 9 ls []) := by
    intro n
    induction n with
    | zero => intro x2 x1 yupl9 yunl9 hm; cases hm
    | succ n ih_9 =>
      intro x2 x1 yupl9 yunl9 hm H locs hP hD hS ls hl
      refine lv_iload_n hx hb dX3_slopes_9 rfl (lv_at hl 0 rfl) ?_
      refine lv_aload_n hx hb dX3_slopes_10 rfl (lv_at hl 2 rfl) ?_
      refine va_get (D := (dC, dI)) (ci := 3) (v := .int ypc) (C := RX3) (T := TX3) (N := 18) hx hb hts ziX3 hown hK hP 0 rfl rfl 7 (by decide) zw1 (fun _ h9 => h9) rfl dX3_slopes_11 ?_
      refine lv_icmp_ge (tgt := 41) hx hb dX3_slopes_14 (by decide) (fun c_14 => ?_) (fun c_14 => ?_)
      · have hm := it_t hm c_14
        exact K_9 x1 yupl9 yunl9 (o2 hm) _ _ hP hD hS _ (lv_sub hl [1] rfl)
      · have hm := it_f hm c_14
        refine lv_iload_n hx hb dX3_slopes_17 rfl (lv_at hl 1 rfl) ?_
        refine lv_aload_n hx hb dX3_slopes_18 rfl (lv_at hl 2 rfl) ?_
        refine lv_iload_n hx hb dX3_slopes_19 rfl (lv_at hl 0 rfl) ?_
        refine lv_iload_n hx hb dX3_slopes_20 rfl (lv_at hl 0 rfl) ?_
        obtain ⟨⟨r21, yup21, yun21⟩, h_21, hm⟩ := ob hm
        refine z_callWi (wc := (wM cI cZ md 0 ybd yro yrow ymk yrm yst ypc ybu ybn ymg ysp yjn ymd ybg ymm yupl9 yunl9)) (w1 := (wM cI cZ md 0 ybd yro yrow ymk yrm yst ypc ybu ybn ymg ysp yjn ymd ybg ymm yup21 yun21)) (ws := (wM cI cZ md 0 ybd yro yrow ymk yrm yst ypc ybu ybn ymg ysp yjn ymd ybg ymm yupl9 yunl9)) (ws' := (wM cI cZ md 0 ybd yro yrow ymk yrm yst ypc ybu ybn ymg ysp yjn ymd ybg ymm yup21 yun21)) (As := [.int x2, .int x2]) (rest := [.int x1]) (ci := 3) (q := (RX3, TX3, 18)) ⟨hx, hb, hml, hown, hts⟩ (c_X3_alike l dC dI cI cZ md 0 ybd yro yrow ymk yrm yst ypc ybu ybn ymg ysp yjn ymd ybg ymm yupl9 yunl9 F x2 x2 H.size r21 yup21 yun21 h_21) (cwV 2 hts gX3_slopes_X3_alike rfl rfl rfl kv_X3_alike ⟨Nat.le_of_ble_eq_true rfl, Nat.le_of_ble_eq_true rfl⟩) hK hP hD hS hA (z_spAll (wM cI cZ md 0 ybd yro yrow ymk yrm yst ypc ybu ybn ymg ysp yjn ymd ybg ymm yupl9 yunl9) (wM cI cZ md 0 ybd yro yrow ymk yrm yst ypc ybu ybn ymg ysp yjn ymd ybg ymm yup21 yun21)) ((paM cI cZ md 0 ybd yro yrow ymk yrm yst ypc ybu ybn ymg ysp yjn ymd ybg ymm yup21 yun21).trans (paM cI cZ md 0 ybd yro yrow ymk yrm yst ypc ybu ybn ymg ysp yjn ymd ybg ymm yupl9 yunl9).symm) rfl rfl rfl rfl hl.1 rfl (Nat.le_of_ble_eq_true rfl) dX3_slopes_21 ⟨Nat.zero_le _, Nat.zero_le _⟩ (fun H locs hP hD hS => ?_)
        refine lv_iconst (v := 1) hx hb dX3_slopes_24 (by decide) ?_
        refine lv_icmp_ne (tgt := 32) hx hb dX3_slopes_25 (by decide) (fun c_25 => ?_) (fun c_25 => ?_)
        · have hm := it_f hm c_25
          refine lv_iconst (v := 0) hx hb dX3_slopes_32 (by decide) ?_
          refine lv_iadd hx hb dX3_slopes_33 ?_
          refine lv_topi (fun x1_1 e_x1_1 => ?_)
          have hm := bnd_e hm e_x1_1
          refine lv_istore_n (lv' := [(1, .int x1_1), (2, .int x2), (0, .ref (md 0))]) hx hb dX3_slopes_34 rfl hl (by decide) rfl (fun ls hl => ?_)
          obtain ⟨x2_1, e_x2_1⟩ : ∃ y : Int32, y = x2 + 1 := ⟨_, rfl⟩
          have hm := bnd_e hm e_x2_1
          refine lv_iinc (v := x2_1) (lv' := [(2, .int x2_1), (1, .int x1_1), (0, .ref (md 0))]) hx hb dX3_slopes_35 hl (k := 1) rfl (by rw [e_x2_1]; rfl) (by decide) rfl (fun ls hl => ?_)
          refine lv_goto (tgt := 9) hx hb dX3_slopes_38 (by decide) ?_
          exact ih_9 x2_1 x1_1 yup21 yun21 hm _ _ hP hD hS _ (lv_sub hl [0, 1, 2] rfl)
        · have hm := it_t hm c_25
          refine lv_iconst (v := 1) hx hb dX3_slopes_28 (by decide) ?_
          refine lv_goto (tgt := 33) hx hb dX3_slopes_29 (by decide) ?_
          refine lv_iadd hx hb dX3_slopes_33 ?_
          refine lv_topi (fun x1_2 e_x1_2 => ?_)
          have hm := bnd_e hm e_x1_2
          refine lv_istore_n (lv' := [(1, .int x1_2), (2, .int x2), (0, .ref (md 0))]) hx hb dX3_slopes_34 rfl hl (by decide) rfl (fun ls hl => ?_)
          obtain ⟨x2_2, e_x2_2⟩ : ∃ y : Int32, y = x2 + 1 := ⟨_, rfl⟩
          have hm := bnd_e hm e_x2_2
          refine lv_iinc (v := x2_2) (lv' := [(2, .int x2_2), (1, .int x1_2), (0, .ref (md 0))]) hx hb dX3_slopes_35 hl (k := 1) rfl (by rw [e_x2_2]; rfl) (by decide) rfl (fun ls hl => ?_)
          refine lv_goto (tgt := 9) hx hb dX3_slopes_38 (by decide) ?_
          exact ih_9 x2_2 x1_2 yup21 yun21 hm _ _ hP hD hS _ (lv_sub hl [0, 1, 2] rfl)
  exact L_9 F 0 0 yup yun hq_9 _ _ hP hD hS _ (lv_sub hl [0, 1, 2] rfl)
