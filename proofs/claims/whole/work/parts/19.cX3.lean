set_option maxHeartbeats 4000000 in
set_option maxRecDepth 100000 in
theorem c_X3_thrown (l : Launch) (dC : Nat → ClassId) (dI : Nat → Nat → Nat) (cI : ClassId) (cZ : ClassId) (md : Nat → Nat) (yth : Int32) (ybd : Int32) (yro : Int32) (yrow : Nat → Int32) (ymk : Nat → Int32) (yrm : Int32) (yst : Nat → Int32) (ypc : Int32) (ybu : Nat → Int32) (ybn : Int32) (ymg : Int32) (ysp : Int32) (yjn : Int32) (ymd : Nat → Int32) (ybg : Nat → Int32) (ymm : Int32) (yup : Int64) (yun : Int64) (F : Nat) (r : Int32) (hm : X3_thrown F yth = some r) : Met l yX3_thrown wsX3_thrown ({ frames := 0, cells := 0, slots := 0, locals := 0 }) (va_Pc [.ref (md 0)] (zR (dC, dI) (wM cI cZ md yth ybd yro yrow ymk yrm yst ypc ybu ybn ymg ysp yjn ymd ybg ymm yup yun) [(cI, .int), (cZ, .boolean)])) (vp_Si (fun v => v = r)) 0 0 (fun _ => False) := by
  refine Met.ofW (cc := cX3_thrown) (maxL := 1) (ret := (some .int)) (by decide) rfl ?_
  intro p e s m args below meth c s₁ B hml hv
  obtain ⟨rfl, hP, hK⟩ := hv
  have hx := B.exec
  have hb := B.bytes
  have hr := B.returns
  have hts := atoms_spec (ws := wsX3_thrown) B.pre
  have hown : s.vm.findClass RX3 = some m.cls := findClass_of_methodNamed B.named
  have hlocks := B.notSynchronized
  have hl := lv_entry ([.ref (md 0)]) (n := 1) (Nat.le_of_ble_eq_true rfl)
  rw [lg_entry_eq]
  generalize (lg_sl ([.ref (md 0)]) ++ List.replicate (1 - (lg_sl ([.ref (md 0)])).length) Slot.unset).toArray = ls at hl ⊢
  have hl : lv_has ls 1 [(0, .ref (md 0))] := hl
  have zw0 := hts (.fieldLink RX3 36 "LearnedLedgeModel" "thrown" "I") (by decide +kernel)
  have ziX3 : ∀ w ∈ u_ws RX3 TX3 18, w ∈ wsX3_thrown := by decide +kernel
  refine lv_aload_n hx hb dX3_thrown_0 rfl (lv_at hl 0 rfl) ?_
  refine va_get (D := (dC, dI)) (ci := 3) (v := .int yth) (C := RX3) (T := TX3) (N := 18) hx hb hts ziX3 hown hK hP 0 rfl rfl 0 (by decide) zw0 (fun _ h9 => h9) rfl dX3_thrown_1 ?_
  exact W.iret hx hb hr (fun t ht hW => ⟨_, rfl, (o2 hm).symm, ht⟩) (fun q h => absurd h List.not_mem_nil) dX3_thrown_4
set_option maxHeartbeats 4000000 in
set_option maxRecDepth 100000 in
theorem c_X3_isKey (l : Launch) (dC : Nat → ClassId) (dI : Nat → Nat → Nat) (F : Nat) (p1 : Int32) (r : Int32) (hm : X3_isKey F p1 = some r) : Met l yX3_isKey wsX3_isKey ({ frames := 0, cells := 0, slots := 0, locals := 0 }) (va_Pc [.int p1] (zR (dC, dI) [] [])) (vp_Si (fun v => v = r)) 0 0 (fun _ => False) := by
  refine Met.ofW (cc := cX3_isKey) (maxL := 1) (ret := (some .boolean)) (by decide) rfl ?_
  intro p e s m args below meth c s₁ B hml hv
  obtain ⟨rfl, hP, hK⟩ := hv
  have hx := B.exec
  have hb := B.bytes
  have hr := B.returns
  have hts := atoms_spec (ws := wsX3_isKey) B.pre
  have hown : s.vm.findClass RX3 = some m.cls := findClass_of_methodNamed B.named
  have hlocks := B.notSynchronized
  have hl := lv_entry ([.int p1]) (n := 1) (Nat.le_of_ble_eq_true rfl)
  rw [lg_entry_eq]
  generalize (lg_sl ([.int p1]) ++ List.replicate (1 - (lg_sl ([.int p1])).length) Slot.unset).toArray = ls at hl ⊢
  have hl : lv_has ls 1 [(0, .int p1)] := hl
  have zw0 := hts (.constant RX3 39 (-1000000)) (by decide +kernel)
  have zw1 := hts (.constant RX3 40 (1000000)) (by decide +kernel)
  refine lv_iload_n hx hb dX3_isKey_0 rfl (lv_at hl 0 rfl) ?_
  refine lv_ldc hx hb hown zw0 dX3_isKey_1 ?_
  refine lv_icmp_lt (tgt := 16) hx hb dX3_isKey_3 (by decide) (fun c_3 => ?_) (fun c_3 => ?_)
  · have hm := it_t hm c_3
    refine lv_iconst (v := 0) hx hb dX3_isKey_16 (by decide) ?_
    exact W.zret hx hb hr rfl (fun t ht hW => ⟨_, rfl, (o2 hm).symm, ht⟩) (fun q h => absurd h List.not_mem_nil) dX3_isKey_17
  · have hm := it_f hm c_3
    refine lv_iload_n hx hb dX3_isKey_6 rfl (lv_at hl 0 rfl) ?_
    refine lv_ldc hx hb hown zw1 dX3_isKey_7 ?_
    refine lv_icmp_gt (tgt := 16) hx hb dX3_isKey_9 (by decide) (fun c_9 => ?_) (fun c_9 => ?_)
    · have hm := it_t hm c_9
      refine lv_iconst (v := 0) hx hb dX3_isKey_16 (by decide) ?_
      exact W.zret hx hb hr rfl (fun t ht hW => ⟨_, rfl, (o2 hm).symm, ht⟩) (fun q h => absurd h List.not_mem_nil) dX3_isKey_17
    · have hm := it_f hm c_9
      refine lv_iconst (v := 1) hx hb dX3_isKey_12 (by decide) ?_
      refine lv_goto (tgt := 17) hx hb dX3_isKey_13 (by decide) ?_
      exact W.zret hx hb hr rfl (fun t ht hW => ⟨_, rfl, (o2 hm).symm, ht⟩) (fun q h => absurd h List.not_mem_nil) dX3_isKey_17
set_option maxHeartbeats 4000000 in
set_option maxRecDepth 100000 in
theorem c_X3_behind (l : Launch) (dC : Nat → ClassId) (dI : Nat → Nat → Nat) (cI : ClassId) (cZ : ClassId) (md : Nat → Nat) (yth : Int32) (ybd : Int32) (yro : Int32) (yrow : Nat → Int32) (ymk : Nat → Int32) (yrm : Int32) (yst : Nat → Int32) (ypc : Int32) (ybu : Nat → Int32) (ybn : Int32) (ymg : Int32) (ysp : Int32) (yjn : Int32) (ymd : Nat → Int32) (ybg : Nat → Int32) (ymm : Int32) (yup : Int64) (yun : Int64) (F : Nat) (p1 : Int32) (r : Int32) (hm : X3_behind F yrm yst ypc p1 = some r) : Met l yX3_behind wsX3_behind ({ frames := 0, cells := 0, slots := 0, locals := 0 }) (va_Pc [.ref (md 0), .int p1] (zR (dC, dI) (wM cI cZ md yth ybd yro yrow ymk yrm yst ypc ybu ybn ymg ysp yjn ymd ybg ymm yup yun) [(cI, .int), (cZ, .boolean)])) (vp_Si (fun v => v = r)) 0 0 (fun _ => False) := by
  refine Met.ofW (cc := cX3_behind) (maxL := 2) (ret := (some .int)) (by decide) rfl ?_
  intro p e s m args below meth c s₁ B hml hv
  obtain ⟨rfl, hP, hK⟩ := hv
  have hx := B.exec
  have hb := B.bytes
  have hr := B.returns
  have hts := atoms_spec (ws := wsX3_behind) B.pre
  have hown : s.vm.findClass RX3 = some m.cls := findClass_of_methodNamed B.named
  have hlocks := B.notSynchronized
  have hl := lv_entry ([.ref (md 0), .int p1]) (n := 2) (Nat.le_of_ble_eq_true rfl)
  rw [lg_entry_eq]
  generalize (lg_sl ([.ref (md 0), .int p1]) ++ List.replicate (2 - (lg_sl ([.ref (md 0), .int p1])).length) Slot.unset).toArray = ls at hl ⊢
  have hl : lv_has ls 2 [(0, .ref (md 0)), (1, .int p1)] := hl
  have zw0 := hts (.fieldLink RX3 48 "LearnedLedgeModel" "pieces" "I") (by decide +kernel)
  have zw1 := hts (.fieldLink RX3 51 "LearnedLedgeModel" "rowMany" "I") (by decide +kernel)
  have zw2 := hts (.fieldLink RX3 24 "LearnedLedgeModel" "start" "[I") (by decide +kernel)
  have ziX3 : ∀ w ∈ u_ws RX3 TX3 18, w ∈ wsX3_behind := by decide +kernel
  refine lv_iload_n hx hb dX3_behind_0 rfl (lv_at hl 1 rfl) ?_
  refine lv_iconst (v := 1) hx hb dX3_behind_1 (by decide) ?_
  refine lv_iadd hx hb dX3_behind_2 ?_
  refine lv_aload_n hx hb dX3_behind_3 rfl (lv_at hl 0 rfl) ?_
  refine va_get (D := (dC, dI)) (ci := 3) (v := .int ypc) (C := RX3) (T := TX3) (N := 18) hx hb hts ziX3 hown hK hP 0 rfl rfl 7 (by decide) zw0 (fun _ h9 => h9) rfl dX3_behind_4 ?_
  refine lv_icmp_ge (tgt := 21) hx hb dX3_behind_7 (by decide) (fun c_7 => ?_) (fun c_7 => ?_)
  · have hm := it_t hm c_7
    refine lv_aload_n hx hb dX3_behind_21 rfl (lv_at hl 0 rfl) ?_
    refine va_get (D := (dC, dI)) (ci := 3) (v := .int yrm) (C := RX3) (T := TX3) (N := 18) hx hb hts ziX3 hown hK hP 0 rfl rfl 5 (by decide) zw1 (fun _ h9 => h9) rfl dX3_behind_22 ?_
    exact W.iret hx hb hr (fun t ht hW => ⟨_, rfl, (o2 hm).symm, ht⟩) (fun q h => absurd h List.not_mem_nil) dX3_behind_25
  · have hm := it_f hm c_7
    refine lv_aload_n hx hb dX3_behind_10 rfl (lv_at hl 0 rfl) ?_
    refine va_get (D := (dC, dI)) (ci := 3) (v := .ref (md 3)) (C := RX3) (T := TX3) (N := 18) hx hb hts ziX3 hown hK hP 0 rfl rfl 6 (by decide) zw2 (fun _ h9 => h9) rfl dX3_behind_11 ?_
    refine lv_iload_n hx hb dX3_behind_14 rfl (lv_at hl 1 rfl) ?_
    refine lv_iconst (v := 1) hx hb dX3_behind_15 (by decide) ?_
    refine lv_iadd hx hb dX3_behind_16 ?_
    obtain ⟨c_17, hm⟩ := ck hm
    refine va_iald hx hb hK hP 3 0 rfl rfl c_17 dX3_behind_17 ?_
    refine lv_goto (tgt := 25) hx hb dX3_behind_18 (by decide) ?_
    exact W.iret hx hb hr (fun t ht hW => ⟨_, rfl, (o2 hm).symm, ht⟩) (fun q h => absurd h List.not_mem_nil) dX3_behind_25
set_option maxHeartbeats 4000000 in
set_option maxRecDepth 100000 in
theorem c_X3_common (l : Launch) (dC : Nat → ClassId) (dI : Nat → Nat → Nat) (F : Nat) (p1 : Int64) (p2 : Int64) (r : Int64) (hm : X3_common F p1 p2 = some r) : Met l yX3_common wsX3_common ({ frames := 0, cells := 0, slots := 0, locals := 0 }) (va_Pc [.long p1, .long p2] (zR (dC, dI) [] [])) (vp_Sl (fun v => v = r)) 0 0 (fun _ => False) := by
  refine Met.ofW (cc := cX3_common) (maxL := 10) (ret := (some .long)) (by decide) rfl ?_
  intro p e s m args below meth c s₁ B hml hv
  obtain ⟨rfl, hP, hK⟩ := hv
  have hx := B.exec
  have hb := B.bytes
  have hr := B.returns
  have hts := atoms_spec (ws := wsX3_common) B.pre
  have hown : s.vm.findClass RX3 = some m.cls := findClass_of_methodNamed B.named
  have hlocks := B.notSynchronized
  have hl := lv_entry ([.long p1, .long p2]) (n := 10) (Nat.le_of_ble_eq_true rfl)
  rw [lg_entry_eq]
  generalize (lg_sl ([.long p1, .long p2]) ++ List.replicate (10 - (lg_sl ([.long p1, .long p2])).length) Slot.unset).toArray = ls at hl ⊢
  have hl : lv_has ls 10 [(0, .long p1), (2, .long p2)] := hl
  refine lv_lload_n hx hb dX3_common_0 rfl (lv_at hl 0 rfl) ?_
  refine lv_lstore (lv' := [(4, .long p1), (0, .long p1), (2, .long p2)]) hx hb dX3_common_1 hl (by decide) rfl (fun ls hl => ?_)
  refine lv_lload_n hx hb dX3_common_3 rfl (lv_at hl 2 rfl) ?_
  refine lv_lstore (lv' := [(6, .long p2), (4, .long p1), (0, .long p1), (2, .long p2)]) hx hb dX3_common_4 hl (by decide) rfl (fun ls hl => ?_)
  obtain ⟨z_6, hq_6, hm⟩ := ob hm
  have K_6 : ∀ (x4_1 : Int64), z_6 = x4_1 → ∀ (ls : Array Slot), lv_has ls 10 [(4, .long x4_1)] → W p l e (headSpec wsX3_common ({ frames := 0, cells := 0, slots := 0, locals := 0 } : Room)).room s m ([.long p1, .long p2] : List Value).toArray below meth c s.heap [] 0 0 (MQ below (vp_Sl (fun v => v = r)) ([.long p1, .long p2] : List Value).toArray s 0 0 (fun _ => False)) (F0 m 31 ls []) := by
    intro x4_1 ez ls hl
    rw [ez] at hm
    refine lv_lload hx hb dX3_common_31 (lv_at hl 0 rfl) ?_
    exact W.lret hx hb hr (fun t ht hW => ⟨_, rfl, (o2 hm).symm, ht⟩) (fun q h => absurd h List.not_mem_nil) dX3_common_33
  have L_6 : ∀ (n : Nat) (x6 : Int64) (x4 : Int64), X3_common_L6 n x6 x4 = some z_6 → ∀ (ls : Array Slot), lv_has ls 10 [(6, .long x6), (4, .long x4)] → W p l e (headSpec wsX3_common ({ frames := 0, cells := 0, slots := 0, locals := 0 } : Room)).room s m ([.long p1, .long p2] : List Value).toArray below meth c s.heap [] 0 0 (MQ below (vp_Sl (fun v => v = r)) ([.long p1, .long p2] : List Value).toArray s 0 0 (fun _ => False)) (F0 m 6 ls []) := by
    intro n
    induction n with
    | zero => intro x6 x4 hm; cases hm
    | succ n ih_6 =>
      intro x6 x4 hm ls hl
      refine lv_lload hx hb dX3_common_6 (lv_at hl 0 rfl) ?_
      refine lv_lconst (v := 0) hx hb dX3_common_8 (by decide) ?_
      refine W.lcmp hx hb dX3_common_9 ?_
      refine lv_if_le (tgt := 31) hx hb dX3_common_10 (by decide) (fun c_10 => ?_) (fun c_10 => ?_)
      · have c_10 : x6 ≤ 0 := (lg_cmp_le _ _).mp c_10
        have hm := it_t hm c_10
        exact K_6 x4 (o2 hm) _ (lv_sub hl [1] rfl)
      · have c_10 : ¬ (x6 ≤ 0) := fun h => c_10 ((lg_cmp_le _ _).mpr h)
        have hm := it_f hm c_10
        refine lv_lload hx hb dX3_common_13 (lv_at hl 1 rfl) ?_
        refine lv_lload hx hb dX3_common_15 (lv_at hl 0 rfl) ?_
        obtain ⟨c_17, hm⟩ := ck hm
        refine lv_lrem hx hb dX3_common_17 c_17 ?_
        refine lv_topl (fun x8 e_x8 => ?_)
        have hm := bnd_e hm e_x8
        refine lv_lstore (lv' := [(8, .long x8), (6, .long x6), (4, .long x4)]) hx hb dX3_common_18 hl (by decide) rfl (fun ls hl => ?_)
        refine lv_lload hx hb dX3_common_20 (lv_at hl 1 rfl) ?_
        refine lv_lstore (lv' := [(4, .long x6), (8, .long x8), (6, .long x6)]) hx hb dX3_common_22 hl (by decide) rfl (fun ls hl => ?_)
        refine lv_lload hx hb dX3_common_24 (lv_at hl 1 rfl) ?_
        refine lv_lstore (lv' := [(6, .long x8), (4, .long x6), (8, .long x8)]) hx hb dX3_common_26 hl (by decide) rfl (fun ls hl => ?_)
        refine lv_goto (tgt := 6) hx hb dX3_common_28 (by decide) ?_
        exact ih_6 x8 x6 hm _ (lv_sub hl [0, 1] rfl)
  exact L_6 F p2 p1 hq_6 _ (lv_sub hl [0, 1] rfl)
set_option maxHeartbeats 4000000 in
set_option maxRecDepth 100000 in
theorem c_X3_fits_row (l : Launch) (dC : Nat → ClassId) (dI : Nat → Nat → Nat) (cI : ClassId) (cZ : ClassId) (md : Nat → Nat) (yth : Int32) (ybd : Int32) (yro : Int32) (yrow : Nat → Int32) (ymk : Nat → Int32) (yrm : Int32) (yst : Nat → Int32) (ypc : Int32) (ybu : Nat → Int32) (ybn : Int32) (ymg : Int32) (ysp : Int32) (yjn : Int32) (ymd : Nat → Int32) (ybg : Nat → Int32) (ymm : Int32) (yup : Int64) (yun : Int64) (F : Nat) (p2 : Int32) (p3 : Int32) (sz : Nat) (r : Int32) (u_yup : Int64) (u_yun : Int64) (hm : X3_fits_row F ybd yrow yup yun p2 p3 = some (r, u_yup, u_yun)) : Met l yX3_fits wsX3_fits ({ frames := 0, cells := 0, slots := 0, locals := 0 }) (va_Pc [.ref (md 0), .ref (md 1), .int p2, .int p3] (zW (dC, dI) (wM cI cZ md yth ybd yro yrow ymk yrm yst ypc ybu ybn ymg ysp yjn ymd ybg ymm yup yun) [(cI, .int), (cZ, .boolean)] sz)) (zQi (dC, dI) (wM cI cZ md yth ybd yro yrow ymk yrm yst ypc ybu ybn ymg ysp yjn ymd ybg ymm u_yup u_yun) [(cI, .int), (cZ, .boolean)] (va_A (wM cI cZ md yth ybd yro yrow ymk yrm yst ypc ybu ybn ymg ysp yjn ymd ybg ymm yup yun) sz) r) 0 0 (va_A (wM cI cZ md yth ybd yro yrow ymk yrm yst ypc ybu ybn ymg ysp yjn ymd ybg ymm yup yun) sz) := by
  refine Met.ofW (cc := cX3_fits) (maxL := 13) (ret := (some .boolean)) (by decide) rfl ?_
  intro p e s m args below meth c s₁ B hml hv
  obtain ⟨rfl, hsz, hP, hK, hD0⟩ := hv
  have hx := B.exec
  have hb := B.bytes
  have hr := B.returns
  have hts := atoms_spec (ws := wsX3_fits) B.pre
  have hown : s.vm.findClass RX3 = some m.cls := findClass_of_methodNamed B.named
  have hlocks := B.notSynchronized
  subst hsz
  have hD := hD0.self (sz := s.heap.size)
  generalize hAe : va_A (wM cI cZ md yth ybd yro yrow ymk yrm yst ypc ybu ybn ymg ysp yjn ymd ybg ymm yup yun) s.heap.size = A at hD ⊢
  have hA : ∀ q : Nat, s.heap.size ≤ q → A q := fun q h => by rw [← hAe]; exact Or.inr h
  have hS : va_S A s.heap s.heap [] := va_S.rf
  generalize eL : ([] : List Loc) = locs at hS ⊢
  obtain ⟨H, eH⟩ : ∃ z : Heap, z = s.heap := ⟨_, rfl⟩
  have hP : va_P (dC, dI) vwCl (wM cI cZ md yth ybd yro yrow ymk yrm yst ypc ybu ybn ymg ysp yjn ymd ybg ymm yup yun) H := by rw [eH]; exact hP
  have hS : va_S A s.heap H locs := by rw [eH]; exact hS
  refine z_heap eH ?_
  have hl := lv_entry ([.ref (md 0), .ref (md 1), .int p2, .int p3]) (n := 13) (Nat.le_of_ble_eq_true rfl)
  rw [lg_entry_eq]
  generalize (lg_sl ([.ref (md 0), .ref (md 1), .int p2, .int p3]) ++ List.replicate (13 - (lg_sl ([.ref (md 0), .ref (md 1), .int p2, .int p3])).length) Slot.unset).toArray = ls at hl ⊢
  have hl : lv_has ls 13 [(0, .ref (md 0)), (1, .ref (md 1)), (2, .int p2), (3, .int p3)] := hl
  have zw0 := hts (.fieldLink RX3 41 "LearnedLedgeModel" "leastUp" "J") (by decide +kernel)
  have zw1 := hts (.fieldLink RX3 45 "LearnedLedgeModel" "leastUnder" "J") (by decide +kernel)
  have zw2 := hts (.fieldLink RX3 7 "LearnedLedgeModel" "bound" "I") (by decide +kernel)
  have ziX3 : ∀ w ∈ u_ws RX3 TX3 18, w ∈ wsX3_fits := by decide +kernel
  refine lv_aload_n hx hb dX3_fits_0 rfl (lv_at hl 0 rfl) ?_
  refine lv_lconst (v := 0) hx hb dX3_fits_1 (by decide) ?_
  refine va_put (D := (dC, dI)) (ci := 3) (v := .long 0) (ty := .long) (C := RX3) (T := TX3) (N := 18) hx hb hts ziX3 tyX3 tyX3_ok nmX3 hown hK hP hD hS 0 rfl rfl 16 (by decide) zw0 (fun _ h9 => h9) rfl (by decide +kernel) rfl rfl (Nat.le_of_ble_eq_true rfl) dX3_fits_2 (fun H locs hP hD hS => ?_)
  have hP : va_P (dC, dI) vwCl (wM cI cZ md yth ybd yro yrow ymk yrm yst ypc ybu ybn ymg ysp yjn ymd ybg ymm 0 yun) H := hP
  have hD : va_D A (wM cI cZ md yth ybd yro yrow ymk yrm yst ypc ybu ybn ymg ysp yjn ymd ybg ymm 0 yun) := hD
  refine lv_aload_n hx hb dX3_fits_5 rfl (lv_at hl 0 rfl) ?_
  refine lv_lconst (v := 1) hx hb dX3_fits_6 (by decide) ?_
  refine va_put (D := (dC, dI)) (ci := 3) (v := .long 1) (ty := .long) (C := RX3) (T := TX3) (N := 18) hx hb hts ziX3 tyX3 tyX3_ok nmX3 hown hK hP hD hS 0 rfl rfl 17 (by decide) zw1 (fun _ h9 => h9) rfl (by decide +kernel) rfl rfl (Nat.le_of_ble_eq_true rfl) dX3_fits_7 (fun H locs hP hD hS => ?_)
  have hP : va_P (dC, dI) vwCl (wM cI cZ md yth ybd yro yrow ymk yrm yst ypc ybu ybn ymg ysp yjn ymd ybg ymm 0 1) H := hP
  have hD : va_D A (wM cI cZ md yth ybd yro yrow ymk yrm yst ypc ybu ybn ymg ysp yjn ymd ybg ymm 0 1) := hD
  refine lv_lconst (v := 0) hx hb dX3_fits_10 (by decide) ?_
  refine lv_lstore (lv' := [(4, .long 0), (0, .ref (md 0)), (1, .ref (md 1)), (2, .int p2), (3, .int p3)]) hx hb dX3_fits_11 hl (by decide) rfl (fun ls hl => ?_)
  refine lv_lconst (v := 0) hx hb dX3_fits_13 (by decide) ?_
  refine lv_lstore (lv' := [(6, .long 0), (4, .long 0), (0, .ref (md 0)), (1, .ref (md 1)), (2, .int p2), (3, .int p3)]) hx hb dX3_fits_14 hl (by decide) rfl (fun ls hl => ?_)
  refine lv_iload_n hx hb dX3_fits_16 rfl (lv_at hl 4 rfl) ?_
  refine lv_iconst (v := 1) hx hb dX3_fits_17 (by decide) ?_
  refine lv_iadd hx hb dX3_fits_18 ?_
  refine lv_topi (fun x8 e_x8 => ?_)
  have hm := bnd_e hm e_x8
  refine lv_istore (lv' := [(8, .int x8), (6, .long 0), (4, .long 0), (0, .ref (md 0)), (1, .ref (md 1)), (2, .int p2), (3, .int p3)]) hx hb dX3_fits_19 hl (by decide) rfl (fun ls hl => ?_)
  obtain ⟨z_21, hq_21, hm⟩ := ob hm
  have K_21 : ∀ (x6_1 : Int64), ∀ (x4_3 : Int64), ∀ (yupx21 : Int64), ∀ (yunx21 : Int64), z_21 = (x6_1, x4_3, yupx21, yunx21) → ∀ (H : Heap) (locs : List Loc), va_P (dC, dI) vwCl (wM cI cZ md yth ybd yro yrow ymk yrm yst ypc ybu ybn ymg ysp yjn ymd ybg ymm yupx21 yunx21) H → va_D A (wM cI cZ md yth ybd yro yrow ymk yrm yst ypc ybu ybn ymg ysp yjn ymd ybg ymm yupx21 yunx21) → va_S A s.heap H locs → ∀ (ls : Array Slot), lv_has ls 13 [(6, .long x6_1), (4, .long x4_3), (0, .ref (md 0))] → W p l e (headSpec wsX3_fits ({ frames := 0, cells := 0, slots := 0, locals := 0 } : Room)).room s m ([.ref (md 0), .ref (md 1), .int p2, .int p3] : List Value).toArray below meth c H locs 0 0 (MQ below (zQi (dC, dI) (wM cI cZ md yth ybd yro yrow ymk yrm yst ypc ybu ybn ymg ysp yjn ymd ybg ymm u_yup u_yun) [(cI, .int), (cZ, .boolean)] A r) ([.ref (md 0), .ref (md 1), .int p2, .int p3] : List Value).toArray s 0 0 A) (F0 m 135 ls []) := by
    intro x6_1 x4_3 yupx21 yunx21 ez H locs hP hD hS ls hl
    rw [ez] at hm
    refine lv_lload hx hb dX3_fits_135 (lv_at hl 0 rfl) ?_
    refine lv_lconst (v := 0) hx hb dX3_fits_137 (by decide) ?_
    refine W.lcmp hx hb dX3_fits_138 ?_
    refine lv_if_eq (tgt := 160) hx hb dX3_fits_139 (by decide) (fun c_139 => ?_) (fun c_139 => ?_)
    · have c_139 : x6_1 = 0 := (lg_cmp_eq _ _).mp c_139
      have hm := it_t hm c_139
      refine lv_iconst (v := 1) hx hb dX3_fits_160 (by decide) ?_
      refine lv_goto (tgt := 165) hx hb dX3_fits_161 (by decide) ?_
      cases o2 hm
      exact W.zret hx hb hr rfl (fun t ht hW => ⟨⟨_, (), rfl, rfl, by rw [ht]; exact hP, va_K.moved hW.alike hK, hD⟩, hS.F ht⟩) hS.2.2 dX3_fits_165
    · have c_139 : ¬ (x6_1 = 0) := fun h => c_139 ((lg_cmp_eq _ _).mpr h)
      have hm := it_f hm c_139
      refine lv_aload_n hx hb dX3_fits_142 rfl (lv_at hl 2 rfl) ?_
      refine va_get (D := (dC, dI)) (ci := 3) (v := .long yupx21) (C := RX3) (T := TX3) (N := 18) hx hb hts ziX3 hown hK hP 0 rfl rfl 16 (by decide) zw0 (fun _ h9 => h9) rfl dX3_fits_143 ?_
      refine lv_lload hx hb dX3_fits_146 (lv_at hl 0 rfl) ?_
      refine lv_lmul hx hb dX3_fits_148 ?_
      refine lv_lload hx hb dX3_fits_149 (lv_at hl 1 rfl) ?_
      refine lv_aload_n hx hb dX3_fits_151 rfl (lv_at hl 2 rfl) ?_
      refine va_get (D := (dC, dI)) (ci := 3) (v := .long yunx21) (C := RX3) (T := TX3) (N := 18) hx hb hts ziX3 hown hK hP 0 rfl rfl 17 (by decide) zw1 (fun _ h9 => h9) rfl dX3_fits_152 ?_
      refine lv_lmul hx hb dX3_fits_155 ?_
      refine W.lcmp hx hb dX3_fits_156 ?_
      refine lv_if_gt (tgt := 164) hx hb dX3_fits_157 (by decide) (fun c_157 => ?_) (fun c_157 => ?_)
      · have c_157 : (x4_3 * yunx21) < (yupx21 * x6_1) := (lg_cmp_gt _ _).mp c_157
        have hm := it_t hm c_157
        refine lv_iconst (v := 0) hx hb dX3_fits_164 (by decide) ?_
        cases o2 hm
        exact W.zret hx hb hr rfl (fun t ht hW => ⟨⟨_, (), rfl, rfl, by rw [ht]; exact hP, va_K.moved hW.alike hK, hD⟩, hS.F ht⟩) hS.2.2 dX3_fits_165
      · have c_157 : ¬ ((x4_3 * yunx21) < (yupx21 * x6_1)) := fun h => c_157 ((lg_cmp_gt _ _).mpr h)
        have hm := it_f hm c_157
        refine lv_iconst (v := 1) hx hb dX3_fits_160 (by decide) ?_
        refine lv_goto (tgt := 165) hx hb dX3_fits_161 (by decide) ?_
        cases o2 hm
        exact W.zret hx hb hr rfl (fun t ht hW => ⟨⟨_, (), rfl, rfl, by rw [ht]; exact hP, va_K.moved hW.alike hK, hD⟩, hS.F ht⟩) hS.2.2 dX3_fits_165
  have L_21 : ∀ (n : Nat) (x8_1 : Int32) (x6 : Int64) (x4 : Int64) (yupl21 : Int64) (yunl21 : Int64), X3_fits_row_L21 p2 p3 ybd yrow n x8_1 x6 x4 yupl21 yunl21 = some z_21 → ∀ (H : Heap) (locs : List Loc), va_P (dC, dI) vwCl (wM cI cZ md yth ybd yro yrow ymk yrm yst ypc ybu ybn ymg ysp yjn ymd ybg ymm yupl21 yunl21) H → va_D A (wM cI cZ md yth ybd yro yrow ymk yrm yst ypc ybu ybn ymg ysp yjn ymd ybg ymm yupl21 yunl21) → va_S A s.heap H locs → ∀ (ls : Array Slot), lv_has ls 13 [(8, .int x8_1), (6, .long x6), (4, .long x4), (0, .ref (md 0)), (1, .ref (md 1)), (2, .int p2), (3, .int p3)] → W p l e (headSpec wsX3_fits ({ frames := 0, cells := 0, slots := 0, locals := 0 } : Room)).room s m ([.ref (md 0), .ref (md 1), .int p2, .int p3] : List Value).toArray below meth c H locs 0 0 (MQ below (zQi (dC, dI) (wM cI cZ md yth ybd yro yrow ymk yrm yst ypc ybu ybn ymg ysp yjn ymd ybg ymm u_yup u_yun) [(cI, .int), (cZ, .boolean)] A r) ([.ref (md 0), .ref (md 1), .int p2, .int p3] : List Value).toArray s 0 0 A) (F0 m 21 ls []) := by
    intro n
    induction n with
    | zero => intro x8_1 x6 x4 yupl21 yunl21 hm; cases hm
    | succ n ih_21 =>
      intro x8_1 x6 x4 yupl21 yunl21 hm H locs hP hD hS ls hl
      refine lv_iload hx hb dX3_fits_21 (lv_at hl 0 rfl) ?_
      refine lv_iload_n hx hb dX3_fits_23 rfl (lv_at hl 6 rfl) ?_
      refine lv_icmp_ge (tgt := 135) hx hb dX3_fits_24 (by decide) (fun c_24 => ?_) (fun c_24 => ?_)
      · have hm := it_t hm c_24
        exact K_21 x6 x4 yupl21 yunl21 (o2 hm) _ _ hP hD hS _ (lv_sub hl [1, 2, 3] rfl)
      · have hm := it_f hm c_24
        refine lv_aload_n hx hb dX3_fits_27 rfl (lv_at hl 4 rfl) ?_
        refine lv_iload hx hb dX3_fits_28 (lv_at hl 0 rfl) ?_
        obtain ⟨c_30, hm⟩ := ck hm
        refine va_iald hx hb hK hP 1 0 rfl rfl c_30 dX3_fits_30 ?_
        refine lv_i2l hx hb dX3_fits_31 rfl ?_
        refine lv_aload_n hx hb dX3_fits_32 rfl (lv_at hl 4 rfl) ?_
        refine lv_iload_n hx hb dX3_fits_33 rfl (lv_at hl 5 rfl) ?_
        obtain ⟨c_34, hm⟩ := ck hm
        refine va_iald hx hb hK hP 1 0 rfl rfl c_34 dX3_fits_34 ?_
        refine lv_i2l hx hb dX3_fits_35 rfl ?_
        refine lv_lsub hx hb dX3_fits_36 ?_
        refine lv_topl (fun x9 e_x9 => ?_)
        have hm := bnd_e hm e_x9
        refine lv_lstore (lv' := [(9, .long x9), (8, .int x8_1), (6, .long x6), (4, .long x4), (0, .ref (md 0)), (1, .ref (md 1)), (2, .int p2), (3, .int p3)]) hx hb dX3_fits_37 hl (by decide) rfl (fun ls hl => ?_)
        refine lv_iload hx hb dX3_fits_39 (lv_at hl 1 rfl) ?_
        refine lv_iload_n hx hb dX3_fits_41 rfl (lv_at hl 6 rfl) ?_
        refine lv_isub hx hb dX3_fits_42 ?_
        refine lv_i2l hx hb dX3_fits_43 rfl ?_
        refine lv_topl (fun x11 e_x11 => ?_)
        have hm := bnd_e hm e_x11
        refine lv_lstore (lv' := [(11, .long x11), (9, .long x9), (8, .int x8_1), (6, .long x6), (4, .long x4), (0, .ref (md 0)), (1, .ref (md 1)), (2, .int p2), (3, .int p3)]) hx hb dX3_fits_44 hl (by decide) rfl (fun ls hl => ?_)
        refine lv_lload hx hb dX3_fits_46 (lv_at hl 0 rfl) ?_
        refine lv_aload_n hx hb dX3_fits_48 rfl (lv_at hl 5 rfl) ?_
        refine va_get (D := (dC, dI)) (ci := 3) (v := .int ybd) (C := RX3) (T := TX3) (N := 18) hx hb hts ziX3 hown hK hP 0 rfl rfl 1 (by decide) zw2 (fun _ h9 => h9) rfl dX3_fits_49 ?_
        refine lv_i2l hx hb dX3_fits_52 rfl ?_
        refine lv_lsub hx hb dX3_fits_53 ?_
        refine lv_aload_n hx hb dX3_fits_54 rfl (lv_at hl 5 rfl) ?_
        refine va_get (D := (dC, dI)) (ci := 3) (v := .long yunl21) (C := RX3) (T := TX3) (N := 18) hx hb hts ziX3 hown hK hP 0 rfl rfl 17 (by decide) zw1 (fun _ h9 => h9) rfl dX3_fits_55 ?_
        refine lv_lmul hx hb dX3_fits_58 ?_
        refine lv_aload_n hx hb dX3_fits_59 rfl (lv_at hl 5 rfl) ?_
        refine va_get (D := (dC, dI)) (ci := 3) (v := .long yupl21) (C := RX3) (T := TX3) (N := 18) hx hb hts ziX3 hown hK hP 0 rfl rfl 16 (by decide) zw0 (fun _ h9 => h9) rfl dX3_fits_60 ?_
        refine lv_lload hx hb dX3_fits_63 (lv_at hl 1 rfl) ?_
        refine lv_lmul hx hb dX3_fits_65 ?_
        refine W.lcmp hx hb dX3_fits_66 ?_
        obtain ⟨z_88, hq_88, hm⟩ := ob hm
        have J_88 : ∀ (yupj88 : Int64), ∀ (yunj88 : Int64), z_88 = (yupj88, yunj88) → ∀ (H : Heap) (locs : List Loc), va_P (dC, dI) vwCl (wM cI cZ md yth ybd yro yrow ymk yrm yst ypc ybu ybn ymg ysp yjn ymd ybg ymm yupj88 yunj88) H → va_D A (wM cI cZ md yth ybd yro yrow ymk yrm yst ypc ybu ybn ymg ysp yjn ymd ybg ymm yupj88 yunj88) → va_S A s.heap H locs → W p l e (headSpec wsX3_fits ({ frames := 0, cells := 0, slots := 0, locals := 0 } : Room)).room s m ([.ref (md 0), .ref (md 1), .int p2, .int p3] : List Value).toArray below meth c H locs 0 0 (MQ below (zQi (dC, dI) (wM cI cZ md yth ybd yro yrow ymk yrm yst ypc ybu ybn ymg ysp yjn ymd ybg ymm u_yup u_yun) [(cI, .int), (cZ, .boolean)] A r) ([.ref (md 0), .ref (md 1), .int p2, .int p3] : List Value).toArray s 0 0 A) (F0 m 88 ls []) := by
          intro yupj88 yunj88 ez H locs hP hD hS
          rw [ez] at hm
          refine lv_lload hx hb dX3_fits_88 (lv_at hl 3 rfl) ?_
          refine lv_lconst (v := 0) hx hb dX3_fits_90 (by decide) ?_
          refine W.lcmp hx hb dX3_fits_91 ?_
          refine lv_if_eq (tgt := 115) hx hb dX3_fits_92 (by decide) (fun c_92 => ?_) (fun c_92 => ?_)
          · have c_92 : x6 = 0 := (lg_cmp_eq _ _).mp c_92
            have hm := it_t hm c_92
            refine lv_lload hx hb dX3_fits_115 (lv_at hl 0 rfl) ?_
            refine lv_aload_n hx hb dX3_fits_117 rfl (lv_at hl 5 rfl) ?_
            refine va_get (D := (dC, dI)) (ci := 3) (v := .int ybd) (C := RX3) (T := TX3) (N := 18) hx hb hts ziX3 hown hK hP 0 rfl rfl 1 (by decide) zw2 (fun _ h9 => h9) rfl dX3_fits_118 ?_
            refine lv_i2l hx hb dX3_fits_121 rfl ?_
            refine lv_ladd hx hb dX3_fits_122 ?_
            refine lv_topl (fun x4_1 e_x4_1 => ?_)
            have hm := bnd_e hm e_x4_1
            refine lv_lstore (lv' := [(4, .long x4_1), (11, .long x11), (9, .long x9), (8, .int x8_1), (6, .long x6), (0, .ref (md 0)), (1, .ref (md 1)), (2, .int p2), (3, .int p3)]) hx hb dX3_fits_123 hl (by decide) rfl (fun ls hl => ?_)
            refine lv_lload hx hb dX3_fits_125 (lv_at hl 2 rfl) ?_
            refine lv_lstore (lv' := [(6, .long x9), (4, .long x4_1), (11, .long x11), (9, .long x9), (8, .int x8_1), (0, .ref (md 0)), (1, .ref (md 1)), (2, .int p2), (3, .int p3)]) hx hb dX3_fits_127 hl (by decide) rfl (fun ls hl => ?_)
            obtain ⟨x8_2, e_x8_2⟩ : ∃ y : Int32, y = x8_1 + 1 := ⟨_, rfl⟩
            have hm := bnd_e hm e_x8_2
            refine lv_iinc (v := x8_2) (lv' := [(8, .int x8_2), (6, .long x9), (4, .long x4_1), (11, .long x11), (9, .long x9), (0, .ref (md 0)), (1, .ref (md 1)), (2, .int p2), (3, .int p3)]) hx hb dX3_fits_129 hl (k := 4) rfl (by rw [e_x8_2]; rfl) (by decide) rfl (fun ls hl => ?_)
            refine lv_goto (tgt := 21) hx hb dX3_fits_132 (by decide) ?_
            exact ih_21 x8_2 x9 x4_1 yupj88 yunj88 hm _ _ hP hD hS _ (lv_sub hl [0, 1, 2, 5, 6, 7, 8] rfl)
          · have c_92 : ¬ (x6 = 0) := fun h => c_92 ((lg_cmp_eq _ _).mpr h)
            have hm := it_f hm c_92
            refine lv_lload hx hb dX3_fits_95 (lv_at hl 0 rfl) ?_
            refine lv_aload_n hx hb dX3_fits_97 rfl (lv_at hl 5 rfl) ?_
            refine va_get (D := (dC, dI)) (ci := 3) (v := .int ybd) (C := RX3) (T := TX3) (N := 18) hx hb hts ziX3 hown hK hP 0 rfl rfl 1 (by decide) zw2 (fun _ h9 => h9) rfl dX3_fits_98 ?_
            refine lv_i2l hx hb dX3_fits_101 rfl ?_
            refine lv_ladd hx hb dX3_fits_102 ?_
            refine lv_lload hx hb dX3_fits_103 (lv_at hl 3 rfl) ?_
            refine lv_lmul hx hb dX3_fits_105 ?_
            refine lv_lload hx hb dX3_fits_106 (lv_at hl 4 rfl) ?_
            refine lv_lload hx hb dX3_fits_108 (lv_at hl 1 rfl) ?_
            refine lv_lmul hx hb dX3_fits_110 ?_
            refine W.lcmp hx hb dX3_fits_111 ?_
            refine lv_if_ge (tgt := 129) hx hb dX3_fits_112 (by decide) (fun c_112 => ?_) (fun c_112 => ?_)
            · have c_112 : (x4 * x9) ≤ ((x11 + (Int32.toInt64 ybd)) * x6) := (lg_cmp_ge _ _).mp c_112
              have hm := it_t hm c_112
              obtain ⟨x8_3, e_x8_3⟩ : ∃ y : Int32, y = x8_1 + 1 := ⟨_, rfl⟩
              have hm := bnd_e hm e_x8_3
              refine lv_iinc (v := x8_3) (lv' := [(8, .int x8_3), (11, .long x11), (9, .long x9), (6, .long x6), (4, .long x4), (0, .ref (md 0)), (1, .ref (md 1)), (2, .int p2), (3, .int p3)]) hx hb dX3_fits_129 hl (k := 2) rfl (by rw [e_x8_3]; rfl) (by decide) rfl (fun ls hl => ?_)
              refine lv_goto (tgt := 21) hx hb dX3_fits_132 (by decide) ?_
              exact ih_21 x8_3 x6 x4 yupj88 yunj88 hm _ _ hP hD hS _ (lv_sub hl [0, 3, 4, 5, 6, 7, 8] rfl)
            · have c_112 : ¬ ((x4 * x9) ≤ ((x11 + (Int32.toInt64 ybd)) * x6)) := fun h => c_112 ((lg_cmp_ge _ _).mpr h)
              have hm := it_f hm c_112
              refine lv_lload hx hb dX3_fits_115 (lv_at hl 0 rfl) ?_
              refine lv_aload_n hx hb dX3_fits_117 rfl (lv_at hl 5 rfl) ?_
              refine va_get (D := (dC, dI)) (ci := 3) (v := .int ybd) (C := RX3) (T := TX3) (N := 18) hx hb hts ziX3 hown hK hP 0 rfl rfl 1 (by decide) zw2 (fun _ h9 => h9) rfl dX3_fits_118 ?_
              refine lv_i2l hx hb dX3_fits_121 rfl ?_
              refine lv_ladd hx hb dX3_fits_122 ?_
              refine lv_topl (fun x4_2 e_x4_2 => ?_)
              have hm := bnd_e hm e_x4_2
              refine lv_lstore (lv' := [(4, .long x4_2), (11, .long x11), (9, .long x9), (8, .int x8_1), (6, .long x6), (0, .ref (md 0)), (1, .ref (md 1)), (2, .int p2), (3, .int p3)]) hx hb dX3_fits_123 hl (by decide) rfl (fun ls hl => ?_)
              refine lv_lload hx hb dX3_fits_125 (lv_at hl 2 rfl) ?_
              refine lv_lstore (lv' := [(6, .long x9), (4, .long x4_2), (11, .long x11), (9, .long x9), (8, .int x8_1), (0, .ref (md 0)), (1, .ref (md 1)), (2, .int p2), (3, .int p3)]) hx hb dX3_fits_127 hl (by decide) rfl (fun ls hl => ?_)
              obtain ⟨x8_4, e_x8_4⟩ : ∃ y : Int32, y = x8_1 + 1 := ⟨_, rfl⟩
              have hm := bnd_e hm e_x8_4
              refine lv_iinc (v := x8_4) (lv' := [(8, .int x8_4), (6, .long x9), (4, .long x4_2), (11, .long x11), (9, .long x9), (0, .ref (md 0)), (1, .ref (md 1)), (2, .int p2), (3, .int p3)]) hx hb dX3_fits_129 hl (k := 4) rfl (by rw [e_x8_4]; rfl) (by decide) rfl (fun ls hl => ?_)
              refine lv_goto (tgt := 21) hx hb dX3_fits_132 (by decide) ?_
              exact ih_21 x8_4 x9 x4_2 yupj88 yunj88 hm _ _ hP hD hS _ (lv_sub hl [0, 1, 2, 5, 6, 7, 8] rfl)
        have hm := hq_88
        refine lv_if_le (tgt := 88) hx hb dX3_fits_67 (by decide) (fun c_67 => ?_) (fun c_67 => ?_)
        · have c_67 : ((x11 - (Int32.toInt64 ybd)) * yunl21) ≤ (yupl21 * x9) := (lg_cmp_le _ _).mp c_67
          have hm := it_t hm c_67
          exact J_88 yupl21 yunl21 (o2 hm) _ _ hP hD hS
        · have c_67 : ¬ (((x11 - (Int32.toInt64 ybd)) * yunl21) ≤ (yupl21 * x9)) := fun h => c_67 ((lg_cmp_le _ _).mpr h)
          have hm := it_f hm c_67
          refine lv_aload_n hx hb dX3_fits_70 rfl (lv_at hl 5 rfl) ?_
          refine lv_lload hx hb dX3_fits_71 (lv_at hl 0 rfl) ?_
          refine lv_aload_n hx hb dX3_fits_73 rfl (lv_at hl 5 rfl) ?_
          refine va_get (D := (dC, dI)) (ci := 3) (v := .int ybd) (C := RX3) (T := TX3) (N := 18) hx hb hts ziX3 hown hK hP 0 rfl rfl 1 (by decide) zw2 (fun _ h9 => h9) rfl dX3_fits_74 ?_
          refine lv_i2l hx hb dX3_fits_77 rfl ?_
          refine lv_lsub hx hb dX3_fits_78 ?_
          refine va_put (D := (dC, dI)) (ci := 3) (v := .long (x11 - (Int32.toInt64 ybd))) (ty := .long) (C := RX3) (T := TX3) (N := 18) hx hb hts ziX3 tyX3 tyX3_ok nmX3 hown hK hP hD hS 0 rfl rfl 16 (by decide) zw0 (fun _ h9 => h9) rfl (by decide +kernel) rfl rfl (Nat.le_of_ble_eq_true rfl) dX3_fits_79 (fun H locs hP hD hS => ?_)
          have hP : va_P (dC, dI) vwCl (wM cI cZ md yth ybd yro yrow ymk yrm yst ypc ybu ybn ymg ysp yjn ymd ybg ymm (x11 - (Int32.toInt64 ybd)) yunl21) H := hP
          have hD : va_D A (wM cI cZ md yth ybd yro yrow ymk yrm yst ypc ybu ybn ymg ysp yjn ymd ybg ymm (x11 - (Int32.toInt64 ybd)) yunl21) := hD
          refine lv_aload_n hx hb dX3_fits_82 rfl (lv_at hl 5 rfl) ?_
          refine lv_lload hx hb dX3_fits_83 (lv_at hl 1 rfl) ?_
          refine va_put (D := (dC, dI)) (ci := 3) (v := .long x9) (ty := .long) (C := RX3) (T := TX3) (N := 18) hx hb hts ziX3 tyX3 tyX3_ok nmX3 hown hK hP hD hS 0 rfl rfl 17 (by decide) zw1 (fun _ h9 => h9) rfl (by decide +kernel) rfl rfl (Nat.le_of_ble_eq_true rfl) dX3_fits_85 (fun H locs hP hD hS => ?_)
          have hP : va_P (dC, dI) vwCl (wM cI cZ md yth ybd yro yrow ymk yrm yst ypc ybu ybn ymg ysp yjn ymd ybg ymm (x11 - (Int32.toInt64 ybd)) x9) H := hP
          have hD : va_D A (wM cI cZ md yth ybd yro yrow ymk yrm yst ypc ybu ybn ymg ysp yjn ymd ybg ymm (x11 - (Int32.toInt64 ybd)) x9) := hD
          exact J_88 (x11 - (Int32.toInt64 ybd)) x9 (o2 hm) _ _ hP hD hS
  exact L_21 F x8 0 0 0 1 hq_21 _ _ hP hD hS _ (lv_sub hl [0, 1, 2, 3, 4, 5, 6] rfl)
set_option maxHeartbeats 4000000 in
set_option maxRecDepth 100000 in
theorem c_X3_lays (l : Launch) (dC : Nat → ClassId) (dI : Nat → Nat → Nat) (cI : ClassId) (cZ : ClassId) (md : Nat → Nat) (yth : Int32) (ybd : Int32) (yro : Int32) (yrow : Nat → Int32) (ymk : Nat → Int32) (yrm : Int32) (yst : Nat → Int32) (ypc : Int32) (ybu : Nat → Int32) (ybn : Int32) (ymg : Int32) (ysp : Int32) (yjn : Int32) (ymd : Nat → Int32) (ybg : Nat → Int32) (ymm : Int32) (yup : Int64) (yun : Int64) (F : Nat) (p1 : Int32) (sz : Nat) (u_yup : Int64) (u_yun : Int64) (hm : X3_lays F ybd yrow yrm yst ypc yup yun p1 = some (u_yup, u_yun)) : Met l yX3_lays wsX3_lays ({ frames := 1, cells := 0, slots := 0, locals := 32 }) (va_Pc [.ref (md 0), .int p1] (zW (dC, dI) (wM cI cZ md yth ybd yro yrow ymk yrm yst ypc ybu ybn ymg ysp yjn ymd ybg ymm yup yun) [(cI, .int), (cZ, .boolean)] sz)) (zQv (dC, dI) (wM cI cZ md yth ybd yro yrow ymk yrm yst ypc ybu ybn ymg ysp yjn ymd ybg ymm u_yup u_yun) [(cI, .int), (cZ, .boolean)] (va_A (wM cI cZ md yth ybd yro yrow ymk yrm yst ypc ybu ybn ymg ysp yjn ymd ybg ymm yup yun) sz)) 0 0 (va_A (wM cI cZ md yth ybd yro yrow ymk yrm yst ypc ybu ybn ymg ysp yjn ymd ybg ymm yup yun) sz) := by
  refine Met.ofW (cc := cX3_lays) (maxL := 4) (ret := none) (by decide) rfl ?_
  intro p e s m args below meth c s₁ B hml hv
  obtain ⟨rfl, hsz, hP, hK, hD0⟩ := hv
  have hx := B.exec
  have hb := B.bytes
  have hr := B.returns
  have hts := atoms_spec (ws := wsX3_lays) B.pre
  have hown : s.vm.findClass RX3 = some m.cls := findClass_of_methodNamed B.named
  have hlocks := B.notSynchronized
  subst hsz
  have hD := hD0.self (sz := s.heap.size)
  generalize hAe : va_A (wM cI cZ md yth ybd yro yrow ymk yrm yst ypc ybu ybn ymg ysp yjn ymd ybg ymm yup yun) s.heap.size = A at hD ⊢
  have hA : ∀ q : Nat, s.heap.size ≤ q → A q := fun q h => by rw [← hAe]; exact Or.inr h
  have hS : va_S A s.heap s.heap [] := va_S.rf
  generalize eL : ([] : List Loc) = locs at hS ⊢
  obtain ⟨H, eH⟩ : ∃ z : Heap, z = s.heap := ⟨_, rfl⟩
  have hP : va_P (dC, dI) vwCl (wM cI cZ md yth ybd yro yrow ymk yrm yst ypc ybu ybn ymg ysp yjn ymd ybg ymm yup yun) H := by rw [eH]; exact hP
  have hS : va_S A s.heap H locs := by rw [eH]; exact hS
  refine z_heap eH ?_
  have hl := lv_entry ([.ref (md 0), .int p1]) (n := 4) (Nat.le_of_ble_eq_true rfl)
  rw [lg_entry_eq]
  generalize (lg_sl ([.ref (md 0), .int p1]) ++ List.replicate (4 - (lg_sl ([.ref (md 0), .int p1])).length) Slot.unset).toArray = ls at hl ⊢
  have hl : lv_has ls 4 [(0, .ref (md 0)), (1, .int p1)] := hl
  have zw0 := hts (.fieldLink RX3 16 "LearnedLedgeModel" "row" "[I") (by decide +kernel)
  have zw1 := hts (.fieldLink RX3 24 "LearnedLedgeModel" "start" "[I") (by decide +kernel)
  have zw2 := hts (.fieldLink RX3 41 "LearnedLedgeModel" "leastUp" "J") (by decide +kernel)
  have zw3 := hts (.fieldLink RX3 45 "LearnedLedgeModel" "leastUnder" "J") (by decide +kernel)
  have ziX3 : ∀ w ∈ u_ws RX3 TX3 18, w ∈ wsX3_lays := by decide +kernel
  refine lv_aload_n hx hb dX3_lays_0 rfl (lv_at hl 0 rfl) ?_
  refine lv_aload_n hx hb dX3_lays_1 rfl (lv_at hl 0 rfl) ?_
  refine va_get (D := (dC, dI)) (ci := 3) (v := .ref (md 1)) (C := RX3) (T := TX3) (N := 18) hx hb hts ziX3 hown hK hP 0 rfl rfl 3 (by decide) zw0 (fun _ h9 => h9) rfl dX3_lays_2 ?_
  refine lv_aload_n hx hb dX3_lays_5 rfl (lv_at hl 0 rfl) ?_
  refine va_get (D := (dC, dI)) (ci := 3) (v := .ref (md 3)) (C := RX3) (T := TX3) (N := 18) hx hb hts ziX3 hown hK hP 0 rfl rfl 6 (by decide) zw1 (fun _ h9 => h9) rfl dX3_lays_6 ?_
  refine lv_iload_n hx hb dX3_lays_9 rfl (lv_at hl 1 rfl) ?_
  obtain ⟨c_10, hm⟩ := ck hm
  refine va_iald hx hb hK hP 3 0 rfl rfl c_10 dX3_lays_10 ?_
  refine lv_aload_n hx hb dX3_lays_11 rfl (lv_at hl 0 rfl) ?_
  refine lv_iload_n hx hb dX3_lays_12 rfl (lv_at hl 1 rfl) ?_
  obtain ⟨r13, h_13, hm⟩ := ob hm
  refine z_callRi (As := [.int p1]) (rest := [.int (yst (Int32.toNatClampNeg p1)), .ref (md 1), .ref (md 0)]) (ci := 3) (q := (RX3, TX3, 18)) ⟨hx, hb, hml, hown, hts⟩ (c_X3_behind l dC dI cI cZ md yth ybd yro yrow ymk yrm yst ypc ybu ybn ymg ysp yjn ymd ybg ymm yup yun F p1 r13 h_13) (cwV 1 hts gX3_lays_X3_behind rfl rfl rfl kv_X3_behind ⟨Nat.le_of_ble_eq_true rfl, Nat.le_of_ble_eq_true rfl⟩) hK hP rfl rfl rfl rfl hl.1 rfl (Nat.le_of_ble_eq_true rfl) dX3_lays_13 ⟨Nat.zero_le _, Nat.zero_le _⟩ ?_
  obtain ⟨⟨r16, yup16, yun16⟩, h_16, hm⟩ := ob hm
  refine z_callWi (wc := (wM cI cZ md yth ybd yro yrow ymk yrm yst ypc ybu ybn ymg ysp yjn ymd ybg ymm yup yun)) (w1 := (wM cI cZ md yth ybd yro yrow ymk yrm yst ypc ybu ybn ymg ysp yjn ymd ybg ymm yup16 yun16)) (ws := (wM cI cZ md yth ybd yro yrow ymk yrm yst ypc ybu ybn ymg ysp yjn ymd ybg ymm yup yun)) (ws' := (wM cI cZ md yth ybd yro yrow ymk yrm yst ypc ybu ybn ymg ysp yjn ymd ybg ymm yup16 yun16)) [0, 1, 2, 3, 4, 5, 6] [] 7 (As := [.ref (md 1), .int (yst (Int32.toNatClampNeg p1)), .int r13]) (rest := []) (ci := 3) (q := (RX3, TX3, 18)) ⟨hx, hb, hml, hown, hts⟩ (c_X3_fits_row l dC dI cI cZ md yth ybd yro yrow ymk yrm yst ypc ybu ybn ymg ysp yjn ymd ybg ymm yup yun F (yst (Int32.toNatClampNeg p1)) r13 H.size r16 yup16 yun16 h_16) (cwV 3 hts gX3_lays_X3_fits rfl rfl rfl kv_X3_fits ⟨Nat.le_of_ble_eq_true rfl, Nat.le_of_ble_eq_true rfl⟩) hK hP hD hS hA hP hD rfl rfl (by decide) rfl rfl (by decide) rfl rfl rfl rfl rfl hl.1 rfl (Nat.le_of_ble_eq_true rfl) dX3_lays_16 ⟨Nat.zero_le _, Nat.zero_le _⟩ (fun H locs hP hD hS => ?_)
  refine lv_pop hx hb dX3_lays_19 rfl ?_
  refine lv_aload_n hx hb dX3_lays_20 rfl (lv_at hl 0 rfl) ?_
  refine va_get (D := (dC, dI)) (ci := 3) (v := .long yup16) (C := RX3) (T := TX3) (N := 18) hx hb hts ziX3 hown hK hP 0 rfl rfl 16 (by decide) zw2 (fun _ h9 => h9) rfl dX3_lays_21 ?_
  refine lv_aload_n hx hb dX3_lays_24 rfl (lv_at hl 0 rfl) ?_
  refine va_get (D := (dC, dI)) (ci := 3) (v := .long yun16) (C := RX3) (T := TX3) (N := 18) hx hb hts ziX3 hown hK hP 0 rfl rfl 17 (by decide) zw3 (fun _ h9 => h9) rfl dX3_lays_25 ?_
  obtain ⟨r28, h_28, hm⟩ := ob hm
  refine z_callSl (As := [.long yup16, .long yun16]) (rest := []) ⟨hx, hb, hml, hown, hts⟩ (c_X3_common l dC dI F yup16 yun16 r28 h_28) (va_cwS 2 hts gX3_lays_X3_common rfl rfl rfl ks_X3_common ⟨Nat.le_of_ble_eq_true rfl, Nat.le_of_ble_eq_true rfl⟩) (hK.sub (tys' := []) [] rfl) z_P0 rfl hl.1 rfl (Nat.le_of_ble_eq_true rfl) dX3_lays_28 ⟨Nat.zero_le _, Nat.zero_le _⟩ ?_
  refine lv_lstore_n (lv' := [(2, .long r28), (0, .ref (md 0)), (1, .int p1)]) hx hb dX3_lays_31 rfl hl (by decide) rfl (fun ls hl => ?_)
  refine lv_aload_n hx hb dX3_lays_32 rfl (lv_at hl 1 rfl) ?_
  refine lv_dup hx hb dX3_lays_33 rfl ?_
  refine va_get (D := (dC, dI)) (ci := 3) (v := .long yup16) (C := RX3) (T := TX3) (N := 18) hx hb hts ziX3 hown hK hP 0 rfl rfl 16 (by decide) zw2 (fun _ h9 => h9) rfl dX3_lays_34 ?_
  refine lv_lload_n hx hb dX3_lays_37 rfl (lv_at hl 0 rfl) ?_
  obtain ⟨c_38, hm⟩ := ck hm
  refine lv_ldiv hx hb dX3_lays_38 c_38 ?_
  refine va_put (D := (dC, dI)) (ci := 3) (v := .long (yup16 / r28)) (ty := .long) (C := RX3) (T := TX3) (N := 18) hx hb hts ziX3 tyX3 tyX3_ok nmX3 hown hK hP hD hS 0 rfl rfl 16 (by decide) zw2 (fun _ h9 => h9) rfl (by decide +kernel) rfl rfl (Nat.le_of_ble_eq_true rfl) dX3_lays_39 (fun H locs hP hD hS => ?_)
  have hP : va_P (dC, dI) vwCl (wM cI cZ md yth ybd yro yrow ymk yrm yst ypc ybu ybn ymg ysp yjn ymd ybg ymm (yup16 / r28) yun16) H := hP
  have hD : va_D A (wM cI cZ md yth ybd yro yrow ymk yrm yst ypc ybu ybn ymg ysp yjn ymd ybg ymm (yup16 / r28) yun16) := hD
  refine lv_aload_n hx hb dX3_lays_42 rfl (lv_at hl 1 rfl) ?_
  refine lv_dup hx hb dX3_lays_43 rfl ?_
  refine va_get (D := (dC, dI)) (ci := 3) (v := .long yun16) (C := RX3) (T := TX3) (N := 18) hx hb hts ziX3 hown hK hP 0 rfl rfl 17 (by decide) zw3 (fun _ h9 => h9) rfl dX3_lays_44 ?_
  refine lv_lload_n hx hb dX3_lays_47 rfl (lv_at hl 0 rfl) ?_
  obtain ⟨c_48, hm⟩ := ck hm
  refine lv_ldiv hx hb dX3_lays_48 c_48 ?_
  refine va_put (D := (dC, dI)) (ci := 3) (v := .long (yun16 / r28)) (ty := .long) (C := RX3) (T := TX3) (N := 18) hx hb hts ziX3 tyX3 tyX3_ok nmX3 hown hK hP hD hS 0 rfl rfl 17 (by decide) zw3 (fun _ h9 => h9) rfl (by decide +kernel) rfl rfl (Nat.le_of_ble_eq_true rfl) dX3_lays_49 (fun H locs hP hD hS => ?_)
  have hP : va_P (dC, dI) vwCl (wM cI cZ md yth ybd yro yrow ymk yrm yst ypc ybu ybn ymg ysp yjn ymd ybg ymm (yup16 / r28) (yun16 / r28)) H := hP
  have hD : va_D A (wM cI cZ md yth ybd yro yrow ymk yrm yst ypc ybu ybn ymg ysp yjn ymd ybg ymm (yup16 / r28) (yun16 / r28)) := hD
  cases o2 hm
  exact W.vret hx hb hr (fun t ht hW => ⟨⟨(), rfl, trivial, by rw [ht]; exact hP, va_K.moved hW.alike hK, hD⟩, hS.F ht⟩) hS.2.2 dX3_lays_52
set_option maxHeartbeats 4000000 in
set_option maxRecDepth 100000 in
theorem c_X3_placeOf (l : Launch) (dC : Nat → ClassId) (dI : Nat → Nat → Nat) (cI : ClassId) (cZ : ClassId) (md : Nat → Nat) (yth : Int32) (ybd : Int32) (yro : Int32) (yrow : Nat → Int32) (ymk : Nat → Int32) (yrm : Int32) (yst : Nat → Int32) (ypc : Int32) (ybu : Nat → Int32) (ybn : Int32) (ymg : Int32) (ysp : Int32) (yjn : Int32) (ymd : Nat → Int32) (ybg : Nat → Int32) (ymm : Int32) (yup : Int64) (yun : Int64) (F : Nat) (p1 : Int32) (r : Int32) (hm : X3_placeOf F yrow yrm p1 = some r) : Met l yX3_placeOf wsX3_placeOf ({ frames := 0, cells := 0, slots := 0, locals := 0 }) (va_Pc [.ref (md 0), .int p1] (zR (dC, dI) (wM cI cZ md yth ybd yro yrow ymk yrm yst ypc ybu ybn ymg ysp yjn ymd ybg ymm yup yun) [(cI, .int), (cZ, .boolean)])) (vp_Si (fun v => v = r)) 0 0 (fun _ => False) := by
  refine Met.ofW (cc := cX3_placeOf) (maxL := 3) (ret := (some .int)) (by decide) rfl ?_
  intro p e s m args below meth c s₁ B hml hv
  obtain ⟨rfl, hP, hK⟩ := hv
  have hx := B.exec
  have hb := B.bytes
  have hr := B.returns
  have hts := atoms_spec (ws := wsX3_placeOf) B.pre
  have hown : s.vm.findClass RX3 = some m.cls := findClass_of_methodNamed B.named
  have hlocks := B.notSynchronized
  have hl := lv_entry ([.ref (md 0), .int p1]) (n := 3) (Nat.le_of_ble_eq_true rfl)
  rw [lg_entry_eq]
  generalize (lg_sl ([.ref (md 0), .int p1]) ++ List.replicate (3 - (lg_sl ([.ref (md 0), .int p1])).length) Slot.unset).toArray = ls at hl ⊢
  have hl : lv_has ls 3 [(0, .ref (md 0)), (1, .int p1)] := hl
  have zw0 := hts (.fieldLink RX3 51 "LearnedLedgeModel" "rowMany" "I") (by decide +kernel)
  have zw1 := hts (.fieldLink RX3 16 "LearnedLedgeModel" "row" "[I") (by decide +kernel)
  have ziX3 : ∀ w ∈ u_ws RX3 TX3 18, w ∈ wsX3_placeOf := by decide +kernel
  refine lv_iconst (v := 0) hx hb dX3_placeOf_0 (by decide) ?_
  refine lv_istore_n (lv' := [(2, .int 0), (0, .ref (md 0)), (1, .int p1)]) hx hb dX3_placeOf_1 rfl hl (by decide) rfl (fun ls hl => ?_)
  obtain ⟨z_2, hq_2, hm⟩ := ob hm
  have K_2 : ∀ (x2_2 : Int32), z_2 = x2_2 → ∀ (ls : Array Slot), lv_has ls 3 [(2, .int x2_2)] → W p l e (headSpec wsX3_placeOf ({ frames := 0, cells := 0, slots := 0, locals := 0 } : Room)).room s m ([.ref (md 0), .int p1] : List Value).toArray below meth c s.heap [] 0 0 (MQ below (vp_Si (fun v => v = r)) ([.ref (md 0), .int p1] : List Value).toArray s 0 0 (fun _ => False)) (F0 m 26 ls []) := by
    intro x2_2 ez ls hl
    rw [ez] at hm
    refine lv_iload_n hx hb dX3_placeOf_26 rfl (lv_at hl 0 rfl) ?_
    exact W.iret hx hb hr (fun t ht hW => ⟨_, rfl, (o2 hm).symm, ht⟩) (fun q h => absurd h List.not_mem_nil) dX3_placeOf_27
  have L_2 : ∀ (n : Nat) (x2 : Int32), X3_placeOf_L2 p1 yrow yrm n x2 = some z_2 → ∀ (ls : Array Slot), lv_has ls 3 [(2, .int x2), (0, .ref (md 0)), (1, .int p1)] → W p l e (headSpec wsX3_placeOf ({ frames := 0, cells := 0, slots := 0, locals := 0 } : Room)).room s m ([.ref (md 0), .int p1] : List Value).toArray below meth c s.heap [] 0 0 (MQ below (vp_Si (fun v => v = r)) ([.ref (md 0), .int p1] : List Value).toArray s 0 0 (fun _ => False)) (F0 m 2 ls []) := by
    intro n
    induction n with
    | zero => intro x2 hm; cases hm
    | succ n ih_2 =>
      intro x2 hm ls hl
      refine lv_iload_n hx hb dX3_placeOf_2 rfl (lv_at hl 0 rfl) ?_
      refine lv_aload_n hx hb dX3_placeOf_3 rfl (lv_at hl 1 rfl) ?_
      refine va_get (D := (dC, dI)) (ci := 3) (v := .int yrm) (C := RX3) (T := TX3) (N := 18) hx hb hts ziX3 hown hK hP 0 rfl rfl 5 (by decide) zw0 (fun _ h9 => h9) rfl dX3_placeOf_4 ?_
      refine lv_icmp_ge (tgt := 26) hx hb dX3_placeOf_7 (by decide) (fun c_7 => ?_) (fun c_7 => ?_)
      · have hm := it_t hm c_7
        exact K_2 x2 (o2 hm) _ (lv_sub hl [0] rfl)
      · have hm := it_f hm c_7
        refine lv_aload_n hx hb dX3_placeOf_10 rfl (lv_at hl 1 rfl) ?_
        refine va_get (D := (dC, dI)) (ci := 3) (v := .ref (md 1)) (C := RX3) (T := TX3) (N := 18) hx hb hts ziX3 hown hK hP 0 rfl rfl 3 (by decide) zw1 (fun _ h9 => h9) rfl dX3_placeOf_11 ?_
        refine lv_iload_n hx hb dX3_placeOf_14 rfl (lv_at hl 0 rfl) ?_
        obtain ⟨c_15, hm⟩ := ck hm
        refine va_iald hx hb hK hP 1 0 rfl rfl c_15 dX3_placeOf_15 ?_
        refine lv_iload_n hx hb dX3_placeOf_16 rfl (lv_at hl 2 rfl) ?_
        refine lv_icmp_ge (tgt := 26) hx hb dX3_placeOf_17 (by decide) (fun c_17 => ?_) (fun c_17 => ?_)
        · have hm := it_t hm c_17
          exact K_2 x2 (o2 hm) _ (lv_sub hl [0] rfl)
        · have hm := it_f hm c_17
          obtain ⟨x2_1, e_x2_1⟩ : ∃ y : Int32, y = x2 + 1 := ⟨_, rfl⟩
          have hm := bnd_e hm e_x2_1
          refine lv_iinc (v := x2_1) (lv' := [(2, .int x2_1), (0, .ref (md 0)), (1, .int p1)]) hx hb dX3_placeOf_20 hl (k := 0) rfl (by rw [e_x2_1]; rfl) (by decide) rfl (fun ls hl => ?_)
          refine lv_goto (tgt := 2) hx hb dX3_placeOf_23 (by decide) ?_
          exact ih_2 x2_1 hm _ (lv_sub hl [0, 1, 2] rfl)
  exact L_2 F 0 hq_2 _ (lv_sub hl [0, 1, 2] rfl)
set_option maxHeartbeats 4000000 in
set_option maxRecDepth 100000 in
theorem c_X3_isInRow (l : Launch) (dC : Nat → ClassId) (dI : Nat → Nat → Nat) (cI : ClassId) (cZ : ClassId) (md : Nat → Nat) (yth : Int32) (ybd : Int32) (yro : Int32) (yrow : Nat → Int32) (ymk : Nat → Int32) (yrm : Int32) (yst : Nat → Int32) (ypc : Int32) (ybu : Nat → Int32) (ybn : Int32) (ymg : Int32) (ysp : Int32) (yjn : Int32) (ymd : Nat → Int32) (ybg : Nat → Int32) (ymm : Int32) (yup : Int64) (yun : Int64) (F : Nat) (p1 : Int32) (r : Int32) (hm : X3_isInRow F yrow yrm p1 = some r) : Met l yX3_isInRow wsX3_isInRow ({ frames := 1, cells := 0, slots := 0, locals := 22 }) (va_Pc [.ref (md 0), .int p1] (zR (dC, dI) (wM cI cZ md yth ybd yro yrow ymk yrm yst ypc ybu ybn ymg ysp yjn ymd ybg ymm yup yun) [(cI, .int), (cZ, .boolean)])) (vp_Si (fun v => v = r)) 0 0 (fun _ => False) := by
  refine Met.ofW (cc := cX3_isInRow) (maxL := 3) (ret := (some .boolean)) (by decide) rfl ?_
  intro p e s m args below meth c s₁ B hml hv
  obtain ⟨rfl, hP, hK⟩ := hv
  have hx := B.exec
  have hb := B.bytes
  have hr := B.returns
  have hts := atoms_spec (ws := wsX3_isInRow) B.pre
  have hown : s.vm.findClass RX3 = some m.cls := findClass_of_methodNamed B.named
  have hlocks := B.notSynchronized
  have hl := lv_entry ([.ref (md 0), .int p1]) (n := 3) (Nat.le_of_ble_eq_true rfl)
  rw [lg_entry_eq]
  generalize (lg_sl ([.ref (md 0), .int p1]) ++ List.replicate (3 - (lg_sl ([.ref (md 0), .int p1])).length) Slot.unset).toArray = ls at hl ⊢
  have hl : lv_has ls 3 [(0, .ref (md 0)), (1, .int p1)] := hl
  have zw0 := hts (.fieldLink RX3 51 "LearnedLedgeModel" "rowMany" "I") (by decide +kernel)
  have zw1 := hts (.fieldLink RX3 16 "LearnedLedgeModel" "row" "[I") (by decide +kernel)
  have ziX3 : ∀ w ∈ u_ws RX3 TX3 18, w ∈ wsX3_isInRow := by decide +kernel
  refine lv_aload_n hx hb dX3_isInRow_0 rfl (lv_at hl 0 rfl) ?_
  refine lv_iload_n hx hb dX3_isInRow_1 rfl (lv_at hl 1 rfl) ?_
  obtain ⟨r2, h_2, hm⟩ := ob hm
  refine z_callRi (As := [.int p1]) (rest := []) (ci := 3) (q := (RX3, TX3, 18)) ⟨hx, hb, hml, hown, hts⟩ (c_X3_placeOf l dC dI cI cZ md yth ybd yro yrow ymk yrm yst ypc ybu ybn ymg ysp yjn ymd ybg ymm yup yun F p1 r2 h_2) (cwV 1 hts gX3_isInRow_X3_placeOf rfl rfl rfl kv_X3_placeOf ⟨Nat.le_of_ble_eq_true rfl, Nat.le_of_ble_eq_true rfl⟩) hK hP rfl rfl rfl rfl hl.1 rfl (Nat.le_of_ble_eq_true rfl) dX3_isInRow_2 ⟨Nat.zero_le _, Nat.zero_le _⟩ ?_
  refine lv_istore_n (lv' := [(2, .int r2), (0, .ref (md 0)), (1, .int p1)]) hx hb dX3_isInRow_5 rfl hl (by decide) rfl (fun ls hl => ?_)
  refine lv_iload_n hx hb dX3_isInRow_6 rfl (lv_at hl 0 rfl) ?_
  refine lv_aload_n hx hb dX3_isInRow_7 rfl (lv_at hl 1 rfl) ?_
  refine va_get (D := (dC, dI)) (ci := 3) (v := .int yrm) (C := RX3) (T := TX3) (N := 18) hx hb hts ziX3 hown hK hP 0 rfl rfl 5 (by decide) zw0 (fun _ h9 => h9) rfl dX3_isInRow_8 ?_
  refine lv_icmp_ge (tgt := 28) hx hb dX3_isInRow_11 (by decide) (fun c_11 => ?_) (fun c_11 => ?_)
  · have hm := it_t hm c_11
    refine lv_iconst (v := 0) hx hb dX3_isInRow_28 (by decide) ?_
    exact W.zret hx hb hr rfl (fun t ht hW => ⟨_, rfl, (o2 hm).symm, ht⟩) (fun q h => absurd h List.not_mem_nil) dX3_isInRow_29
  · have hm := it_f hm c_11
    refine lv_aload_n hx hb dX3_isInRow_14 rfl (lv_at hl 1 rfl) ?_
    refine va_get (D := (dC, dI)) (ci := 3) (v := .ref (md 1)) (C := RX3) (T := TX3) (N := 18) hx hb hts ziX3 hown hK hP 0 rfl rfl 3 (by decide) zw1 (fun _ h9 => h9) rfl dX3_isInRow_15 ?_
    refine lv_iload_n hx hb dX3_isInRow_18 rfl (lv_at hl 0 rfl) ?_
    obtain ⟨c_19, hm⟩ := ck hm
    refine va_iald hx hb hK hP 1 0 rfl rfl c_19 dX3_isInRow_19 ?_
    refine lv_iload_n hx hb dX3_isInRow_20 rfl (lv_at hl 2 rfl) ?_
    refine lv_icmp_ne (tgt := 28) hx hb dX3_isInRow_21 (by decide) (fun c_21 => ?_) (fun c_21 => ?_)
    · have hm := it_f hm c_21
      refine lv_iconst (v := 0) hx hb dX3_isInRow_28 (by decide) ?_
      exact W.zret hx hb hr rfl (fun t ht hW => ⟨_, rfl, (o2 hm).symm, ht⟩) (fun q h => absurd h List.not_mem_nil) dX3_isInRow_29
    · have hm := it_t hm c_21
      refine lv_iconst (v := 1) hx hb dX3_isInRow_24 (by decide) ?_
      refine lv_goto (tgt := 29) hx hb dX3_isInRow_25 (by decide) ?_
      exact W.zret hx hb hr rfl (fun t ht hW => ⟨_, rfl, (o2 hm).symm, ht⟩) (fun q h => absurd h List.not_mem_nil) dX3_isInRow_29
set_option maxHeartbeats 4000000 in
set_option maxRecDepth 100000 in
theorem c_X3_isBuffered (l : Launch) (dC : Nat → ClassId) (dI : Nat → Nat → Nat) (cI : ClassId) (cZ : ClassId) (md : Nat → Nat) (yth : Int32) (ybd : Int32) (yro : Int32) (yrow : Nat → Int32) (ymk : Nat → Int32) (yrm : Int32) (yst : Nat → Int32) (ypc : Int32) (ybu : Nat → Int32) (ybn : Int32) (ymg : Int32) (ysp : Int32) (yjn : Int32) (ymd : Nat → Int32) (ybg : Nat → Int32) (ymm : Int32) (yup : Int64) (yun : Int64) (F : Nat) (p1 : Int32) (r : Int32) (hm : X3_isBuffered F ybu ybn p1 = some r) : Met l yX3_isBuffered wsX3_isBuffered ({ frames := 0, cells := 0, slots := 0, locals := 0 }) (va_Pc [.ref (md 0), .int p1] (zR (dC, dI) (wM cI cZ md yth ybd yro yrow ymk yrm yst ypc ybu ybn ymg ysp yjn ymd ybg ymm yup yun) [(cI, .int), (cZ, .boolean)])) (vp_Si (fun v => v = r)) 0 0 (fun _ => False) := by
  refine Met.ofW (cc := cX3_isBuffered) (maxL := 4) (ret := (some .boolean)) (by decide) rfl ?_
  intro p e s m args below meth c s₁ B hml hv
  obtain ⟨rfl, hP, hK⟩ := hv
  have hx := B.exec
  have hb := B.bytes
  have hr := B.returns
  have hts := atoms_spec (ws := wsX3_isBuffered) B.pre
  have hown : s.vm.findClass RX3 = some m.cls := findClass_of_methodNamed B.named
  have hlocks := B.notSynchronized
  have hl := lv_entry ([.ref (md 0), .int p1]) (n := 4) (Nat.le_of_ble_eq_true rfl)
  rw [lg_entry_eq]
  generalize (lg_sl ([.ref (md 0), .int p1]) ++ List.replicate (4 - (lg_sl ([.ref (md 0), .int p1])).length) Slot.unset).toArray = ls at hl ⊢
  have hl : lv_has ls 4 [(0, .ref (md 0)), (1, .int p1)] := hl
  have zw0 := hts (.fieldLink RX3 69 "LearnedLedgeModel" "buffered" "I") (by decide +kernel)
  have zw1 := hts (.fieldLink RX3 27 "LearnedLedgeModel" "buffer" "[I") (by decide +kernel)
  have ziX3 : ∀ w ∈ u_ws RX3 TX3 18, w ∈ wsX3_isBuffered := by decide +kernel
  refine lv_iconst (v := 0) hx hb dX3_isBuffered_0 (by decide) ?_
  refine lv_istore_n (lv' := [(2, .int 0), (0, .ref (md 0)), (1, .int p1)]) hx hb dX3_isBuffered_1 rfl hl (by decide) rfl (fun ls hl => ?_)
  refine lv_iconst (v := 0) hx hb dX3_isBuffered_2 (by decide) ?_
  refine lv_istore_n (lv' := [(3, .int 0), (2, .int 0), (0, .ref (md 0)), (1, .int p1)]) hx hb dX3_isBuffered_3 rfl hl (by decide) rfl (fun ls hl => ?_)
  obtain ⟨z_4, hq_4, hm⟩ := ob hm
  have K_4 : ∀ (x2_1 : Int32), z_4 = x2_1 → ∀ (ls : Array Slot), lv_has ls 4 [(2, .int x2_1)] → W p l e (headSpec wsX3_isBuffered ({ frames := 0, cells := 0, slots := 0, locals := 0 } : Room)).room s m ([.ref (md 0), .int p1] : List Value).toArray below meth c s.heap [] 0 0 (MQ below (vp_Si (fun v => v = r)) ([.ref (md 0), .int p1] : List Value).toArray s 0 0 (fun _ => False)) (F0 m 38 ls []) := by
    intro x2_1 ez ls hl
    rw [ez] at hm
    refine lv_iload_n hx hb dX3_isBuffered_38 rfl (lv_at hl 0 rfl) ?_
    obtain ⟨c_39, hm⟩ := ck hm
    exact W.zret hx hb hr (nar_b c_39) (fun t ht hW => ⟨_, rfl, (o2 hm).symm, ht⟩) (fun q h => absurd h List.not_mem_nil) dX3_isBuffered_39
  have L_4 : ∀ (n : Nat) (x3 : Int32) (x2 : Int32), X3_isBuffered_L4 p1 ybu ybn n x3 x2 = some z_4 → ∀ (ls : Array Slot), lv_has ls 4 [(3, .int x3), (2, .int x2), (0, .ref (md 0)), (1, .int p1)] → W p l e (headSpec wsX3_isBuffered ({ frames := 0, cells := 0, slots := 0, locals := 0 } : Room)).room s m ([.ref (md 0), .int p1] : List Value).toArray below meth c s.heap [] 0 0 (MQ below (vp_Si (fun v => v = r)) ([.ref (md 0), .int p1] : List Value).toArray s 0 0 (fun _ => False)) (F0 m 4 ls []) := by
    intro n
    induction n with
    | zero => intro x3 x2 hm; cases hm
    | succ n ih_4 =>
      intro x3 x2 hm ls hl
      refine lv_iload_n hx hb dX3_isBuffered_4 rfl (lv_at hl 0 rfl) ?_
      refine lv_aload_n hx hb dX3_isBuffered_5 rfl (lv_at hl 2 rfl) ?_
      refine va_get (D := (dC, dI)) (ci := 3) (v := .int ybn) (C := RX3) (T := TX3) (N := 18) hx hb hts ziX3 hown hK hP 0 rfl rfl 9 (by decide) zw0 (fun _ h9 => h9) rfl dX3_isBuffered_6 ?_
      refine lv_icmp_ge (tgt := 38) hx hb dX3_isBuffered_9 (by decide) (fun c_9 => ?_) (fun c_9 => ?_)
      · have hm := it_t hm c_9
        exact K_4 x2 (o2 hm) _ (lv_sub hl [1] rfl)
      · have hm := it_f hm c_9
        refine lv_iload_n hx hb dX3_isBuffered_12 rfl (lv_at hl 1 rfl) ?_
        refine lv_if_ne (tgt := 26) hx hb dX3_isBuffered_13 (by decide) (fun c_13 => ?_) (fun c_13 => ?_)
        · have hm := it_f hm c_13
          refine lv_iconst (v := 1) hx hb dX3_isBuffered_26 (by decide) ?_
          refine lv_goto (tgt := 31) hx hb dX3_isBuffered_27 (by decide) ?_
          refine lv_istore_n (lv' := [(2, .int 1), (3, .int x3), (0, .ref (md 0)), (1, .int p1)]) hx hb dX3_isBuffered_31 rfl hl (by decide) rfl (fun ls hl => ?_)
          obtain ⟨x3_1, e_x3_1⟩ : ∃ y : Int32, y = x3 + 1 := ⟨_, rfl⟩
          have hm := bnd_e hm e_x3_1
          refine lv_iinc (v := x3_1) (lv' := [(3, .int x3_1), (2, .int 1), (0, .ref (md 0)), (1, .int p1)]) hx hb dX3_isBuffered_32 hl (k := 1) rfl (by rw [e_x3_1]; rfl) (by decide) rfl (fun ls hl => ?_)
          refine lv_goto (tgt := 4) hx hb dX3_isBuffered_35 (by decide) ?_
          exact ih_4 x3_1 1 hm _ (lv_sub hl [0, 1, 2, 3] rfl)
        · have hm := it_t hm c_13
          refine lv_aload_n hx hb dX3_isBuffered_16 rfl (lv_at hl 2 rfl) ?_
          refine va_get (D := (dC, dI)) (ci := 3) (v := .ref (md 4)) (C := RX3) (T := TX3) (N := 18) hx hb hts ziX3 hown hK hP 0 rfl rfl 8 (by decide) zw1 (fun _ h9 => h9) rfl dX3_isBuffered_17 ?_
          refine lv_iload_n hx hb dX3_isBuffered_20 rfl (lv_at hl 0 rfl) ?_
          obtain ⟨c_21, hm⟩ := ck hm
          refine va_iald hx hb hK hP 4 0 rfl rfl c_21 dX3_isBuffered_21 ?_
          refine lv_iload_n hx hb dX3_isBuffered_22 rfl (lv_at hl 3 rfl) ?_
          refine lv_icmp_ne (tgt := 30) hx hb dX3_isBuffered_23 (by decide) (fun c_23 => ?_) (fun c_23 => ?_)
          · have hm := it_f hm c_23
            refine lv_iconst (v := 0) hx hb dX3_isBuffered_30 (by decide) ?_
            refine lv_istore_n (lv' := [(2, .int 0), (3, .int x3), (0, .ref (md 0)), (1, .int p1)]) hx hb dX3_isBuffered_31 rfl hl (by decide) rfl (fun ls hl => ?_)
            obtain ⟨x3_2, e_x3_2⟩ : ∃ y : Int32, y = x3 + 1 := ⟨_, rfl⟩
            have hm := bnd_e hm e_x3_2
            refine lv_iinc (v := x3_2) (lv' := [(3, .int x3_2), (2, .int 0), (0, .ref (md 0)), (1, .int p1)]) hx hb dX3_isBuffered_32 hl (k := 1) rfl (by rw [e_x3_2]; rfl) (by decide) rfl (fun ls hl => ?_)
            refine lv_goto (tgt := 4) hx hb dX3_isBuffered_35 (by decide) ?_
            exact ih_4 x3_2 0 hm _ (lv_sub hl [0, 1, 2, 3] rfl)
          · have hm := it_t hm c_23
            refine lv_iconst (v := 1) hx hb dX3_isBuffered_26 (by decide) ?_
            refine lv_goto (tgt := 31) hx hb dX3_isBuffered_27 (by decide) ?_
            refine lv_istore_n (lv' := [(2, .int 1), (3, .int x3), (0, .ref (md 0)), (1, .int p1)]) hx hb dX3_isBuffered_31 rfl hl (by decide) rfl (fun ls hl => ?_)
            obtain ⟨x3_3, e_x3_3⟩ : ∃ y : Int32, y = x3 + 1 := ⟨_, rfl⟩
            have hm := bnd_e hm e_x3_3
            refine lv_iinc (v := x3_3) (lv' := [(3, .int x3_3), (2, .int 1), (0, .ref (md 0)), (1, .int p1)]) hx hb dX3_isBuffered_32 hl (k := 1) rfl (by rw [e_x3_3]; rfl) (by decide) rfl (fun ls hl => ?_)
            refine lv_goto (tgt := 4) hx hb dX3_isBuffered_35 (by decide) ?_
            exact ih_4 x3_3 1 hm _ (lv_sub hl [0, 1, 2, 3] rfl)
  exact L_4 F 0 0 hq_4 _ (lv_sub hl [0, 1, 2, 3] rfl)
set_option maxHeartbeats 4000000 in
set_option maxRecDepth 100000 in
theorem c_X3_isThere (l : Launch) (dC : Nat → ClassId) (dI : Nat → Nat → Nat) (cI : ClassId) (cZ : ClassId) (md : Nat → Nat) (yth : Int32) (ybd : Int32) (yro : Int32) (yrow : Nat → Int32) (ymk : Nat → Int32) (yrm : Int32) (yst : Nat → Int32) (ypc : Int32) (ybu : Nat → Int32) (ybn : Int32) (ymg : Int32) (ysp : Int32) (yjn : Int32) (ymd : Nat → Int32) (ybg : Nat → Int32) (ymm : Int32) (yup : Int64) (yun : Int64) (F : Nat) (p1 : Int32) (r : Int32) (hm : X3_isThere F yrow ymk yrm ybu ybn p1 = some r) : Met l yX3_isThere wsX3_isThere ({ frames := 2, cells := 0, slots := 0, locals := 44 }) (va_Pc [.ref (md 0), .int p1] (zR (dC, dI) (wM cI cZ md yth ybd yro yrow ymk yrm yst ypc ybu ybn ymg ysp yjn ymd ybg ymm yup yun) [(cI, .int), (cZ, .boolean)])) (vp_Si (fun v => v = r)) 0 0 (fun _ => False) := by
  refine Met.ofW (cc := cX3_isThere) (maxL := 2) (ret := (some .boolean)) (by decide) rfl ?_
  intro p e s m args below meth c s₁ B hml hv
  obtain ⟨rfl, hP, hK⟩ := hv
  have hx := B.exec
  have hb := B.bytes
  have hr := B.returns
  have hts := atoms_spec (ws := wsX3_isThere) B.pre
  have hown : s.vm.findClass RX3 = some m.cls := findClass_of_methodNamed B.named
  have hlocks := B.notSynchronized
  have hl := lv_entry ([.ref (md 0), .int p1]) (n := 2) (Nat.le_of_ble_eq_true rfl)
  rw [lg_entry_eq]
  generalize (lg_sl ([.ref (md 0), .int p1]) ++ List.replicate (2 - (lg_sl ([.ref (md 0), .int p1])).length) Slot.unset).toArray = ls at hl ⊢
  have hl : lv_has ls 2 [(0, .ref (md 0)), (1, .int p1)] := hl
  have zw0 := hts (.fieldLink RX3 20 "LearnedLedgeModel" "isMarked" "[Z") (by decide +kernel)
  have ziX3 : ∀ w ∈ u_ws RX3 TX3 18, w ∈ wsX3_isThere := by decide +kernel
  refine lv_aload_n hx hb dX3_isThere_0 rfl (lv_at hl 0 rfl) ?_
  refine lv_iload_n hx hb dX3_isThere_1 rfl (lv_at hl 1 rfl) ?_
  obtain ⟨r2, h_2, hm⟩ := ob hm
  refine z_callRi (As := [.int p1]) (rest := []) (ci := 3) (q := (RX3, TX3, 18)) ⟨hx, hb, hml, hown, hts⟩ (c_X3_isBuffered l dC dI cI cZ md yth ybd yro yrow ymk yrm yst ypc ybu ybn ymg ysp yjn ymd ybg ymm yup yun F p1 r2 h_2) (cwV 1 hts gX3_isThere_X3_isBuffered rfl rfl rfl kv_X3_isBuffered ⟨Nat.le_of_ble_eq_true rfl, Nat.le_of_ble_eq_true rfl⟩) hK hP rfl rfl rfl rfl hl.1 rfl (Nat.le_of_ble_eq_true rfl) dX3_isThere_2 ⟨Nat.zero_le _, Nat.zero_le _⟩ ?_
  refine lv_if_ne (tgt := 29) hx hb dX3_isThere_5 (by decide) (fun c_5 => ?_) (fun c_5 => ?_)
  · have hm := it_f hm c_5
    refine lv_iconst (v := 1) hx hb dX3_isThere_29 (by decide) ?_
    refine lv_goto (tgt := 34) hx hb dX3_isThere_30 (by decide) ?_
    exact W.zret hx hb hr rfl (fun t ht hW => ⟨_, rfl, (o2 hm).symm, ht⟩) (fun q h => absurd h List.not_mem_nil) dX3_isThere_34
  · have hm := it_t hm c_5
    refine lv_aload_n hx hb dX3_isThere_8 rfl (lv_at hl 0 rfl) ?_
    refine lv_iload_n hx hb dX3_isThere_9 rfl (lv_at hl 1 rfl) ?_
    obtain ⟨r10, h_10, hm⟩ := ob hm
    refine z_callRi (As := [.int p1]) (rest := []) (ci := 3) (q := (RX3, TX3, 18)) ⟨hx, hb, hml, hown, hts⟩ (c_X3_isInRow l dC dI cI cZ md yth ybd yro yrow ymk yrm yst ypc ybu ybn ymg ysp yjn ymd ybg ymm yup yun F p1 r10 h_10) (cwV 1 hts gX3_isThere_X3_isInRow rfl rfl rfl kv_X3_isInRow ⟨Nat.le_of_ble_eq_true rfl, Nat.le_of_ble_eq_true rfl⟩) hK hP rfl rfl rfl rfl hl.1 rfl (Nat.le_of_ble_eq_true rfl) dX3_isThere_10 ⟨Nat.zero_le _, Nat.zero_le _⟩ ?_
    refine lv_if_eq (tgt := 33) hx hb dX3_isThere_13 (by decide) (fun c_13 => ?_) (fun c_13 => ?_)
    · have hm := it_t hm c_13
      refine lv_iconst (v := 0) hx hb dX3_isThere_33 (by decide) ?_
      exact W.zret hx hb hr rfl (fun t ht hW => ⟨_, rfl, (o2 hm).symm, ht⟩) (fun q h => absurd h List.not_mem_nil) dX3_isThere_34
    · have hm := it_f hm c_13
      refine lv_aload_n hx hb dX3_isThere_16 rfl (lv_at hl 0 rfl) ?_
      refine va_get (D := (dC, dI)) (ci := 3) (v := .ref (md 2)) (C := RX3) (T := TX3) (N := 18) hx hb hts ziX3 hown hK hP 0 rfl rfl 4 (by decide) zw0 (fun _ h9 => h9) rfl dX3_isThere_17 ?_
      refine lv_aload_n hx hb dX3_isThere_20 rfl (lv_at hl 0 rfl) ?_
      refine lv_iload_n hx hb dX3_isThere_21 rfl (lv_at hl 1 rfl) ?_
      obtain ⟨r22, h_22, hm⟩ := ob hm
      refine z_callRi (As := [.int p1]) (rest := [.ref (md 2)]) (ci := 3) (q := (RX3, TX3, 18)) ⟨hx, hb, hml, hown, hts⟩ (c_X3_placeOf l dC dI cI cZ md yth ybd yro yrow ymk yrm yst ypc ybu ybn ymg ysp yjn ymd ybg ymm yup yun F p1 r22 h_22) (cwV 1 hts gX3_isThere_X3_placeOf rfl rfl rfl kv_X3_placeOf ⟨Nat.le_of_ble_eq_true rfl, Nat.le_of_ble_eq_true rfl⟩) hK hP rfl rfl rfl rfl hl.1 rfl (Nat.le_of_ble_eq_true rfl) dX3_isThere_22 ⟨Nat.zero_le _, Nat.zero_le _⟩ ?_
      obtain ⟨c_25, hm⟩ := ck hm
      refine va_zald hx hb hK hP 2 1 rfl rfl c_25 dX3_isThere_25 ?_
      refine lv_if_ne (tgt := 33) hx hb dX3_isThere_26 (by decide) (fun c_26 => ?_) (fun c_26 => ?_)
      · have hm := it_f hm c_26
        refine lv_iconst (v := 0) hx hb dX3_isThere_33 (by decide) ?_
        exact W.zret hx hb hr rfl (fun t ht hW => ⟨_, rfl, (o2 hm).symm, ht⟩) (fun q h => absurd h List.not_mem_nil) dX3_isThere_34
      · have hm := it_t hm c_26
        refine lv_iconst (v := 1) hx hb dX3_isThere_29 (by decide) ?_
        refine lv_goto (tgt := 34) hx hb dX3_isThere_30 (by decide) ?_
        exact W.zret hx hb hr rfl (fun t ht hW => ⟨_, rfl, (o2 hm).symm, ht⟩) (fun q h => absurd h List.not_mem_nil) dX3_isThere_34
set_option maxHeartbeats 4000000 in
set_option maxRecDepth 100000 in
theorem c_X3_pieceOf (l : Launch) (dC : Nat → ClassId) (dI : Nat → Nat → Nat) (cI : ClassId) (cZ : ClassId) (md : Nat → Nat) (yth : Int32) (ybd : Int32) (yro : Int32) (yrow : Nat → Int32) (ymk : Nat → Int32) (yrm : Int32) (yst : Nat → Int32) (ypc : Int32) (ybu : Nat → Int32) (ybn : Int32) (ymg : Int32) (ysp : Int32) (yjn : Int32) (ymd : Nat → Int32) (ybg : Nat → Int32) (ymm : Int32) (yup : Int64) (yun : Int64) (F : Nat) (p1 : Int32) (r : Int32) (hm : X3_pieceOf F yrow yst ypc p1 = some r) : Met l yX3_pieceOf wsX3_pieceOf ({ frames := 0, cells := 0, slots := 0, locals := 0 }) (va_Pc [.ref (md 0), .int p1] (zR (dC, dI) (wM cI cZ md yth ybd yro yrow ymk yrm yst ypc ybu ybn ymg ysp yjn ymd ybg ymm yup yun) [(cI, .int), (cZ, .boolean)])) (vp_Si (fun v => v = r)) 0 0 (fun _ => False) := by
  refine Met.ofW (cc := cX3_pieceOf) (maxL := 4) (ret := (some .int)) (by decide) rfl ?_
  intro p e s m args below meth c s₁ B hml hv
  obtain ⟨rfl, hP, hK⟩ := hv
  have hx := B.exec
  have hb := B.bytes
  have hr := B.returns
  have hts := atoms_spec (ws := wsX3_pieceOf) B.pre
  have hown : s.vm.findClass RX3 = some m.cls := findClass_of_methodNamed B.named
  have hlocks := B.notSynchronized
  have hl := lv_entry ([.ref (md 0), .int p1]) (n := 4) (Nat.le_of_ble_eq_true rfl)
  rw [lg_entry_eq]
  generalize (lg_sl ([.ref (md 0), .int p1]) ++ List.replicate (4 - (lg_sl ([.ref (md 0), .int p1])).length) Slot.unset).toArray = ls at hl ⊢
  have hl : lv_has ls 4 [(0, .ref (md 0)), (1, .int p1)] := hl
  have zw0 := hts (.fieldLink RX3 48 "LearnedLedgeModel" "pieces" "I") (by decide +kernel)
  have zw1 := hts (.fieldLink RX3 16 "LearnedLedgeModel" "row" "[I") (by decide +kernel)
  have zw2 := hts (.fieldLink RX3 24 "LearnedLedgeModel" "start" "[I") (by decide +kernel)
  have ziX3 : ∀ w ∈ u_ws RX3 TX3 18, w ∈ wsX3_pieceOf := by decide +kernel
  refine lv_iconst (v := (-1)) hx hb dX3_pieceOf_0 (by decide) ?_
  refine lv_istore_n (lv' := [(2, .int (-1)), (0, .ref (md 0)), (1, .int p1)]) hx hb dX3_pieceOf_1 rfl hl (by decide) rfl (fun ls hl => ?_)
  refine lv_iconst (v := 0) hx hb dX3_pieceOf_2 (by decide) ?_
  refine lv_istore_n (lv' := [(3, .int 0), (2, .int (-1)), (0, .ref (md 0)), (1, .int p1)]) hx hb dX3_pieceOf_3 rfl hl (by decide) rfl (fun ls hl => ?_)
  obtain ⟨z_4, hq_4, hm⟩ := ob hm
  have K_4 : ∀ (x2_1 : Int32), z_4 = x2_1 → ∀ (ls : Array Slot), lv_has ls 4 [(2, .int x2_1)] → W p l e (headSpec wsX3_pieceOf ({ frames := 0, cells := 0, slots := 0, locals := 0 } : Room)).room s m ([.ref (md 0), .int p1] : List Value).toArray below meth c s.heap [] 0 0 (MQ below (vp_Si (fun v => v = r)) ([.ref (md 0), .int p1] : List Value).toArray s 0 0 (fun _ => False)) (F0 m 39 ls []) := by
    intro x2_1 ez ls hl
    rw [ez] at hm
    refine lv_iload_n hx hb dX3_pieceOf_39 rfl (lv_at hl 0 rfl) ?_
    exact W.iret hx hb hr (fun t ht hW => ⟨_, rfl, (o2 hm).symm, ht⟩) (fun q h => absurd h List.not_mem_nil) dX3_pieceOf_40
  have L_4 : ∀ (n : Nat) (x3 : Int32) (x2 : Int32), X3_pieceOf_L4 p1 yrow yst ypc n x3 x2 = some z_4 → ∀ (ls : Array Slot), lv_has ls 4 [(3, .int x3), (2, .int x2), (0, .ref (md 0)), (1, .int p1)] → W p l e (headSpec wsX3_pieceOf ({ frames := 0, cells := 0, slots := 0, locals := 0 } : Room)).room s m ([.ref (md 0), .int p1] : List Value).toArray below meth c s.heap [] 0 0 (MQ below (vp_Si (fun v => v = r)) ([.ref (md 0), .int p1] : List Value).toArray s 0 0 (fun _ => False)) (F0 m 4 ls []) := by
    intro n
    induction n with
    | zero => intro x3 x2 hm; cases hm
    | succ n ih_4 =>
      intro x3 x2 hm ls hl
      refine lv_iload_n hx hb dX3_pieceOf_4 rfl (lv_at hl 0 rfl) ?_
      refine lv_aload_n hx hb dX3_pieceOf_5 rfl (lv_at hl 2 rfl) ?_
      refine va_get (D := (dC, dI)) (ci := 3) (v := .int ypc) (C := RX3) (T := TX3) (N := 18) hx hb hts ziX3 hown hK hP 0 rfl rfl 7 (by decide) zw0 (fun _ h9 => h9) rfl dX3_pieceOf_6 ?_
      refine lv_icmp_ge (tgt := 39) hx hb dX3_pieceOf_9 (by decide) (fun c_9 => ?_) (fun c_9 => ?_)
      · have hm := it_t hm c_9
        exact K_4 x2 (o2 hm) _ (lv_sub hl [1] rfl)
      · have hm := it_f hm c_9
        refine lv_aload_n hx hb dX3_pieceOf_12 rfl (lv_at hl 2 rfl) ?_
        refine va_get (D := (dC, dI)) (ci := 3) (v := .ref (md 1)) (C := RX3) (T := TX3) (N := 18) hx hb hts ziX3 hown hK hP 0 rfl rfl 3 (by decide) zw1 (fun _ h9 => h9) rfl dX3_pieceOf_13 ?_
        refine lv_aload_n hx hb dX3_pieceOf_16 rfl (lv_at hl 2 rfl) ?_
        refine va_get (D := (dC, dI)) (ci := 3) (v := .ref (md 3)) (C := RX3) (T := TX3) (N := 18) hx hb hts ziX3 hown hK hP 0 rfl rfl 6 (by decide) zw2 (fun _ h9 => h9) rfl dX3_pieceOf_17 ?_
        refine lv_iload_n hx hb dX3_pieceOf_20 rfl (lv_at hl 0 rfl) ?_
        obtain ⟨c_21, hm⟩ := ck hm
        refine va_iald hx hb hK hP 3 0 rfl rfl c_21 dX3_pieceOf_21 ?_
        obtain ⟨c_22, hm⟩ := ck hm
        refine va_iald hx hb hK hP 1 0 rfl rfl c_22 dX3_pieceOf_22 ?_
        refine lv_iload_n hx hb dX3_pieceOf_23 rfl (lv_at hl 3 rfl) ?_
        refine lv_icmp_gt (tgt := 31) hx hb dX3_pieceOf_24 (by decide) (fun c_24 => ?_) (fun c_24 => ?_)
        · have hm := it_t hm c_24
          refine lv_iload_n hx hb dX3_pieceOf_31 rfl (lv_at hl 1 rfl) ?_
          refine lv_istore_n (lv' := [(2, .int x2), (3, .int x3), (0, .ref (md 0)), (1, .int p1)]) hx hb dX3_pieceOf_32 rfl hl (by decide) rfl (fun ls hl => ?_)
          obtain ⟨x3_1, e_x3_1⟩ : ∃ y : Int32, y = x3 + 1 := ⟨_, rfl⟩
          have hm := bnd_e hm e_x3_1
          refine lv_iinc (v := x3_1) (lv' := [(3, .int x3_1), (2, .int x2), (0, .ref (md 0)), (1, .int p1)]) hx hb dX3_pieceOf_33 hl (k := 1) rfl (by rw [e_x3_1]; rfl) (by decide) rfl (fun ls hl => ?_)
          refine lv_goto (tgt := 4) hx hb dX3_pieceOf_36 (by decide) ?_
          exact ih_4 x3_1 x2 hm _ (lv_sub hl [0, 1, 2, 3] rfl)
        · have hm := it_f hm c_24
          refine lv_iload_n hx hb dX3_pieceOf_27 rfl (lv_at hl 0 rfl) ?_
          refine lv_goto (tgt := 32) hx hb dX3_pieceOf_28 (by decide) ?_
          refine lv_istore_n (lv' := [(2, .int x3), (3, .int x3), (0, .ref (md 0)), (1, .int p1)]) hx hb dX3_pieceOf_32 rfl hl (by decide) rfl (fun ls hl => ?_)
          obtain ⟨x3_2, e_x3_2⟩ : ∃ y : Int32, y = x3 + 1 := ⟨_, rfl⟩
          have hm := bnd_e hm e_x3_2
          refine lv_iinc (v := x3_2) (lv' := [(3, .int x3_2), (2, .int x3), (0, .ref (md 0)), (1, .int p1)]) hx hb dX3_pieceOf_33 hl (k := 1) rfl (by rw [e_x3_2]; rfl) (by decide) rfl (fun ls hl => ?_)
          refine lv_goto (tgt := 4) hx hb dX3_pieceOf_36 (by decide) ?_
          exact ih_4 x3_2 x3 hm _ (lv_sub hl [0, 1, 2, 3] rfl)
  exact L_4 F 0 (-1) hq_4 _ (lv_sub hl [0, 1, 2, 3] rfl)
set_option maxHeartbeats 4000000 in
set_option maxRecDepth 100000 in
theorem c_X3_many (l : Launch) (dC : Nat → ClassId) (dI : Nat → Nat → Nat) (cI : ClassId) (cZ : ClassId) (md : Nat → Nat) (yth : Int32) (ybd : Int32) (yro : Int32) (yrow : Nat → Int32) (ymk : Nat → Int32) (yrm : Int32) (yst : Nat → Int32) (ypc : Int32) (ybu : Nat → Int32) (ybn : Int32) (ymg : Int32) (ysp : Int32) (yjn : Int32) (ymd : Nat → Int32) (ybg : Nat → Int32) (ymm : Int32) (yup : Int64) (yun : Int64) (F : Nat) (r : Int32) (hm : X3_many F yrm ybn = some r) : Met l yX3_many wsX3_many ({ frames := 0, cells := 0, slots := 0, locals := 0 }) (va_Pc [.ref (md 0)] (zR (dC, dI) (wM cI cZ md yth ybd yro yrow ymk yrm yst ypc ybu ybn ymg ysp yjn ymd ybg ymm yup yun) [(cI, .int), (cZ, .boolean)])) (vp_Si (fun v => v = r)) 0 0 (fun _ => False) := by
  refine Met.ofW (cc := cX3_many) (maxL := 1) (ret := (some .int)) (by decide) rfl ?_
  intro p e s m args below meth c s₁ B hml hv
  obtain ⟨rfl, hP, hK⟩ := hv
  have hx := B.exec
  have hb := B.bytes
  have hr := B.returns
  have hts := atoms_spec (ws := wsX3_many) B.pre
  have hown : s.vm.findClass RX3 = some m.cls := findClass_of_methodNamed B.named
  have hlocks := B.notSynchronized
  have hl := lv_entry ([.ref (md 0)]) (n := 1) (Nat.le_of_ble_eq_true rfl)
  rw [lg_entry_eq]
  generalize (lg_sl ([.ref (md 0)]) ++ List.replicate (1 - (lg_sl ([.ref (md 0)])).length) Slot.unset).toArray = ls at hl ⊢
  have hl : lv_has ls 1 [(0, .ref (md 0))] := hl
  have zw0 := hts (.fieldLink RX3 51 "LearnedLedgeModel" "rowMany" "I") (by decide +kernel)
  have zw1 := hts (.fieldLink RX3 69 "LearnedLedgeModel" "buffered" "I") (by decide +kernel)
  have ziX3 : ∀ w ∈ u_ws RX3 TX3 18, w ∈ wsX3_many := by decide +kernel
  refine lv_aload_n hx hb dX3_many_0 rfl (lv_at hl 0 rfl) ?_
  refine va_get (D := (dC, dI)) (ci := 3) (v := .int yrm) (C := RX3) (T := TX3) (N := 18) hx hb hts ziX3 hown hK hP 0 rfl rfl 5 (by decide) zw0 (fun _ h9 => h9) rfl dX3_many_1 ?_
  refine lv_aload_n hx hb dX3_many_4 rfl (lv_at hl 0 rfl) ?_
  refine va_get (D := (dC, dI)) (ci := 3) (v := .int ybn) (C := RX3) (T := TX3) (N := 18) hx hb hts ziX3 hown hK hP 0 rfl rfl 9 (by decide) zw1 (fun _ h9 => h9) rfl dX3_many_5 ?_
  refine lv_iadd hx hb dX3_many_8 ?_
  exact W.iret hx hb hr (fun t ht hW => ⟨_, rfl, (o2 hm).symm, ht⟩) (fun q h => absurd h List.not_mem_nil) dX3_many_9
set_option maxHeartbeats 4000000 in
set_option maxRecDepth 100000 in
theorem c_X3_isAbove (l : Launch) (dC : Nat → ClassId) (dI : Nat → Nat → Nat) (cI : ClassId) (cZ : ClassId) (md : Nat → Nat) (yth : Int32) (ybd : Int32) (yro : Int32) (yrow : Nat → Int32) (ymk : Nat → Int32) (yrm : Int32) (yst : Nat → Int32) (ypc : Int32) (ybu : Nat → Int32) (ybn : Int32) (ymg : Int32) (ysp : Int32) (yjn : Int32) (ymd : Nat → Int32) (ybg : Nat → Int32) (ymm : Int32) (yup : Int64) (yun : Int64) (F : Nat) (p1 : Int32) (r : Int32) (hm : X3_isAbove F yrow yrm ybu ybn p1 = some r) : Met l yX3_isAbove wsX3_isAbove ({ frames := 0, cells := 0, slots := 0, locals := 0 }) (va_Pc [.ref (md 0), .int p1] (zR (dC, dI) (wM cI cZ md yth ybd yro yrow ymk yrm yst ypc ybu ybn ymg ysp yjn ymd ybg ymm yup yun) [(cI, .int), (cZ, .boolean)])) (vp_Si (fun v => v = r)) 0 0 (fun _ => False) := by
  refine Met.ofW (cc := cX3_isAbove) (maxL := 3) (ret := (some .boolean)) (by decide) rfl ?_
  intro p e s m args below meth c s₁ B hml hv
  obtain ⟨rfl, hP, hK⟩ := hv
  have hx := B.exec
  have hb := B.bytes
  have hr := B.returns
  have hts := atoms_spec (ws := wsX3_isAbove) B.pre
  have hown : s.vm.findClass RX3 = some m.cls := findClass_of_methodNamed B.named
  have hlocks := B.notSynchronized
  have hl := lv_entry ([.ref (md 0), .int p1]) (n := 3) (Nat.le_of_ble_eq_true rfl)
  rw [lg_entry_eq]
  generalize (lg_sl ([.ref (md 0), .int p1]) ++ List.replicate (3 - (lg_sl ([.ref (md 0), .int p1])).length) Slot.unset).toArray = ls at hl ⊢
  have hl : lv_has ls 3 [(0, .ref (md 0)), (1, .int p1)] := hl
  have zw0 := hts (.fieldLink RX3 51 "LearnedLedgeModel" "rowMany" "I") (by decide +kernel)
  have zw1 := hts (.fieldLink RX3 16 "LearnedLedgeModel" "row" "[I") (by decide +kernel)
  have zw2 := hts (.fieldLink RX3 69 "LearnedLedgeModel" "buffered" "I") (by decide +kernel)
  have zw3 := hts (.fieldLink RX3 27 "LearnedLedgeModel" "buffer" "[I") (by decide +kernel)
  have ziX3 : ∀ w ∈ u_ws RX3 TX3 18, w ∈ wsX3_isAbove := by decide +kernel
  refine lv_aload_n hx hb dX3_isAbove_0 rfl (lv_at hl 0 rfl) ?_
  refine va_get (D := (dC, dI)) (ci := 3) (v := .int yrm) (C := RX3) (T := TX3) (N := 18) hx hb hts ziX3 hown hK hP 0 rfl rfl 5 (by decide) zw0 (fun _ h9 => h9) rfl dX3_isAbove_1 ?_
  obtain ⟨z_27, hq_27, hm⟩ := ob hm
  have J_27 : ∀ (y27 : Int32), z_27 = y27 → W p l e (headSpec wsX3_isAbove ({ frames := 0, cells := 0, slots := 0, locals := 0 } : Room)).room s m ([.ref (md 0), .int p1] : List Value).toArray below meth c s.heap [] 0 0 (MQ below (vp_Si (fun v => v = r)) ([.ref (md 0), .int p1] : List Value).toArray s 0 0 (fun _ => False)) (F0 m 27 ls [.int y27]) := by
    intro y27 ez
    rw [ez] at hm
    refine lv_istore_n (lv' := [(2, .int y27), (0, .ref (md 0)), (1, .int p1)]) hx hb dX3_isAbove_27 rfl hl (by decide) rfl (fun ls hl => ?_)
    refine lv_iload_n hx hb dX3_isAbove_28 rfl (lv_at hl 0 rfl) ?_
    refine lv_if_eq (tgt := 58) hx hb dX3_isAbove_29 (by decide) (fun c_29 => ?_) (fun c_29 => ?_)
    · have hm := it_t hm c_29
      refine lv_iconst (v := 0) hx hb dX3_isAbove_58 (by decide) ?_
      exact W.zret hx hb hr rfl (fun t ht hW => ⟨_, rfl, (o2 hm).symm, ht⟩) (fun q h => absurd h List.not_mem_nil) dX3_isAbove_59
    · have hm := it_f hm c_29
      refine lv_aload_n hx hb dX3_isAbove_32 rfl (lv_at hl 1 rfl) ?_
      refine va_get (D := (dC, dI)) (ci := 3) (v := .int ybn) (C := RX3) (T := TX3) (N := 18) hx hb hts ziX3 hown hK hP 0 rfl rfl 9 (by decide) zw2 (fun _ h9 => h9) rfl dX3_isAbove_33 ?_
      refine lv_if_eq (tgt := 54) hx hb dX3_isAbove_36 (by decide) (fun c_36 => ?_) (fun c_36 => ?_)
      · have hm := it_t hm c_36
        refine lv_iconst (v := 1) hx hb dX3_isAbove_54 (by decide) ?_
        refine lv_goto (tgt := 59) hx hb dX3_isAbove_55 (by decide) ?_
        exact W.zret hx hb hr rfl (fun t ht hW => ⟨_, rfl, (o2 hm).symm, ht⟩) (fun q h => absurd h List.not_mem_nil) dX3_isAbove_59
      · have hm := it_f hm c_36
        refine lv_aload_n hx hb dX3_isAbove_39 rfl (lv_at hl 1 rfl) ?_
        refine va_get (D := (dC, dI)) (ci := 3) (v := .ref (md 4)) (C := RX3) (T := TX3) (N := 18) hx hb hts ziX3 hown hK hP 0 rfl rfl 8 (by decide) zw3 (fun _ h9 => h9) rfl dX3_isAbove_40 ?_
        refine lv_aload_n hx hb dX3_isAbove_43 rfl (lv_at hl 1 rfl) ?_
        refine va_get (D := (dC, dI)) (ci := 3) (v := .int ybn) (C := RX3) (T := TX3) (N := 18) hx hb hts ziX3 hown hK hP 0 rfl rfl 9 (by decide) zw2 (fun _ h9 => h9) rfl dX3_isAbove_44 ?_
        refine lv_iconst (v := 1) hx hb dX3_isAbove_47 (by decide) ?_
        refine lv_isub hx hb dX3_isAbove_48 ?_
        obtain ⟨c_49, hm⟩ := ck hm
        refine va_iald hx hb hK hP 4 0 rfl rfl c_49 dX3_isAbove_49 ?_
        refine lv_iload_n hx hb dX3_isAbove_50 rfl (lv_at hl 2 rfl) ?_
        refine lv_icmp_ge (tgt := 58) hx hb dX3_isAbove_51 (by decide) (fun c_51 => ?_) (fun c_51 => ?_)
        · have hm := it_t hm c_51
          refine lv_iconst (v := 0) hx hb dX3_isAbove_58 (by decide) ?_
          exact W.zret hx hb hr rfl (fun t ht hW => ⟨_, rfl, (o2 hm).symm, ht⟩) (fun q h => absurd h List.not_mem_nil) dX3_isAbove_59
        · have hm := it_f hm c_51
          refine lv_iconst (v := 1) hx hb dX3_isAbove_54 (by decide) ?_
          refine lv_goto (tgt := 59) hx hb dX3_isAbove_55 (by decide) ?_
          exact W.zret hx hb hr rfl (fun t ht hW => ⟨_, rfl, (o2 hm).symm, ht⟩) (fun q h => absurd h List.not_mem_nil) dX3_isAbove_59
  have hm := hq_27
  refine lv_if_eq (tgt := 22) hx hb dX3_isAbove_4 (by decide) (fun c_4 => ?_) (fun c_4 => ?_)
  · have hm := it_t hm c_4
    refine lv_iconst (v := 1) hx hb dX3_isAbove_22 (by decide) ?_
    refine lv_goto (tgt := 27) hx hb dX3_isAbove_23 (by decide) ?_
    exact J_27 1 (o2 hm)
  · have hm := it_f hm c_4
    refine lv_aload_n hx hb dX3_isAbove_7 rfl (lv_at hl 0 rfl) ?_
    refine va_get (D := (dC, dI)) (ci := 3) (v := .ref (md 1)) (C := RX3) (T := TX3) (N := 18) hx hb hts ziX3 hown hK hP 0 rfl rfl 3 (by decide) zw1 (fun _ h9 => h9) rfl dX3_isAbove_8 ?_
    refine lv_aload_n hx hb dX3_isAbove_11 rfl (lv_at hl 0 rfl) ?_
    refine va_get (D := (dC, dI)) (ci := 3) (v := .int yrm) (C := RX3) (T := TX3) (N := 18) hx hb hts ziX3 hown hK hP 0 rfl rfl 5 (by decide) zw0 (fun _ h9 => h9) rfl dX3_isAbove_12 ?_
    refine lv_iconst (v := 1) hx hb dX3_isAbove_15 (by decide) ?_
    refine lv_isub hx hb dX3_isAbove_16 ?_
    obtain ⟨c_17, hm⟩ := ck hm
    refine va_iald hx hb hK hP 1 0 rfl rfl c_17 dX3_isAbove_17 ?_
    refine lv_iload_n hx hb dX3_isAbove_18 rfl (lv_at hl 1 rfl) ?_
    refine lv_icmp_ge (tgt := 26) hx hb dX3_isAbove_19 (by decide) (fun c_19 => ?_) (fun c_19 => ?_)
    · have hm := it_t hm c_19
      refine lv_iconst (v := 0) hx hb dX3_isAbove_26 (by decide) ?_
      exact J_27 0 (o2 hm)
    · have hm := it_f hm c_19
      refine lv_iconst (v := 1) hx hb dX3_isAbove_22 (by decide) ?_
      refine lv_goto (tgt := 27) hx hb dX3_isAbove_23 (by decide) ?_
      exact J_27 1 (o2 hm)
set_option maxHeartbeats 4000000 in
set_option maxRecDepth 100000 in
theorem c_X3_ends (l : Launch) (dC : Nat → ClassId) (dI : Nat → Nat → Nat) (cI : ClassId) (cZ : ClassId) (md : Nat → Nat) (yth : Int32) (ybd : Int32) (yro : Int32) (yrow : Nat → Int32) (ymk : Nat → Int32) (yrm : Int32) (yst : Nat → Int32) (ypc : Int32) (ybu : Nat → Int32) (ybn : Int32) (ymg : Int32) (ysp : Int32) (yjn : Int32) (ymd : Nat → Int32) (ybg : Nat → Int32) (ymm : Int32) (yup : Int64) (yun : Int64) (F : Nat) (p1 : Int32) (sz : Nat) (u_yrow : Nat → Int32) (u_ymk : Nat → Int32) (u_yrm : Int32) (u_yst : Nat → Int32) (u_ypc : Int32) (u_yup : Int64) (u_yun : Int64) (hm : X3_ends F ybd yrow ymk yrm yst ypc yup yun p1 = some (u_yrow, u_ymk, u_yrm, u_yst, u_ypc, u_yup, u_yun)) : Met l yX3_ends wsX3_ends ({ frames := 1, cells := 0, slots := 0, locals := 32 }) (va_Pc [.ref (md 0), .int p1] (zW (dC, dI) (wM cI cZ md yth ybd yro yrow ymk yrm yst ypc ybu ybn ymg ysp yjn ymd ybg ymm yup yun) [(cI, .int), (cZ, .boolean)] sz)) (zQv (dC, dI) (wM cI cZ md yth ybd yro u_yrow u_ymk u_yrm u_yst u_ypc ybu ybn ymg ysp yjn ymd ybg ymm u_yup u_yun) [(cI, .int), (cZ, .boolean)] (va_A (wM cI cZ md yth ybd yro yrow ymk yrm yst ypc ybu ybn ymg ysp yjn ymd ybg ymm yup yun) sz)) 0 0 (va_A (wM cI cZ md yth ybd yro yrow ymk yrm yst ypc ybu ybn ymg ysp yjn ymd ybg ymm yup yun) sz) := by
  refine Met.ofW (cc := cX3_ends) (maxL := 2) (ret := none) (by decide) rfl ?_
  intro p e s m args below meth c s₁ B hml hv
  obtain ⟨rfl, hsz, hP, hK, hD0⟩ := hv
  have hx := B.exec
  have hb := B.bytes
  have hr := B.returns
  have hts := atoms_spec (ws := wsX3_ends) B.pre
  have hown : s.vm.findClass RX3 = some m.cls := findClass_of_methodNamed B.named
  have hlocks := B.notSynchronized
  subst hsz
  have hD := hD0.self (sz := s.heap.size)
  generalize hAe : va_A (wM cI cZ md yth ybd yro yrow ymk yrm yst ypc ybu ybn ymg ysp yjn ymd ybg ymm yup yun) s.heap.size = A at hD ⊢
  have hA : ∀ q : Nat, s.heap.size ≤ q → A q := fun q h => by rw [← hAe]; exact Or.inr h
  have hS : va_S A s.heap s.heap [] := va_S.rf
  generalize eL : ([] : List Loc) = locs at hS ⊢
  obtain ⟨H, eH⟩ : ∃ z : Heap, z = s.heap := ⟨_, rfl⟩
  have hP : va_P (dC, dI) vwCl (wM cI cZ md yth ybd yro yrow ymk yrm yst ypc ybu ybn ymg ysp yjn ymd ybg ymm yup yun) H := by rw [eH]; exact hP
  have hS : va_S A s.heap H locs := by rw [eH]; exact hS
  refine z_heap eH ?_
  have hl := lv_entry ([.ref (md 0), .int p1]) (n := 2) (Nat.le_of_ble_eq_true rfl)
  rw [lg_entry_eq]
  generalize (lg_sl ([.ref (md 0), .int p1]) ++ List.replicate (2 - (lg_sl ([.ref (md 0), .int p1])).length) Slot.unset).toArray = ls at hl ⊢
  have hl : lv_has ls 2 [(0, .ref (md 0)), (1, .int p1)] := hl
  have zw0 := hts (.fieldLink RX3 16 "LearnedLedgeModel" "row" "[I") (by decide +kernel)
  have zw1 := hts (.fieldLink RX3 51 "LearnedLedgeModel" "rowMany" "I") (by decide +kernel)
  have zw2 := hts (.fieldLink RX3 20 "LearnedLedgeModel" "isMarked" "[Z") (by decide +kernel)
  have zw3 := hts (.fieldLink RX3 48 "LearnedLedgeModel" "pieces" "I") (by decide +kernel)
  have zw4 := hts (.fieldLink RX3 24 "LearnedLedgeModel" "start" "[I") (by decide +kernel)
  have ziX3 : ∀ w ∈ u_ws RX3 TX3 18, w ∈ wsX3_ends := by decide +kernel
  refine lv_aload_n hx hb dX3_ends_0 rfl (lv_at hl 0 rfl) ?_
  refine va_get (D := (dC, dI)) (ci := 3) (v := .ref (md 1)) (C := RX3) (T := TX3) (N := 18) hx hb hts ziX3 hown hK hP 0 rfl rfl 3 (by decide) zw0 (fun _ h9 => h9) rfl dX3_ends_1 ?_
  refine lv_aload_n hx hb dX3_ends_4 rfl (lv_at hl 0 rfl) ?_
  refine va_get (D := (dC, dI)) (ci := 3) (v := .int yrm) (C := RX3) (T := TX3) (N := 18) hx hb hts ziX3 hown hK hP 0 rfl rfl 5 (by decide) zw1 (fun _ h9 => h9) rfl dX3_ends_5 ?_
  refine lv_iload_n hx hb dX3_ends_8 rfl (lv_at hl 1 rfl) ?_
  obtain ⟨c_9, hm⟩ := ck hm
  refine va_iast hx hb hK hP hD hS 1 0 rfl rfl c_9 dX3_ends_9 (fun H locs hP hD hS => ?_)
  have hP : va_P (dC, dI) vwCl (wM cI cZ md yth ybd yro (upd yrow (Int32.toNatClampNeg yrm) p1) ymk yrm yst ypc ybu ybn ymg ysp yjn ymd ybg ymm yup yun) H := hP
  have hD : va_D A (wM cI cZ md yth ybd yro (upd yrow (Int32.toNatClampNeg yrm) p1) ymk yrm yst ypc ybu ybn ymg ysp yjn ymd ybg ymm yup yun) := hD
  refine lv_aload_n hx hb dX3_ends_10 rfl (lv_at hl 0 rfl) ?_
  refine va_get (D := (dC, dI)) (ci := 3) (v := .ref (md 2)) (C := RX3) (T := TX3) (N := 18) hx hb hts ziX3 hown hK hP 0 rfl rfl 4 (by decide) zw2 (fun _ h9 => h9) rfl dX3_ends_11 ?_
  refine lv_aload_n hx hb dX3_ends_14 rfl (lv_at hl 0 rfl) ?_
  refine va_get (D := (dC, dI)) (ci := 3) (v := .int yrm) (C := RX3) (T := TX3) (N := 18) hx hb hts ziX3 hown hK hP 0 rfl rfl 5 (by decide) zw1 (fun _ h9 => h9) rfl dX3_ends_15 ?_
  refine lv_iconst (v := 0) hx hb dX3_ends_18 (by decide) ?_
  obtain ⟨c_19, hm⟩ := ck hm
  refine va_zast hx hb hK hP hD hS 2 1 rfl rfl c_19 dX3_ends_19 (fun H locs hP hD hS => ?_)
  have hP : va_P (dC, dI) vwCl (wM cI cZ md yth ybd yro (upd yrow (Int32.toNatClampNeg yrm) p1) (upd ymk (Int32.toNatClampNeg yrm) 0) yrm yst ypc ybu ybn ymg ysp yjn ymd ybg ymm yup yun) H := hP
  have hD : va_D A (wM cI cZ md yth ybd yro (upd yrow (Int32.toNatClampNeg yrm) p1) (upd ymk (Int32.toNatClampNeg yrm) 0) yrm yst ypc ybu ybn ymg ysp yjn ymd ybg ymm yup yun) := hD
  refine lv_aload_n hx hb dX3_ends_20 rfl (lv_at hl 0 rfl) ?_
  refine lv_dup hx hb dX3_ends_21 rfl ?_
  refine va_get (D := (dC, dI)) (ci := 3) (v := .int yrm) (C := RX3) (T := TX3) (N := 18) hx hb hts ziX3 hown hK hP 0 rfl rfl 5 (by decide) zw1 (fun _ h9 => h9) rfl dX3_ends_22 ?_
  refine lv_iconst (v := 1) hx hb dX3_ends_25 (by decide) ?_
  refine lv_iadd hx hb dX3_ends_26 ?_
  refine va_put (D := (dC, dI)) (ci := 3) (v := .int (yrm + 1)) (ty := .int) (C := RX3) (T := TX3) (N := 18) hx hb hts ziX3 tyX3 tyX3_ok nmX3 hown hK hP hD hS 0 rfl rfl 5 (by decide) zw1 (fun _ h9 => h9) rfl (by decide +kernel) rfl rfl (Nat.le_of_ble_eq_true rfl) dX3_ends_27 (fun H locs hP hD hS => ?_)
  have hP : va_P (dC, dI) vwCl (wM cI cZ md yth ybd yro (upd yrow (Int32.toNatClampNeg yrm) p1) (upd ymk (Int32.toNatClampNeg yrm) 0) (yrm + 1) yst ypc ybu ybn ymg ysp yjn ymd ybg ymm yup yun) H := hP
  have hD : va_D A (wM cI cZ md yth ybd yro (upd yrow (Int32.toNatClampNeg yrm) p1) (upd ymk (Int32.toNatClampNeg yrm) 0) (yrm + 1) yst ypc ybu ybn ymg ysp yjn ymd ybg ymm yup yun) := hD
  refine lv_aload_n hx hb dX3_ends_30 rfl (lv_at hl 0 rfl) ?_
  refine va_get (D := (dC, dI)) (ci := 3) (v := .int ypc) (C := RX3) (T := TX3) (N := 18) hx hb hts ziX3 hown hK hP 0 rfl rfl 7 (by decide) zw3 (fun _ h9 => h9) rfl dX3_ends_31 ?_
  refine lv_if_eq (tgt := 63) hx hb dX3_ends_34 (by decide) (fun c_34 => ?_) (fun c_34 => ?_)
  · have hm := it_t hm c_34
    refine lv_aload_n hx hb dX3_ends_63 rfl (lv_at hl 0 rfl) ?_
    refine va_get (D := (dC, dI)) (ci := 3) (v := .ref (md 3)) (C := RX3) (T := TX3) (N := 18) hx hb hts ziX3 hown hK hP 0 rfl rfl 6 (by decide) zw4 (fun _ h9 => h9) rfl dX3_ends_64 ?_
    refine lv_aload_n hx hb dX3_ends_67 rfl (lv_at hl 0 rfl) ?_
    refine va_get (D := (dC, dI)) (ci := 3) (v := .int ypc) (C := RX3) (T := TX3) (N := 18) hx hb hts ziX3 hown hK hP 0 rfl rfl 7 (by decide) zw3 (fun _ h9 => h9) rfl dX3_ends_68 ?_
    refine lv_aload_n hx hb dX3_ends_71 rfl (lv_at hl 0 rfl) ?_
    refine va_get (D := (dC, dI)) (ci := 3) (v := .int (yrm + 1)) (C := RX3) (T := TX3) (N := 18) hx hb hts ziX3 hown hK hP 0 rfl rfl 5 (by decide) zw1 (fun _ h9 => h9) rfl dX3_ends_72 ?_
    refine lv_iconst (v := 1) hx hb dX3_ends_75 (by decide) ?_
    refine lv_isub hx hb dX3_ends_76 ?_
    obtain ⟨c_77, hm⟩ := ck hm
    refine va_iast hx hb hK hP hD hS 3 0 rfl rfl c_77 dX3_ends_77 (fun H locs hP hD hS => ?_)
    have hP : va_P (dC, dI) vwCl (wM cI cZ md yth ybd yro (upd yrow (Int32.toNatClampNeg yrm) p1) (upd ymk (Int32.toNatClampNeg yrm) 0) (yrm + 1) (upd yst (Int32.toNatClampNeg ypc) ((yrm + 1) - 1)) ypc ybu ybn ymg ysp yjn ymd ybg ymm yup yun) H := hP
    have hD : va_D A (wM cI cZ md yth ybd yro (upd yrow (Int32.toNatClampNeg yrm) p1) (upd ymk (Int32.toNatClampNeg yrm) 0) (yrm + 1) (upd yst (Int32.toNatClampNeg ypc) ((yrm + 1) - 1)) ypc ybu ybn ymg ysp yjn ymd ybg ymm yup yun) := hD
    refine lv_aload_n hx hb dX3_ends_78 rfl (lv_at hl 0 rfl) ?_
    refine lv_dup hx hb dX3_ends_79 rfl ?_
    refine va_get (D := (dC, dI)) (ci := 3) (v := .int ypc) (C := RX3) (T := TX3) (N := 18) hx hb hts ziX3 hown hK hP 0 rfl rfl 7 (by decide) zw3 (fun _ h9 => h9) rfl dX3_ends_80 ?_
    refine lv_iconst (v := 1) hx hb dX3_ends_83 (by decide) ?_
    refine lv_iadd hx hb dX3_ends_84 ?_
    refine va_put (D := (dC, dI)) (ci := 3) (v := .int (ypc + 1)) (ty := .int) (C := RX3) (T := TX3) (N := 18) hx hb hts ziX3 tyX3 tyX3_ok nmX3 hown hK hP hD hS 0 rfl rfl 7 (by decide) zw3 (fun _ h9 => h9) rfl (by decide +kernel) rfl rfl (Nat.le_of_ble_eq_true rfl) dX3_ends_85 (fun H locs hP hD hS => ?_)
    have hP : va_P (dC, dI) vwCl (wM cI cZ md yth ybd yro (upd yrow (Int32.toNatClampNeg yrm) p1) (upd ymk (Int32.toNatClampNeg yrm) 0) (yrm + 1) (upd yst (Int32.toNatClampNeg ypc) ((yrm + 1) - 1)) (ypc + 1) ybu ybn ymg ysp yjn ymd ybg ymm yup yun) H := hP
    have hD : va_D A (wM cI cZ md yth ybd yro (upd yrow (Int32.toNatClampNeg yrm) p1) (upd ymk (Int32.toNatClampNeg yrm) 0) (yrm + 1) (upd yst (Int32.toNatClampNeg ypc) ((yrm + 1) - 1)) (ypc + 1) ybu ybn ymg ysp yjn ymd ybg ymm yup yun) := hD
    cases o2 hm
    exact W.vret hx hb hr (fun t ht hW => ⟨⟨(), rfl, trivial, by rw [ht]; exact hP, va_K.moved hW.alike hK, hD⟩, hS.F ht⟩) hS.2.2 dX3_ends_88
  · have hm := it_f hm c_34
    refine lv_aload_n hx hb dX3_ends_37 rfl (lv_at hl 0 rfl) ?_
    refine lv_aload_n hx hb dX3_ends_38 rfl (lv_at hl 0 rfl) ?_
    refine va_get (D := (dC, dI)) (ci := 3) (v := .ref (md 1)) (C := RX3) (T := TX3) (N := 18) hx hb hts ziX3 hown hK hP 0 rfl rfl 3 (by decide) zw0 (fun _ h9 => h9) rfl dX3_ends_39 ?_
    refine lv_aload_n hx hb dX3_ends_42 rfl (lv_at hl 0 rfl) ?_
    refine va_get (D := (dC, dI)) (ci := 3) (v := .ref (md 3)) (C := RX3) (T := TX3) (N := 18) hx hb hts ziX3 hown hK hP 0 rfl rfl 6 (by decide) zw4 (fun _ h9 => h9) rfl dX3_ends_43 ?_
    refine lv_aload_n hx hb dX3_ends_46 rfl (lv_at hl 0 rfl) ?_
    refine va_get (D := (dC, dI)) (ci := 3) (v := .int ypc) (C := RX3) (T := TX3) (N := 18) hx hb hts ziX3 hown hK hP 0 rfl rfl 7 (by decide) zw3 (fun _ h9 => h9) rfl dX3_ends_47 ?_
    refine lv_iconst (v := 1) hx hb dX3_ends_50 (by decide) ?_
    refine lv_isub hx hb dX3_ends_51 ?_
    obtain ⟨c_52, hm⟩ := ck hm
    refine va_iald hx hb hK hP 3 0 rfl rfl c_52 dX3_ends_52 ?_
    refine lv_aload_n hx hb dX3_ends_53 rfl (lv_at hl 0 rfl) ?_
    refine va_get (D := (dC, dI)) (ci := 3) (v := .int (yrm + 1)) (C := RX3) (T := TX3) (N := 18) hx hb hts ziX3 hown hK hP 0 rfl rfl 5 (by decide) zw1 (fun _ h9 => h9) rfl dX3_ends_54 ?_
    obtain ⟨⟨r57, yup57, yun57⟩, h_57, hm⟩ := ob hm
    refine z_callWi (wc := (wM cI cZ md yth ybd yro (upd yrow (Int32.toNatClampNeg yrm) p1) (upd ymk (Int32.toNatClampNeg yrm) 0) (yrm + 1) yst ypc ybu ybn ymg ysp yjn ymd ybg ymm yup yun)) (w1 := (wM cI cZ md yth ybd yro (upd yrow (Int32.toNatClampNeg yrm) p1) (upd ymk (Int32.toNatClampNeg yrm) 0) (yrm + 1) yst ypc ybu ybn ymg ysp yjn ymd ybg ymm yup57 yun57)) (ws := (wM cI cZ md yth ybd yro (upd yrow (Int32.toNatClampNeg yrm) p1) (upd ymk (Int32.toNatClampNeg yrm) 0) (yrm + 1) yst ypc ybu ybn ymg ysp yjn ymd ybg ymm yup yun)) (ws' := (wM cI cZ md yth ybd yro (upd yrow (Int32.toNatClampNeg yrm) p1) (upd ymk (Int32.toNatClampNeg yrm) 0) (yrm + 1) yst ypc ybu ybn ymg ysp yjn ymd ybg ymm yup57 yun57)) [0, 1, 2, 3, 4, 5, 6] [] 7 (As := [.ref (md 1), .int (yst (Int32.toNatClampNeg (ypc - 1))), .int (yrm + 1)]) (rest := []) (ci := 3) (q := (RX3, TX3, 18)) ⟨hx, hb, hml, hown, hts⟩ (c_X3_fits_row l dC dI cI cZ md yth ybd yro (upd yrow (Int32.toNatClampNeg yrm) p1) (upd ymk (Int32.toNatClampNeg yrm) 0) (yrm + 1) yst ypc ybu ybn ymg ysp yjn ymd ybg ymm yup yun F (yst (Int32.toNatClampNeg (ypc - 1))) (yrm + 1) H.size r57 yup57 yun57 h_57) (cwV 3 hts gX3_ends_X3_fits rfl rfl rfl kv_X3_fits ⟨Nat.le_of_ble_eq_true rfl, Nat.le_of_ble_eq_true rfl⟩) hK hP hD hS hA hP hD rfl rfl (by decide) rfl rfl (by decide) rfl rfl rfl rfl rfl hl.1 rfl (Nat.le_of_ble_eq_true rfl) dX3_ends_57 ⟨Nat.zero_le _, Nat.zero_le _⟩ (fun H locs hP hD hS => ?_)
    refine lv_if_ne (tgt := 88) hx hb dX3_ends_60 (by decide) (fun c_60 => ?_) (fun c_60 => ?_)
    · have hm := it_f hm c_60
      cases o2 hm
      exact W.vret hx hb hr (fun t ht hW => ⟨⟨(), rfl, trivial, by rw [ht]; exact hP, va_K.moved hW.alike hK, hD⟩, hS.F ht⟩) hS.2.2 dX3_ends_88
    · have hm := it_t hm c_60
      refine lv_aload_n hx hb dX3_ends_63 rfl (lv_at hl 0 rfl) ?_
      refine va_get (D := (dC, dI)) (ci := 3) (v := .ref (md 3)) (C := RX3) (T := TX3) (N := 18) hx hb hts ziX3 hown hK hP 0 rfl rfl 6 (by decide) zw4 (fun _ h9 => h9) rfl dX3_ends_64 ?_
      refine lv_aload_n hx hb dX3_ends_67 rfl (lv_at hl 0 rfl) ?_
      refine va_get (D := (dC, dI)) (ci := 3) (v := .int ypc) (C := RX3) (T := TX3) (N := 18) hx hb hts ziX3 hown hK hP 0 rfl rfl 7 (by decide) zw3 (fun _ h9 => h9) rfl dX3_ends_68 ?_
      refine lv_aload_n hx hb dX3_ends_71 rfl (lv_at hl 0 rfl) ?_
      refine va_get (D := (dC, dI)) (ci := 3) (v := .int (yrm + 1)) (C := RX3) (T := TX3) (N := 18) hx hb hts ziX3 hown hK hP 0 rfl rfl 5 (by decide) zw1 (fun _ h9 => h9) rfl dX3_ends_72 ?_
      refine lv_iconst (v := 1) hx hb dX3_ends_75 (by decide) ?_
      refine lv_isub hx hb dX3_ends_76 ?_
      obtain ⟨c_77, hm⟩ := ck hm
      refine va_iast hx hb hK hP hD hS 3 0 rfl rfl c_77 dX3_ends_77 (fun H locs hP hD hS => ?_)
      have hP : va_P (dC, dI) vwCl (wM cI cZ md yth ybd yro (upd yrow (Int32.toNatClampNeg yrm) p1) (upd ymk (Int32.toNatClampNeg yrm) 0) (yrm + 1) (upd yst (Int32.toNatClampNeg ypc) ((yrm + 1) - 1)) ypc ybu ybn ymg ysp yjn ymd ybg ymm yup57 yun57) H := hP
      have hD : va_D A (wM cI cZ md yth ybd yro (upd yrow (Int32.toNatClampNeg yrm) p1) (upd ymk (Int32.toNatClampNeg yrm) 0) (yrm + 1) (upd yst (Int32.toNatClampNeg ypc) ((yrm + 1) - 1)) ypc ybu ybn ymg ysp yjn ymd ybg ymm yup57 yun57) := hD
      refine lv_aload_n hx hb dX3_ends_78 rfl (lv_at hl 0 rfl) ?_
      refine lv_dup hx hb dX3_ends_79 rfl ?_
      refine va_get (D := (dC, dI)) (ci := 3) (v := .int ypc) (C := RX3) (T := TX3) (N := 18) hx hb hts ziX3 hown hK hP 0 rfl rfl 7 (by decide) zw3 (fun _ h9 => h9) rfl dX3_ends_80 ?_
      refine lv_iconst (v := 1) hx hb dX3_ends_83 (by decide) ?_
      refine lv_iadd hx hb dX3_ends_84 ?_
      refine va_put (D := (dC, dI)) (ci := 3) (v := .int (ypc + 1)) (ty := .int) (C := RX3) (T := TX3) (N := 18) hx hb hts ziX3 tyX3 tyX3_ok nmX3 hown hK hP hD hS 0 rfl rfl 7 (by decide) zw3 (fun _ h9 => h9) rfl (by decide +kernel) rfl rfl (Nat.le_of_ble_eq_true rfl) dX3_ends_85 (fun H locs hP hD hS => ?_)
      have hP : va_P (dC, dI) vwCl (wM cI cZ md yth ybd yro (upd yrow (Int32.toNatClampNeg yrm) p1) (upd ymk (Int32.toNatClampNeg yrm) 0) (yrm + 1) (upd yst (Int32.toNatClampNeg ypc) ((yrm + 1) - 1)) (ypc + 1) ybu ybn ymg ysp yjn ymd ybg ymm yup57 yun57) H := hP
      have hD : va_D A (wM cI cZ md yth ybd yro (upd yrow (Int32.toNatClampNeg yrm) p1) (upd ymk (Int32.toNatClampNeg yrm) 0) (yrm + 1) (upd yst (Int32.toNatClampNeg ypc) ((yrm + 1) - 1)) (ypc + 1) ybu ybn ymg ysp yjn ymd ybg ymm yup57 yun57) := hD
      cases o2 hm
      exact W.vret hx hb hr (fun t ht hW => ⟨⟨(), rfl, trivial, by rw [ht]; exact hP, va_K.moved hW.alike hK, hD⟩, hS.F ht⟩) hS.2.2 dX3_ends_88
set_option maxHeartbeats 4000000 in
set_option maxRecDepth 100000 in
theorem c_X3_append (l : Launch) (dC : Nat → ClassId) (dI : Nat → Nat → Nat) (cI : ClassId) (cZ : ClassId) (md : Nat → Nat) (yth : Int32) (ybd : Int32) (yro : Int32) (yrow : Nat → Int32) (ymk : Nat → Int32) (yrm : Int32) (yst : Nat → Int32) (ypc : Int32) (ybu : Nat → Int32) (ybn : Int32) (ymg : Int32) (ysp : Int32) (yjn : Int32) (ymd : Nat → Int32) (ybg : Nat → Int32) (ymm : Int32) (yup : Int64) (yun : Int64) (F : Nat) (p1 : Int32) (sz : Nat) (r : Int32) (u_yth : Int32) (u_yrow : Nat → Int32) (u_ymk : Nat → Int32) (u_yrm : Int32) (u_yst : Nat → Int32) (u_ypc : Int32) (u_yup : Int64) (u_yun : Int64) (hm : X3_append F yth ybd yrow ymk yrm yst ypc ybu ybn yup yun p1 = some (r, u_yth, u_yrow, u_ymk, u_yrm, u_yst, u_ypc, u_yup, u_yun)) : Met l yX3_append wsX3_append ({ frames := 2, cells := 0, slots := 0, locals := 53 }) (va_Pc [.ref (md 0), .int p1] (zW (dC, dI) (wM cI cZ md yth ybd yro yrow ymk yrm yst ypc ybu ybn ymg ysp yjn ymd ybg ymm yup yun) [(cI, .int), (cZ, .boolean)] sz)) (zQi (dC, dI) (wM cI cZ md u_yth ybd yro u_yrow u_ymk u_yrm u_yst u_ypc ybu ybn ymg ysp yjn ymd ybg ymm u_yup u_yun) [(cI, .int), (cZ, .boolean)] (va_A (wM cI cZ md yth ybd yro yrow ymk yrm yst ypc ybu ybn ymg ysp yjn ymd ybg ymm yup yun) sz) r) 0 0 (va_A (wM cI cZ md yth ybd yro yrow ymk yrm yst ypc ybu ybn ymg ysp yjn ymd ybg ymm yup yun) sz) := by
  refine Met.ofW (cc := cX3_append) (maxL := 2) (ret := (some .int)) (by decide) rfl ?_
  intro p e s m args below meth c s₁ B hml hv
  obtain ⟨rfl, hsz, hP, hK, hD0⟩ := hv
  have hx := B.exec
  have hb := B.bytes
  have hr := B.returns
  have hts := atoms_spec (ws := wsX3_append) B.pre
  have hown : s.vm.findClass RX3 = some m.cls := findClass_of_methodNamed B.named
  have hlocks := B.notSynchronized
  subst hsz
  have hD := hD0.self (sz := s.heap.size)
  generalize hAe : va_A (wM cI cZ md yth ybd yro yrow ymk yrm yst ypc ybu ybn ymg ysp yjn ymd ybg ymm yup yun) s.heap.size = A at hD ⊢
  have hA : ∀ q : Nat, s.heap.size ≤ q → A q := fun q h => by rw [← hAe]; exact Or.inr h
  have hS : va_S A s.heap s.heap [] := va_S.rf
  generalize eL : ([] : List Loc) = locs at hS ⊢
  obtain ⟨H, eH⟩ : ∃ z : Heap, z = s.heap := ⟨_, rfl⟩
  have hP : va_P (dC, dI) vwCl (wM cI cZ md yth ybd yro yrow ymk yrm yst ypc ybu ybn ymg ysp yjn ymd ybg ymm yup yun) H := by rw [eH]; exact hP
  have hS : va_S A s.heap H locs := by rw [eH]; exact hS
  refine z_heap eH ?_
  have hl := lv_entry ([.ref (md 0), .int p1]) (n := 2) (Nat.le_of_ble_eq_true rfl)
  rw [lg_entry_eq]
  generalize (lg_sl ([.ref (md 0), .int p1]) ++ List.replicate (2 - (lg_sl ([.ref (md 0), .int p1])).length) Slot.unset).toArray = ls at hl ⊢
  have hl : lv_has ls 2 [(0, .ref (md 0)), (1, .int p1)] := hl
  have zw0 := hts (.fieldLink RX3 36 "LearnedLedgeModel" "thrown" "I") (by decide +kernel)
  have zw1 := hts (.fieldLink RX3 48 "LearnedLedgeModel" "pieces" "I") (by decide +kernel)
  have ziX3 : ∀ w ∈ u_ws RX3 TX3 18, w ∈ wsX3_append := by decide +kernel
  refine lv_aload_n hx hb dX3_append_0 rfl (lv_at hl 0 rfl) ?_
  refine lv_iload_n hx hb dX3_append_1 rfl (lv_at hl 1 rfl) ?_
  obtain ⟨r2, h_2, hm⟩ := ob hm
  refine z_callSi (As := [.int p1]) (rest := [.ref (md 0)]) ⟨hx, hb, hml, hown, hts⟩ (c_X3_isKey l dC dI F p1 r2 h_2) (va_cwS 1 hts gX3_append_X3_isKey rfl rfl rfl ks_X3_isKey ⟨Nat.le_of_ble_eq_true rfl, Nat.le_of_ble_eq_true rfl⟩) (hK.sub (tys' := []) [] rfl) z_P0 rfl hl.1 rfl (Nat.le_of_ble_eq_true rfl) dX3_append_2 ⟨Nat.zero_le _, Nat.zero_le _⟩ ?_
  obtain ⟨z_35, hq_35, hm⟩ := ob hm
  have J_35 : ∀ (y35 : Int32), z_35 = y35 → W p l e (headSpec wsX3_append ({ frames := 2, cells := 0, slots := 0, locals := 53 } : Room)).room s m ([.ref (md 0), .int p1] : List Value).toArray below meth c H locs 0 0 (MQ below (zQi (dC, dI) (wM cI cZ md u_yth ybd yro u_yrow u_ymk u_yrm u_yst u_ypc ybu ybn ymg ysp yjn ymd ybg ymm u_yup u_yun) [(cI, .int), (cZ, .boolean)] A r) ([.ref (md 0), .int p1] : List Value).toArray s 0 0 A) (F0 m 35 ls [.int y35, .ref (md 0)]) := by
    intro y35 ez
    rw [ez] at hm
    refine va_put (D := (dC, dI)) (ci := 3) (v := .int y35) (ty := .int) (C := RX3) (T := TX3) (N := 18) hx hb hts ziX3 tyX3 tyX3_ok nmX3 hown hK hP hD hS 0 rfl rfl 0 (by decide) zw0 (fun _ h9 => h9) rfl (by decide +kernel) rfl rfl (Nat.le_of_ble_eq_true rfl) dX3_append_35 (fun H locs hP hD hS => ?_)
    have hP : va_P (dC, dI) vwCl (wM cI cZ md y35 ybd yro yrow ymk yrm yst ypc ybu ybn ymg ysp yjn ymd ybg ymm yup yun) H := hP
    have hD : va_D A (wM cI cZ md y35 ybd yro yrow ymk yrm yst ypc ybu ybn ymg ysp yjn ymd ybg ymm yup yun) := hD
    refine lv_aload_n hx hb dX3_append_38 rfl (lv_at hl 0 rfl) ?_
    refine va_get (D := (dC, dI)) (ci := 3) (v := .int y35) (C := RX3) (T := TX3) (N := 18) hx hb hts ziX3 hown hK hP 0 rfl rfl 0 (by decide) zw0 (fun _ h9 => h9) rfl dX3_append_39 ?_
    refine lv_if_ne (tgt := 50) hx hb dX3_append_42 (by decide) (fun c_42 => ?_) (fun c_42 => ?_)
    · have hm := it_f hm c_42
      refine lv_aload_n hx hb dX3_append_50 rfl (lv_at hl 0 rfl) ?_
      refine va_get (D := (dC, dI)) (ci := 3) (v := .int ypc) (C := RX3) (T := TX3) (N := 18) hx hb hts ziX3 hown hK hP 0 rfl rfl 7 (by decide) zw1 (fun _ h9 => h9) rfl dX3_append_51 ?_
      cases o2 hm
      exact W.iret hx hb hr (fun t ht hW => ⟨⟨_, (), rfl, rfl, by rw [ht]; exact hP, va_K.moved hW.alike hK, hD⟩, hS.F ht⟩) hS.2.2 dX3_append_54
    · have hm := it_t hm c_42
      refine lv_aload_n hx hb dX3_append_45 rfl (lv_at hl 0 rfl) ?_
      refine lv_iload_n hx hb dX3_append_46 rfl (lv_at hl 1 rfl) ?_
      obtain ⟨⟨yrow47, ymk47, yrm47, yst47, ypc47, yup47, yun47⟩, h_47, hm⟩ := ob hm
      refine z_callWv (wc := (wM cI cZ md y35 ybd yro yrow ymk yrm yst ypc ybu ybn ymg ysp yjn ymd ybg ymm yup yun)) (w1 := (wM cI cZ md y35 ybd yro yrow47 ymk47 yrm47 yst47 ypc47 ybu ybn ymg ysp yjn ymd ybg ymm yup47 yun47)) (ws := (wM cI cZ md y35 ybd yro yrow ymk yrm yst ypc ybu ybn ymg ysp yjn ymd ybg ymm yup yun)) (ws' := (wM cI cZ md y35 ybd yro yrow47 ymk47 yrm47 yst47 ypc47 ybu ybn ymg ysp yjn ymd ybg ymm yup47 yun47)) [0, 1, 2, 3, 4, 5, 6] [] 7 (As := [.int p1]) (rest := []) (ci := 3) (q := (RX3, TX3, 18)) ⟨hx, hb, hml, hown, hts⟩ (c_X3_ends l dC dI cI cZ md y35 ybd yro yrow ymk yrm yst ypc ybu ybn ymg ysp yjn ymd ybg ymm yup yun F p1 H.size yrow47 ymk47 yrm47 yst47 ypc47 yup47 yun47 h_47) (cwV 1 hts gX3_append_X3_ends rfl rfl rfl kv_X3_ends ⟨Nat.le_of_ble_eq_true rfl, Nat.le_of_ble_eq_true rfl⟩) hK hP hD hS hA hP hD rfl rfl (by decide) rfl rfl (by decide) rfl rfl rfl rfl rfl hl.1 rfl (Nat.le_of_ble_eq_true rfl) dX3_append_47 ⟨Nat.zero_le _, Nat.zero_le _⟩ (fun H locs hP hD hS => ?_)
      refine lv_aload_n hx hb dX3_append_50 rfl (lv_at hl 0 rfl) ?_
      refine va_get (D := (dC, dI)) (ci := 3) (v := .int ypc47) (C := RX3) (T := TX3) (N := 18) hx hb hts ziX3 hown hK hP 0 rfl rfl 7 (by decide) zw1 (fun _ h9 => h9) rfl dX3_append_51 ?_
      cases o2 hm
      exact W.iret hx hb hr (fun t ht hW => ⟨⟨_, (), rfl, rfl, by rw [ht]; exact hP, va_K.moved hW.alike hK, hD⟩, hS.F ht⟩) hS.2.2 dX3_append_54
  have hm := hq_35
  refine lv_if_ne (tgt := 12) hx hb dX3_append_5 (by decide) (fun c_5 => ?_) (fun c_5 => ?_)
  · have hm := it_f hm c_5
    refine lv_aload_n hx hb dX3_append_12 rfl (lv_at hl 0 rfl) ?_
    obtain ⟨r13, h_13, hm⟩ := ob hm
    refine z_callRi (As := []) (rest := [.ref (md 0)]) (ci := 3) (q := (RX3, TX3, 18)) ⟨hx, hb, hml, hown, hts⟩ (c_X3_many l dC dI cI cZ md yth ybd yro yrow ymk yrm yst ypc ybu ybn ymg ysp yjn ymd ybg ymm yup yun F r13 h_13) (cwV 0 hts gX3_append_X3_many rfl rfl rfl kv_X3_many ⟨Nat.le_of_ble_eq_true rfl, Nat.le_of_ble_eq_true rfl⟩) hK hP rfl rfl rfl rfl hl.1 rfl (Nat.le_of_ble_eq_true rfl) dX3_append_13 ⟨Nat.zero_le _, Nat.zero_le _⟩ ?_
    refine lv_sipush (v := 256) hx hb dX3_append_16 (by decide) ?_
    refine lv_icmp_eq (tgt := 30) hx hb dX3_append_19 (by decide) (fun c_19 => ?_) (fun c_19 => ?_)
    · have hm := it_t hm c_19
      refine lv_iconst (v := 2) hx hb dX3_append_30 (by decide) ?_
      refine lv_goto (tgt := 35) hx hb dX3_append_31 (by decide) ?_
      exact J_35 2 (o2 hm)
    · have hm := it_f hm c_19
      refine lv_aload_n hx hb dX3_append_22 rfl (lv_at hl 0 rfl) ?_
      refine lv_iload_n hx hb dX3_append_23 rfl (lv_at hl 1 rfl) ?_
      obtain ⟨r24, h_24, hm⟩ := ob hm
      refine z_callRi (As := [.int p1]) (rest := [.ref (md 0)]) (ci := 3) (q := (RX3, TX3, 18)) ⟨hx, hb, hml, hown, hts⟩ (c_X3_isAbove l dC dI cI cZ md yth ybd yro yrow ymk yrm yst ypc ybu ybn ymg ysp yjn ymd ybg ymm yup yun F p1 r24 h_24) (cwV 1 hts gX3_append_X3_isAbove rfl rfl rfl kv_X3_isAbove ⟨Nat.le_of_ble_eq_true rfl, Nat.le_of_ble_eq_true rfl⟩) hK hP rfl rfl rfl rfl hl.1 rfl (Nat.le_of_ble_eq_true rfl) dX3_append_24 ⟨Nat.zero_le _, Nat.zero_le _⟩ ?_
      refine lv_if_ne (tgt := 34) hx hb dX3_append_27 (by decide) (fun c_27 => ?_) (fun c_27 => ?_)
      · have hm := it_f hm c_27
        refine lv_iconst (v := 0) hx hb dX3_append_34 (by decide) ?_
        exact J_35 0 (o2 hm)
      · have hm := it_t hm c_27
        refine lv_iconst (v := 2) hx hb dX3_append_30 (by decide) ?_
        refine lv_goto (tgt := 35) hx hb dX3_append_31 (by decide) ?_
        exact J_35 2 (o2 hm)
  · have hm := it_t hm c_5
    refine lv_iconst (v := 1) hx hb dX3_append_8 (by decide) ?_
    refine lv_goto (tgt := 35) hx hb dX3_append_9 (by decide) ?_
    exact J_35 1 (o2 hm)
set_option maxHeartbeats 4000000 in
set_option maxRecDepth 100000 in
theorem c_X3_appendMany (l : Launch) (dC : Nat → ClassId) (dI : Nat → Nat → Nat) (cI : ClassId) (cZ : ClassId) (md : Nat → Nat) (yth : Int32) (ybd : Int32) (yro : Int32) (yrow : Nat → Int32) (ymk : Nat → Int32) (yrm : Int32) (yst : Nat → Int32) (ypc : Int32) (ybu : Nat → Int32) (ybn : Int32) (ymg : Int32) (ysp : Int32) (yjn : Int32) (ymd : Nat → Int32) (ybg : Nat → Int32) (ymm : Int32) (yup : Int64) (yun : Int64) (F : Nat) (p1 : Int32) (p2 : Int32) (p3 : Int32) (sz : Nat) (r : Int32) (u_yth : Int32) (u_yrow : Nat → Int32) (u_ymk : Nat → Int32) (u_yrm : Int32) (u_yst : Nat → Int32) (u_ypc : Int32) (u_yup : Int64) (u_yun : Int64) (hm : X3_appendMany F yth ybd yrow ymk yrm yst ypc ybu ybn yup yun p1 p2 p3 = some (r, u_yth, u_yrow, u_ymk, u_yrm, u_yst, u_ypc, u_yup, u_yun)) : Met l yX3_appendMany wsX3_appendMany ({ frames := 2, cells := 0, slots := 0, locals := 53 }) (va_Pc [.ref (md 0), .int p1, .int p2, .int p3] (zW (dC, dI) (wM cI cZ md yth ybd yro yrow ymk yrm yst ypc ybu ybn ymg ysp yjn ymd ybg ymm yup yun) [(cI, .int), (cZ, .boolean)] sz)) (zQi (dC, dI) (wM cI cZ md u_yth ybd yro u_yrow u_ymk u_yrm u_yst u_ypc ybu ybn ymg ysp yjn ymd ybg ymm u_yup u_yun) [(cI, .int), (cZ, .boolean)] (va_A (wM cI cZ md yth ybd yro yrow ymk yrm yst ypc ybu ybn ymg ysp yjn ymd ybg ymm yup yun) sz) r) 0 0 (va_A (wM cI cZ md yth ybd yro yrow ymk yrm yst ypc ybu ybn ymg ysp yjn ymd ybg ymm yup yun) sz) := by
  refine Met.ofW (cc := cX3_appendMany) (maxL := 6) (ret := (some .int)) (by decide) rfl ?_
  intro p e s m args below meth c s₁ B hml hv
  obtain ⟨rfl, hsz, hP, hK, hD0⟩ := hv
  have hx := B.exec
  have hb := B.bytes
  have hr := B.returns
  have hts := atoms_spec (ws := wsX3_appendMany) B.pre
  have hown : s.vm.findClass RX3 = some m.cls := findClass_of_methodNamed B.named
  have hlocks := B.notSynchronized
  subst hsz
  have hD := hD0.self (sz := s.heap.size)
  generalize hAe : va_A (wM cI cZ md yth ybd yro yrow ymk yrm yst ypc ybu ybn ymg ysp yjn ymd ybg ymm yup yun) s.heap.size = A at hD ⊢
  have hA : ∀ q : Nat, s.heap.size ≤ q → A q := fun q h => by rw [← hAe]; exact Or.inr h
  have hS : va_S A s.heap s.heap [] := va_S.rf
  generalize eL : ([] : List Loc) = locs at hS ⊢
  obtain ⟨H, eH⟩ : ∃ z : Heap, z = s.heap := ⟨_, rfl⟩
  have hP : va_P (dC, dI) vwCl (wM cI cZ md yth ybd yro yrow ymk yrm yst ypc ybu ybn ymg ysp yjn ymd ybg ymm yup yun) H := by rw [eH]; exact hP
  have hS : va_S A s.heap H locs := by rw [eH]; exact hS
  refine z_heap eH ?_
  have hl := lv_entry ([.ref (md 0), .int p1, .int p2, .int p3]) (n := 6) (Nat.le_of_ble_eq_true rfl)
  rw [lg_entry_eq]
  generalize (lg_sl ([.ref (md 0), .int p1, .int p2, .int p3]) ++ List.replicate (6 - (lg_sl ([.ref (md 0), .int p1, .int p2, .int p3])).length) Slot.unset).toArray = ls at hl ⊢
  have hl : lv_has ls 6 [(0, .ref (md 0)), (1, .int p1), (2, .int p2), (3, .int p3)] := hl
  have zw0 := hts (.fieldLink RX3 36 "LearnedLedgeModel" "thrown" "I") (by decide +kernel)
  have zw1 := hts (.fieldLink RX3 48 "LearnedLedgeModel" "pieces" "I") (by decide +kernel)
  have ziX3 : ∀ w ∈ u_ws RX3 TX3 18, w ∈ wsX3_appendMany := by decide +kernel
  refine lv_iload_n hx hb dX3_appendMany_0 rfl (lv_at hl 1 rfl) ?_
  obtain ⟨r1, h_1, hm⟩ := ob hm
  refine z_callSi (As := [.int p1]) (rest := []) ⟨hx, hb, hml, hown, hts⟩ (c_X3_isKey l dC dI F p1 r1 h_1) (va_cwS 1 hts gX3_appendMany_X3_isKey rfl rfl rfl ks_X3_isKey ⟨Nat.le_of_ble_eq_true rfl, Nat.le_of_ble_eq_true rfl⟩) (hK.sub (tys' := []) [] rfl) z_P0 rfl hl.1 rfl (Nat.le_of_ble_eq_true rfl) dX3_appendMany_1 ⟨Nat.zero_le _, Nat.zero_le _⟩ ?_
  obtain ⟨y35, e_y35⟩ : ∃ y : Int32, y = (if r1 = 0 then 0 else (if p2 < 1 then 0 else (if 10000 < p2 then 0 else (if p3 < 1 then 0 else (if 100 < p3 then 0 else 1))))) := ⟨_, rfl⟩
  have hm := bnd_e hm e_y35
  have J_35 : W p l e (headSpec wsX3_appendMany ({ frames := 2, cells := 0, slots := 0, locals := 53 } : Room)).room s m ([.ref (md 0), .int p1, .int p2, .int p3] : List Value).toArray below meth c H locs 0 0 (MQ below (zQi (dC, dI) (wM cI cZ md u_yth ybd yro u_yrow u_ymk u_yrm u_yst u_ypc ybu ybn ymg ysp yjn ymd ybg ymm u_yup u_yun) [(cI, .int), (cZ, .boolean)] A r) ([.ref (md 0), .int p1, .int p2, .int p3] : List Value).toArray s 0 0 A) (F0 m 35 ls [.int y35]) := by
    refine lv_istore (lv' := [(4, .int y35), (0, .ref (md 0)), (1, .int p1), (2, .int p2), (3, .int p3)]) hx hb dX3_appendMany_35 hl (by decide) rfl (fun ls hl => ?_)
    refine lv_aload_n hx hb dX3_appendMany_37 rfl (lv_at hl 1 rfl) ?_
    refine lv_iload hx hb dX3_appendMany_38 (lv_at hl 0 rfl) ?_
    obtain ⟨z_85, hq_85, hm⟩ := ob hm
    have J_85 : ∀ (y85 : Int32), z_85 = y85 → W p l e (headSpec wsX3_appendMany ({ frames := 2, cells := 0, slots := 0, locals := 53 } : Room)).room s m ([.ref (md 0), .int p1, .int p2, .int p3] : List Value).toArray below meth c H locs 0 0 (MQ below (zQi (dC, dI) (wM cI cZ md u_yth ybd yro u_yrow u_ymk u_yrm u_yst u_ypc ybu ybn ymg ysp yjn ymd ybg ymm u_yup u_yun) [(cI, .int), (cZ, .boolean)] A r) ([.ref (md 0), .int p1, .int p2, .int p3] : List Value).toArray s 0 0 A) (F0 m 85 ls [.int y85, .ref (md 0)]) := by
      intro y85 ez
      rw [ez] at hm
      refine va_put (D := (dC, dI)) (ci := 3) (v := .int y85) (ty := .int) (C := RX3) (T := TX3) (N := 18) hx hb hts ziX3 tyX3 tyX3_ok nmX3 hown hK hP hD hS 0 rfl rfl 0 (by decide) zw0 (fun _ h9 => h9) rfl (by decide +kernel) rfl rfl (Nat.le_of_ble_eq_true rfl) dX3_appendMany_85 (fun H locs hP hD hS => ?_)
      have hP : va_P (dC, dI) vwCl (wM cI cZ md y85 ybd yro yrow ymk yrm yst ypc ybu ybn ymg ysp yjn ymd ybg ymm yup yun) H := hP
      have hD : va_D A (wM cI cZ md y85 ybd yro yrow ymk yrm yst ypc ybu ybn ymg ysp yjn ymd ybg ymm yup yun) := hD
      refine lv_iconst (v := 0) hx hb dX3_appendMany_88 (by decide) ?_
      refine lv_istore (lv' := [(5, .int 0), (0, .ref (md 0)), (1, .int p1), (2, .int p2), (3, .int p3)]) hx hb dX3_appendMany_89 hl (by decide) rfl (fun ls hl => ?_)
      obtain ⟨z_91, hq_91, hm⟩ := ob hm
      have K_91 : ∀ (yrowx91 : Nat → Int32), ∀ (ymkx91 : Nat → Int32), ∀ (yrmx91 : Int32), ∀ (ystx91 : Nat → Int32), ∀ (ypcx91 : Int32), ∀ (yupx91 : Int64), ∀ (yunx91 : Int64), z_91 = (yrowx91, ymkx91, yrmx91, ystx91, ypcx91, yupx91, yunx91) → ∀ (H : Heap) (locs : List Loc), va_P (dC, dI) vwCl (wM cI cZ md y85 ybd yro yrowx91 ymkx91 yrmx91 ystx91 ypcx91 ybu ybn ymg ysp yjn ymd ybg ymm yupx91 yunx91) H → va_D A (wM cI cZ md y85 ybd yro yrowx91 ymkx91 yrmx91 ystx91 ypcx91 ybu ybn ymg ysp yjn ymd ybg ymm yupx91 yunx91) → va_S A s.heap H locs → ∀ (ls : Array Slot), lv_has ls 6 [(0, .ref (md 0))] → W p l e (headSpec wsX3_appendMany ({ frames := 2, cells := 0, slots := 0, locals := 53 } : Room)).room s m ([.ref (md 0), .int p1, .int p2, .int p3] : List Value).toArray below meth c H locs 0 0 (MQ below (zQi (dC, dI) (wM cI cZ md u_yth ybd yro u_yrow u_ymk u_yrm u_yst u_ypc ybu ybn ymg ysp yjn ymd ybg ymm u_yup u_yun) [(cI, .int), (cZ, .boolean)] A r) ([.ref (md 0), .int p1, .int p2, .int p3] : List Value).toArray s 0 0 A) (F0 m 120 ls []) := by
        intro yrowx91 ymkx91 yrmx91 ystx91 ypcx91 yupx91 yunx91 ez H locs hP hD hS ls hl
        rw [ez] at hm
        refine lv_aload_n hx hb dX3_appendMany_120 rfl (lv_at hl 0 rfl) ?_
        refine va_get (D := (dC, dI)) (ci := 3) (v := .int ypcx91) (C := RX3) (T := TX3) (N := 18) hx hb hts ziX3 hown hK hP 0 rfl rfl 7 (by decide) zw1 (fun _ h9 => h9) rfl dX3_appendMany_121 ?_
        cases o2 hm
        exact W.iret hx hb hr (fun t ht hW => ⟨⟨_, (), rfl, rfl, by rw [ht]; exact hP, va_K.moved hW.alike hK, hD⟩, hS.F ht⟩) hS.2.2 dX3_appendMany_124
      have L_91 : ∀ (n : Nat) (x5 : Int32) (yrowl91 : Nat → Int32) (ymkl91 : Nat → Int32) (yrml91 : Int32) (ystl91 : Nat → Int32) (ypcl91 : Int32) (yupl91 : Int64) (yunl91 : Int64), X3_appendMany_L91 p1 p2 p3 ybd F y85 n x5 yrowl91 ymkl91 yrml91 ystl91 ypcl91 yupl91 yunl91 = some z_91 → ∀ (H : Heap) (locs : List Loc), va_P (dC, dI) vwCl (wM cI cZ md y85 ybd yro yrowl91 ymkl91 yrml91 ystl91 ypcl91 ybu ybn ymg ysp yjn ymd ybg ymm yupl91 yunl91) H → va_D A (wM cI cZ md y85 ybd yro yrowl91 ymkl91 yrml91 ystl91 ypcl91 ybu ybn ymg ysp yjn ymd ybg ymm yupl91 yunl91) → va_S A s.heap H locs → ∀ (ls : Array Slot), lv_has ls 6 [(5, .int x5), (0, .ref (md 0)), (1, .int p1), (2, .int p2), (3, .int p3)] → W p l e (headSpec wsX3_appendMany ({ frames := 2, cells := 0, slots := 0, locals := 53 } : Room)).room s m ([.ref (md 0), .int p1, .int p2, .int p3] : List Value).toArray below meth c H locs 0 0 (MQ below (zQi (dC, dI) (wM cI cZ md u_yth ybd yro u_yrow u_ymk u_yrm u_yst u_ypc ybu ybn ymg ysp yjn ymd ybg ymm u_yup u_yun) [(cI, .int), (cZ, .boolean)] A r) ([.ref (md 0), .int p1, .int p2, .int p3] : List Value).toArray s 0 0 A) (F0 m 91 ls []) := by
        intro n
        induction n with
        | zero => intro x5 yrowl91 ymkl91 yrml91 ystl91 ypcl91 yupl91 yunl91 hm; cases hm
        | succ n ih_91 =>
          intro x5 yrowl91 ymkl91 yrml91 ystl91 ypcl91 yupl91 yunl91 hm H locs hP hD hS ls hl
          refine lv_iload hx hb dX3_appendMany_91 (lv_at hl 0 rfl) ?_
          refine lv_iload_n hx hb dX3_appendMany_93 rfl (lv_at hl 4 rfl) ?_
          refine lv_icmp_ge (tgt := 120) hx hb dX3_appendMany_94 (by decide) (fun c_94 => ?_) (fun c_94 => ?_)
          · have hm := it_t hm c_94
            exact K_91 yrowl91 ymkl91 yrml91 ystl91 ypcl91 yupl91 yunl91 (o2 hm) _ _ hP hD hS _ (lv_sub hl [1] rfl)
          · have hm := it_f hm c_94
            refine lv_aload_n hx hb dX3_appendMany_97 rfl (lv_at hl 1 rfl) ?_
            refine va_get (D := (dC, dI)) (ci := 3) (v := .int y85) (C := RX3) (T := TX3) (N := 18) hx hb hts ziX3 hown hK hP 0 rfl rfl 0 (by decide) zw0 (fun _ h9 => h9) rfl dX3_appendMany_98 ?_
            refine lv_if_ne (tgt := 120) hx hb dX3_appendMany_101 (by decide) (fun c_101 => ?_) (fun c_101 => ?_)
            · have hm := it_f hm c_101
              exact K_91 yrowl91 ymkl91 yrml91 ystl91 ypcl91 yupl91 yunl91 (o2 hm) _ _ hP hD hS _ (lv_sub hl [1] rfl)
            · have hm := it_t hm c_101
              refine lv_aload_n hx hb dX3_appendMany_104 rfl (lv_at hl 1 rfl) ?_
              refine lv_iload_n hx hb dX3_appendMany_105 rfl (lv_at hl 2 rfl) ?_
              refine lv_iload_n hx hb dX3_appendMany_106 rfl (lv_at hl 3 rfl) ?_
              refine lv_iload hx hb dX3_appendMany_107 (lv_at hl 0 rfl) ?_
              refine lv_imul hx hb dX3_appendMany_109 ?_
              refine lv_iadd hx hb dX3_appendMany_110 ?_
              obtain ⟨⟨yrow111, ymk111, yrm111, yst111, ypc111, yup111, yun111⟩, h_111, hm⟩ := ob hm
              refine z_callWv (wc := (wM cI cZ md y85 ybd yro yrowl91 ymkl91 yrml91 ystl91 ypcl91 ybu ybn ymg ysp yjn ymd ybg ymm yupl91 yunl91)) (w1 := (wM cI cZ md y85 ybd yro yrow111 ymk111 yrm111 yst111 ypc111 ybu ybn ymg ysp yjn ymd ybg ymm yup111 yun111)) (ws := (wM cI cZ md y85 ybd yro yrowl91 ymkl91 yrml91 ystl91 ypcl91 ybu ybn ymg ysp yjn ymd ybg ymm yupl91 yunl91)) (ws' := (wM cI cZ md y85 ybd yro yrow111 ymk111 yrm111 yst111 ypc111 ybu ybn ymg ysp yjn ymd ybg ymm yup111 yun111)) [0, 1, 2, 3, 4, 5, 6] [] 7 (As := [.int (p1 + (p2 * x5))]) (rest := []) (ci := 3) (q := (RX3, TX3, 18)) ⟨hx, hb, hml, hown, hts⟩ (c_X3_ends l dC dI cI cZ md y85 ybd yro yrowl91 ymkl91 yrml91 ystl91 ypcl91 ybu ybn ymg ysp yjn ymd ybg ymm yupl91 yunl91 F (p1 + (p2 * x5)) H.size yrow111 ymk111 yrm111 yst111 ypc111 yup111 yun111 h_111) (cwV 1 hts gX3_appendMany_X3_ends rfl rfl rfl kv_X3_ends ⟨Nat.le_of_ble_eq_true rfl, Nat.le_of_ble_eq_true rfl⟩) hK hP hD hS hA hP hD rfl rfl (by decide) rfl rfl (by decide) rfl rfl rfl rfl rfl hl.1 rfl (Nat.le_of_ble_eq_true rfl) dX3_appendMany_111 ⟨Nat.zero_le _, Nat.zero_le _⟩ (fun H locs hP hD hS => ?_)
              obtain ⟨x5_1, e_x5_1⟩ : ∃ y : Int32, y = x5 + 1 := ⟨_, rfl⟩
              have hm := bnd_e hm e_x5_1
              refine lv_iinc (v := x5_1) (lv' := [(5, .int x5_1), (0, .ref (md 0)), (1, .int p1), (2, .int p2), (3, .int p3)]) hx hb dX3_appendMany_114 hl (k := 0) rfl (by rw [e_x5_1]; rfl) (by decide) rfl (fun ls hl => ?_)
              refine lv_goto (tgt := 91) hx hb dX3_appendMany_117 (by decide) ?_
              exact ih_91 x5_1 yrow111 ymk111 yrm111 yst111 ypc111 yup111 yun111 hm _ _ hP hD hS _ (lv_sub hl [0, 1, 2, 3, 4] rfl)
      exact L_91 F 0 yrow ymk yrm yst ypc yup yun hq_91 _ _ hP hD hS _ (lv_sub hl [0, 1, 2, 3, 4] rfl)
    have hm := hq_85
    refine lv_if_eq (tgt := 56) hx hb dX3_appendMany_40 (by decide) (fun c_40 => ?_) (fun c_40 => ?_)
    · have hm := it_t hm c_40
      refine lv_iconst (v := 1) hx hb dX3_appendMany_56 (by decide) ?_
      refine lv_goto (tgt := 85) hx hb dX3_appendMany_57 (by decide) ?_
      exact J_85 1 (o2 hm)
    · have hm := it_f hm c_40
      refine lv_iload_n hx hb dX3_appendMany_43 rfl (lv_at hl 2 rfl) ?_
      refine lv_iload_n hx hb dX3_appendMany_44 rfl (lv_at hl 3 rfl) ?_
      refine lv_iload_n hx hb dX3_appendMany_45 rfl (lv_at hl 4 rfl) ?_
      refine lv_iconst (v := 1) hx hb dX3_appendMany_46 (by decide) ?_
      refine lv_isub hx hb dX3_appendMany_47 ?_
      refine lv_imul hx hb dX3_appendMany_48 ?_
      refine lv_iadd hx hb dX3_appendMany_49 ?_
      obtain ⟨r50, h_50, hm⟩ := ob hm
      refine z_callSi (As := [.int (p1 + (p2 * (p3 - 1)))]) (rest := [.ref (md 0)]) ⟨hx, hb, hml, hown, hts⟩ (c_X3_isKey l dC dI F (p1 + (p2 * (p3 - 1))) r50 h_50) (va_cwS 1 hts gX3_appendMany_X3_isKey rfl rfl rfl ks_X3_isKey ⟨Nat.le_of_ble_eq_true rfl, Nat.le_of_ble_eq_true rfl⟩) (hK.sub (tys' := []) [] rfl) z_P0 rfl hl.1 rfl (Nat.le_of_ble_eq_true rfl) dX3_appendMany_50 ⟨Nat.zero_le _, Nat.zero_le _⟩ ?_
      refine lv_if_ne (tgt := 60) hx hb dX3_appendMany_53 (by decide) (fun c_53 => ?_) (fun c_53 => ?_)
      · have hm := it_f hm c_53
        refine lv_aload_n hx hb dX3_appendMany_60 rfl (lv_at hl 1 rfl) ?_
        obtain ⟨r61, h_61, hm⟩ := ob hm
        refine z_callRi (As := []) (rest := [.ref (md 0)]) (ci := 3) (q := (RX3, TX3, 18)) ⟨hx, hb, hml, hown, hts⟩ (c_X3_many l dC dI cI cZ md yth ybd yro yrow ymk yrm yst ypc ybu ybn ymg ysp yjn ymd ybg ymm yup yun F r61 h_61) (cwV 0 hts gX3_appendMany_X3_many rfl rfl rfl kv_X3_many ⟨Nat.le_of_ble_eq_true rfl, Nat.le_of_ble_eq_true rfl⟩) hK hP rfl rfl rfl rfl hl.1 rfl (Nat.le_of_ble_eq_true rfl) dX3_appendMany_61 ⟨Nat.zero_le _, Nat.zero_le _⟩ ?_
        refine lv_iload_n hx hb dX3_appendMany_64 rfl (lv_at hl 4 rfl) ?_
        refine lv_iadd hx hb dX3_appendMany_65 ?_
        refine lv_sipush (v := 256) hx hb dX3_appendMany_66 (by decide) ?_
        refine lv_icmp_gt (tgt := 80) hx hb dX3_appendMany_69 (by decide) (fun c_69 => ?_) (fun c_69 => ?_)
        · have hm := it_t hm c_69
          refine lv_iconst (v := 2) hx hb dX3_appendMany_80 (by decide) ?_
          refine lv_goto (tgt := 85) hx hb dX3_appendMany_81 (by decide) ?_
          exact J_85 2 (o2 hm)
        · have hm := it_f hm c_69
          refine lv_aload_n hx hb dX3_appendMany_72 rfl (lv_at hl 1 rfl) ?_
          refine lv_iload_n hx hb dX3_appendMany_73 rfl (lv_at hl 2 rfl) ?_
          obtain ⟨r74, h_74, hm⟩ := ob hm
          refine z_callRi (As := [.int p1]) (rest := [.ref (md 0)]) (ci := 3) (q := (RX3, TX3, 18)) ⟨hx, hb, hml, hown, hts⟩ (c_X3_isAbove l dC dI cI cZ md yth ybd yro yrow ymk yrm yst ypc ybu ybn ymg ysp yjn ymd ybg ymm yup yun F p1 r74 h_74) (cwV 1 hts gX3_appendMany_X3_isAbove rfl rfl rfl kv_X3_isAbove ⟨Nat.le_of_ble_eq_true rfl, Nat.le_of_ble_eq_true rfl⟩) hK hP rfl rfl rfl rfl hl.1 rfl (Nat.le_of_ble_eq_true rfl) dX3_appendMany_74 ⟨Nat.zero_le _, Nat.zero_le _⟩ ?_
          refine lv_if_ne (tgt := 84) hx hb dX3_appendMany_77 (by decide) (fun c_77 => ?_) (fun c_77 => ?_)
          · have hm := it_f hm c_77
            refine lv_iconst (v := 0) hx hb dX3_appendMany_84 (by decide) ?_
            exact J_85 0 (o2 hm)
          · have hm := it_t hm c_77
            refine lv_iconst (v := 2) hx hb dX3_appendMany_80 (by decide) ?_
            refine lv_goto (tgt := 85) hx hb dX3_appendMany_81 (by decide) ?_
            exact J_85 2 (o2 hm)
      · have hm := it_t hm c_53
        refine lv_iconst (v := 1) hx hb dX3_appendMany_56 (by decide) ?_
        refine lv_goto (tgt := 85) hx hb dX3_appendMany_57 (by decide) ?_
        exact J_85 1 (o2 hm)
  refine lv_if_eq (tgt := 34) hx hb dX3_appendMany_4 (by decide) (fun c_4 => ?_) (fun c_4 => ?_)
  · refine lv_iconst (v := 0) hx hb dX3_appendMany_34 (by decide) ?_
    have e9 : y35 = 0 := by rw [e_y35, if_pos c_4]
    rw [e9] at J_35
    exact J_35
  · refine lv_iload_n hx hb dX3_appendMany_7 rfl (lv_at hl 2 rfl) ?_
    refine lv_iconst (v := 1) hx hb dX3_appendMany_8 (by decide) ?_
    refine lv_icmp_lt (tgt := 34) hx hb dX3_appendMany_9 (by decide) (fun c_9 => ?_) (fun c_9 => ?_)
    · refine lv_iconst (v := 0) hx hb dX3_appendMany_34 (by decide) ?_
      have e9 : y35 = 0 := by rw [e_y35, if_neg c_4, if_pos c_9]
      rw [e9] at J_35
      exact J_35
    · refine lv_iload_n hx hb dX3_appendMany_12 rfl (lv_at hl 2 rfl) ?_
      refine lv_sipush (v := 10000) hx hb dX3_appendMany_13 (by decide) ?_
      refine lv_icmp_gt (tgt := 34) hx hb dX3_appendMany_16 (by decide) (fun c_16 => ?_) (fun c_16 => ?_)
      · refine lv_iconst (v := 0) hx hb dX3_appendMany_34 (by decide) ?_
        have e9 : y35 = 0 := by rw [e_y35, if_neg c_4, if_neg c_9, if_pos c_16]
        rw [e9] at J_35
        exact J_35
      · refine lv_iload_n hx hb dX3_appendMany_19 rfl (lv_at hl 3 rfl) ?_
        refine lv_iconst (v := 1) hx hb dX3_appendMany_20 (by decide) ?_
        refine lv_icmp_lt (tgt := 34) hx hb dX3_appendMany_21 (by decide) (fun c_21 => ?_) (fun c_21 => ?_)
        · refine lv_iconst (v := 0) hx hb dX3_appendMany_34 (by decide) ?_
          have e9 : y35 = 0 := by rw [e_y35, if_neg c_4, if_neg c_9, if_neg c_16, if_pos c_21]
          rw [e9] at J_35
          exact J_35
        · refine lv_iload_n hx hb dX3_appendMany_24 rfl (lv_at hl 3 rfl) ?_
          refine lv_bipush (v := 100) hx hb dX3_appendMany_25 (by decide) ?_
          refine lv_icmp_gt (tgt := 34) hx hb dX3_appendMany_27 (by decide) (fun c_27 => ?_) (fun c_27 => ?_)
          · refine lv_iconst (v := 0) hx hb dX3_appendMany_34 (by decide) ?_
            have e9 : y35 = 0 := by rw [e_y35, if_neg c_4, if_neg c_9, if_neg c_16, if_neg c_21, if_pos c_27]
            rw [e9] at J_35
            exact J_35
          · refine lv_iconst (v := 1) hx hb dX3_appendMany_30 (by decide) ?_
            refine lv_goto (tgt := 35) hx hb dX3_appendMany_31 (by decide) ?_
            have e9 : y35 = 1 := by rw [e_y35, if_neg c_4, if_neg c_9, if_neg c_16, if_neg c_21, if_neg c_27]
            rw [e9] at J_35
            exact J_35
set_option maxHeartbeats 4000000 in
set_option maxRecDepth 100000 in
theorem c_X3_makes (l : Launch) (dC : Nat → ClassId) (dI : Nat → Nat → Nat) (cI : ClassId) (cZ : ClassId) (md : Nat → Nat) (yth : Int32) (ybd : Int32) (yro : Int32) (yrow : Nat → Int32) (ymk : Nat → Int32) (yrm : Int32) (yst : Nat → Int32) (ypc : Int32) (ybu : Nat → Int32) (ybn : Int32) (ymg : Int32) (ysp : Int32) (yjn : Int32) (ymd : Nat → Int32) (ybg : Nat → Int32) (ymm : Int32) (yup : Int64) (yun : Int64) (F : Nat) (p1 : Int32) (sz : Nat) (u_ymd : Nat → Int32) (u_ymm : Int32) (hm : X3_makes F ymd ymm p1 = some (u_ymd, u_ymm)) : Met l yX3_makes wsX3_makes ({ frames := 0, cells := 0, slots := 0, locals := 0 }) (va_Pc [.ref (md 0), .int p1] (zW (dC, dI) (wM cI cZ md yth ybd yro yrow ymk yrm yst ypc ybu ybn ymg ysp yjn ymd ybg ymm yup yun) [(cI, .int), (cZ, .boolean)] sz)) (zQv (dC, dI) (wM cI cZ md yth ybd yro yrow ymk yrm yst ypc ybu ybn ymg ysp yjn u_ymd ybg u_ymm yup yun) [(cI, .int), (cZ, .boolean)] (va_A (wM cI cZ md yth ybd yro yrow ymk yrm yst ypc ybu ybn ymg ysp yjn ymd ybg ymm yup yun) sz)) 0 0 (va_A (wM cI cZ md yth ybd yro yrow ymk yrm yst ypc ybu ybn ymg ysp yjn ymd ybg ymm yup yun) sz) := by
  refine Met.ofW (cc := cX3_makes) (maxL := 3) (ret := none) (by decide) rfl ?_
  intro p e s m args below meth c s₁ B hml hv
  obtain ⟨rfl, hsz, hP, hK, hD0⟩ := hv
  have hx := B.exec
  have hb := B.bytes
  have hr := B.returns
  have hts := atoms_spec (ws := wsX3_makes) B.pre
  have hown : s.vm.findClass RX3 = some m.cls := findClass_of_methodNamed B.named
  have hlocks := B.notSynchronized
  subst hsz
  have hD := hD0.self (sz := s.heap.size)
  generalize hAe : va_A (wM cI cZ md yth ybd yro yrow ymk yrm yst ypc ybu ybn ymg ysp yjn ymd ybg ymm yup yun) s.heap.size = A at hD ⊢
  have hA : ∀ q : Nat, s.heap.size ≤ q → A q := fun q h => by rw [← hAe]; exact Or.inr h
  have hS : va_S A s.heap s.heap [] := va_S.rf
  generalize eL : ([] : List Loc) = locs at hS ⊢
  obtain ⟨H, eH⟩ : ∃ z : Heap, z = s.heap := ⟨_, rfl⟩
  have hP : va_P (dC, dI) vwCl (wM cI cZ md yth ybd yro yrow ymk yrm yst ypc ybu ybn ymg ysp yjn ymd ybg ymm yup yun) H := by rw [eH]; exact hP
  have hS : va_S A s.heap H locs := by rw [eH]; exact hS
  refine z_heap eH ?_
  have hl := lv_entry ([.ref (md 0), .int p1]) (n := 3) (Nat.le_of_ble_eq_true rfl)
  rw [lg_entry_eq]
  generalize (lg_sl ([.ref (md 0), .int p1]) ++ List.replicate (3 - (lg_sl ([.ref (md 0), .int p1])).length) Slot.unset).toArray = ls at hl ⊢
  have hl : lv_has ls 3 [(0, .ref (md 0)), (1, .int p1)] := hl
  have zw0 := hts (.fieldLink RX3 102 "LearnedLedgeModel" "madeMany" "I") (by decide +kernel)
  have zw1 := hts (.fieldLink RX3 30 "LearnedLedgeModel" "made" "[I") (by decide +kernel)
  have ziX3 : ∀ w ∈ u_ws RX3 TX3 18, w ∈ wsX3_makes := by decide +kernel
  refine lv_aload_n hx hb dX3_makes_0 rfl (lv_at hl 0 rfl) ?_
  refine va_get (D := (dC, dI)) (ci := 3) (v := .int ymm) (C := RX3) (T := TX3) (N := 18) hx hb hts ziX3 hown hK hP 0 rfl rfl 15 (by decide) zw0 (fun _ h9 => h9) rfl dX3_makes_1 ?_
  refine lv_istore_n (lv' := [(2, .int ymm), (0, .ref (md 0)), (1, .int p1)]) hx hb dX3_makes_4 rfl hl (by decide) rfl (fun ls hl => ?_)
  obtain ⟨z_5, hq_5, hm⟩ := ob hm
  have K_5 : ∀ (x2_2 : Int32), ∀ (ymdx5 : Nat → Int32), z_5 = (x2_2, ymdx5) → ∀ (H : Heap) (locs : List Loc), va_P (dC, dI) vwCl (wM cI cZ md yth ybd yro yrow ymk yrm yst ypc ybu ybn ymg ysp yjn ymdx5 ybg ymm yup yun) H → va_D A (wM cI cZ md yth ybd yro yrow ymk yrm yst ypc ybu ybn ymg ysp yjn ymdx5 ybg ymm yup yun) → va_S A s.heap H locs → ∀ (ls : Array Slot), lv_has ls 3 [(2, .int x2_2), (0, .ref (md 0)), (1, .int p1)] → W p l e (headSpec wsX3_makes ({ frames := 0, cells := 0, slots := 0, locals := 0 } : Room)).room s m ([.ref (md 0), .int p1] : List Value).toArray below meth c H locs 0 0 (MQ below (zQv (dC, dI) (wM cI cZ md yth ybd yro yrow ymk yrm yst ypc ybu ybn ymg ysp yjn u_ymd ybg u_ymm yup yun) [(cI, .int), (cZ, .boolean)] A) ([.ref (md 0), .int p1] : List Value).toArray s 0 0 A) (F0 m 41 ls []) := by
    intro x2_2 ymdx5 ez H locs hP hD hS ls hl
    rw [ez] at hm
    refine lv_aload_n hx hb dX3_makes_41 rfl (lv_at hl 1 rfl) ?_
    refine va_get (D := (dC, dI)) (ci := 3) (v := .ref (md 5)) (C := RX3) (T := TX3) (N := 18) hx hb hts ziX3 hown hK hP 0 rfl rfl 13 (by decide) zw1 (fun _ h9 => h9) rfl dX3_makes_42 ?_
    refine lv_iload_n hx hb dX3_makes_45 rfl (lv_at hl 0 rfl) ?_
    refine lv_iload_n hx hb dX3_makes_46 rfl (lv_at hl 2 rfl) ?_
    obtain ⟨c_47, hm⟩ := ck hm
    refine va_iast hx hb hK hP hD hS 5 0 rfl rfl c_47 dX3_makes_47 (fun H locs hP hD hS => ?_)
    have hP : va_P (dC, dI) vwCl (wM cI cZ md yth ybd yro yrow ymk yrm yst ypc ybu ybn ymg ysp yjn (upd ymdx5 (Int32.toNatClampNeg x2_2) p1) ybg ymm yup yun) H := hP
    have hD : va_D A (wM cI cZ md yth ybd yro yrow ymk yrm yst ypc ybu ybn ymg ysp yjn (upd ymdx5 (Int32.toNatClampNeg x2_2) p1) ybg ymm yup yun) := hD
    refine lv_aload_n hx hb dX3_makes_48 rfl (lv_at hl 1 rfl) ?_
    refine lv_dup hx hb dX3_makes_49 rfl ?_
    refine va_get (D := (dC, dI)) (ci := 3) (v := .int ymm) (C := RX3) (T := TX3) (N := 18) hx hb hts ziX3 hown hK hP 0 rfl rfl 15 (by decide) zw0 (fun _ h9 => h9) rfl dX3_makes_50 ?_
    refine lv_iconst (v := 1) hx hb dX3_makes_53 (by decide) ?_
    refine lv_iadd hx hb dX3_makes_54 ?_
    refine va_put (D := (dC, dI)) (ci := 3) (v := .int (ymm + 1)) (ty := .int) (C := RX3) (T := TX3) (N := 18) hx hb hts ziX3 tyX3 tyX3_ok nmX3 hown hK hP hD hS 0 rfl rfl 15 (by decide) zw0 (fun _ h9 => h9) rfl (by decide +kernel) rfl rfl (Nat.le_of_ble_eq_true rfl) dX3_makes_55 (fun H locs hP hD hS => ?_)
    have hP : va_P (dC, dI) vwCl (wM cI cZ md yth ybd yro yrow ymk yrm yst ypc ybu ybn ymg ysp yjn (upd ymdx5 (Int32.toNatClampNeg x2_2) p1) ybg (ymm + 1) yup yun) H := hP
    have hD : va_D A (wM cI cZ md yth ybd yro yrow ymk yrm yst ypc ybu ybn ymg ysp yjn (upd ymdx5 (Int32.toNatClampNeg x2_2) p1) ybg (ymm + 1) yup yun) := hD
    cases o2 hm
    exact W.vret hx hb hr (fun t ht hW => ⟨⟨(), rfl, trivial, by rw [ht]; exact hP, va_K.moved hW.alike hK, hD⟩, hS.F ht⟩) hS.2.2 dX3_makes_58
  have L_5 : ∀ (n : Nat) (x2 : Int32) (ymdl5 : Nat → Int32), X3_makes_L5 p1 n x2 ymdl5 = some z_5 → ∀ (H : Heap) (locs : List Loc), va_P (dC, dI) vwCl (wM cI cZ md yth ybd yro yrow ymk yrm yst ypc ybu ybn ymg ysp yjn ymdl5 ybg ymm yup yun) H → va_D A (wM cI cZ md yth ybd yro yrow ymk yrm yst ypc ybu ybn ymg ysp yjn ymdl5 ybg ymm yup yun) → va_S A s.heap H locs → ∀ (ls : Array Slot), lv_has ls 3 [(2, .int x2), (0, .ref (md 0)), (1, .int p1)] → W p l e (headSpec wsX3_makes ({ frames := 0, cells := 0, slots := 0, locals := 0 } : Room)).room s m ([.ref (md 0), .int p1] : List Value).toArray below meth c H locs 0 0 (MQ below (zQv (dC, dI) (wM cI cZ md yth ybd yro yrow ymk yrm yst ypc ybu ybn ymg ysp yjn u_ymd ybg u_ymm yup yun) [(cI, .int), (cZ, .boolean)] A) ([.ref (md 0), .int p1] : List Value).toArray s 0 0 A) (F0 m 5 ls []) := by
    intro n
    induction n with
    | zero => intro x2 ymdl5 hm; cases hm
    | succ n ih_5 =>
      intro x2 ymdl5 hm H locs hP hD hS ls hl
      refine lv_iload_n hx hb dX3_makes_5 rfl (lv_at hl 0 rfl) ?_
      refine lv_if_le (tgt := 41) hx hb dX3_makes_6 (by decide) (fun c_6 => ?_) (fun c_6 => ?_)
      · have hm := it_t hm c_6
        exact K_5 x2 ymdl5 (o2 hm) _ _ hP hD hS _ (lv_sub hl [0, 1, 2] rfl)
      · have hm := it_f hm c_6
        refine lv_aload_n hx hb dX3_makes_9 rfl (lv_at hl 1 rfl) ?_
        refine va_get (D := (dC, dI)) (ci := 3) (v := .ref (md 5)) (C := RX3) (T := TX3) (N := 18) hx hb hts ziX3 hown hK hP 0 rfl rfl 13 (by decide) zw1 (fun _ h9 => h9) rfl dX3_makes_10 ?_
        refine lv_iload_n hx hb dX3_makes_13 rfl (lv_at hl 0 rfl) ?_
        refine lv_iconst (v := 1) hx hb dX3_makes_14 (by decide) ?_
        refine lv_isub hx hb dX3_makes_15 ?_
        obtain ⟨c_16, hm⟩ := ck hm
        refine va_iald hx hb hK hP 5 0 rfl rfl c_16 dX3_makes_16 ?_
        refine lv_iload_n hx hb dX3_makes_17 rfl (lv_at hl 2 rfl) ?_
        refine lv_icmp_le (tgt := 41) hx hb dX3_makes_18 (by decide) (fun c_18 => ?_) (fun c_18 => ?_)
        · have hm := it_t hm c_18
          exact K_5 x2 ymdl5 (o2 hm) _ _ hP hD hS _ (lv_sub hl [0, 1, 2] rfl)
        · have hm := it_f hm c_18
          refine lv_aload_n hx hb dX3_makes_21 rfl (lv_at hl 1 rfl) ?_
          refine va_get (D := (dC, dI)) (ci := 3) (v := .ref (md 5)) (C := RX3) (T := TX3) (N := 18) hx hb hts ziX3 hown hK hP 0 rfl rfl 13 (by decide) zw1 (fun _ h9 => h9) rfl dX3_makes_22 ?_
          refine lv_iload_n hx hb dX3_makes_25 rfl (lv_at hl 0 rfl) ?_
          refine lv_aload_n hx hb dX3_makes_26 rfl (lv_at hl 1 rfl) ?_
          refine va_get (D := (dC, dI)) (ci := 3) (v := .ref (md 5)) (C := RX3) (T := TX3) (N := 18) hx hb hts ziX3 hown hK hP 0 rfl rfl 13 (by decide) zw1 (fun _ h9 => h9) rfl dX3_makes_27 ?_
          refine lv_iload_n hx hb dX3_makes_30 rfl (lv_at hl 0 rfl) ?_
          refine lv_iconst (v := 1) hx hb dX3_makes_31 (by decide) ?_
          refine lv_isub hx hb dX3_makes_32 ?_
          obtain ⟨c_33, hm⟩ := ck hm
          refine va_iald hx hb hK hP 5 0 rfl rfl c_33 dX3_makes_33 ?_
          obtain ⟨c_34, hm⟩ := ck hm
          refine va_iast hx hb hK hP hD hS 5 0 rfl rfl c_34 dX3_makes_34 (fun H locs hP hD hS => ?_)
          have hP : va_P (dC, dI) vwCl (wM cI cZ md yth ybd yro yrow ymk yrm yst ypc ybu ybn ymg ysp yjn (upd ymdl5 (Int32.toNatClampNeg x2) (ymdl5 (Int32.toNatClampNeg (x2 - 1)))) ybg ymm yup yun) H := hP
          have hD : va_D A (wM cI cZ md yth ybd yro yrow ymk yrm yst ypc ybu ybn ymg ysp yjn (upd ymdl5 (Int32.toNatClampNeg x2) (ymdl5 (Int32.toNatClampNeg (x2 - 1)))) ybg ymm yup yun) := hD
          obtain ⟨x2_1, e_x2_1⟩ : ∃ y : Int32, y = x2 + (-1) := ⟨_, rfl⟩
          have hm := bnd_e hm e_x2_1
          refine lv_iinc (v := x2_1) (lv' := [(2, .int x2_1), (0, .ref (md 0)), (1, .int p1)]) hx hb dX3_makes_35 hl (k := 0) rfl (by rw [e_x2_1]; rfl) (by decide) rfl (fun ls hl => ?_)
          refine lv_goto (tgt := 5) hx hb dX3_makes_38 (by decide) ?_
          exact ih_5 x2_1 (upd ymdl5 (Int32.toNatClampNeg x2) (ymdl5 (Int32.toNatClampNeg (x2 - 1)))) hm _ _ hP hD hS _ (lv_sub hl [0, 1, 2] rfl)
  exact L_5 F ymm ymd hq_5 _ _ hP hD hS _ (lv_sub hl [0, 1, 2] rfl)
set_option maxHeartbeats 4000000 in
set_option maxRecDepth 100000 in
theorem c_X3_gathers (l : Launch) (dC : Nat → ClassId) (dI : Nat → Nat → Nat) (cI : ClassId) (cZ : ClassId) (md : Nat → Nat) (yth : Int32) (ybd : Int32) (yro : Int32) (yrow : Nat → Int32) (ymk : Nat → Int32) (yrm : Int32) (yst : Nat → Int32) (ypc : Int32) (ybu : Nat → Int32) (ybn : Int32) (ymg : Int32) (ysp : Int32) (yjn : Int32) (ymd : Nat → Int32) (ybg : Nat → Int32) (ymm : Int32) (yup : Int64) (yun : Int64) (F : Nat) (p1 : Int32) (sz : Nat) (r : Int32) (u_ymd : Nat → Int32) (u_ymm : Int32) (hm : X3_gathers F yrow ymk yrm yst ypc ybu ybn ymd ymm p1 = some (r, u_ymd, u_ymm)) : Met l yX3_gathers wsX3_gathers ({ frames := 1, cells := 0, slots := 0, locals := 23 }) (va_Pc [.ref (md 0), .int p1] (zW (dC, dI) (wM cI cZ md yth ybd yro yrow ymk yrm yst ypc ybu ybn ymg ysp yjn ymd ybg ymm yup yun) [(cI, .int), (cZ, .boolean)] sz)) (zQi (dC, dI) (wM cI cZ md yth ybd yro yrow ymk yrm yst ypc ybu ybn ymg ysp yjn u_ymd ybg u_ymm yup yun) [(cI, .int), (cZ, .boolean)] (va_A (wM cI cZ md yth ybd yro yrow ymk yrm yst ypc ybu ybn ymg ysp yjn ymd ybg ymm yup yun) sz) r) 0 0 (va_A (wM cI cZ md yth ybd yro yrow ymk yrm yst ypc ybu ybn ymg ysp yjn ymd ybg ymm yup yun) sz) := by
  refine Met.ofW (cc := cX3_gathers) (maxL := 5) (ret := (some .boolean)) (by decide) rfl ?_
  intro p e s m args below meth c s₁ B hml hv
  obtain ⟨rfl, hsz, hP, hK, hD0⟩ := hv
  have hx := B.exec
  have hb := B.bytes
  have hr := B.returns
  have hts := atoms_spec (ws := wsX3_gathers) B.pre
  have hown : s.vm.findClass RX3 = some m.cls := findClass_of_methodNamed B.named
  have hlocks := B.notSynchronized
  subst hsz
  have hD := hD0.self (sz := s.heap.size)
  generalize hAe : va_A (wM cI cZ md yth ybd yro yrow ymk yrm yst ypc ybu ybn ymg ysp yjn ymd ybg ymm yup yun) s.heap.size = A at hD ⊢
  have hA : ∀ q : Nat, s.heap.size ≤ q → A q := fun q h => by rw [← hAe]; exact Or.inr h
  have hS : va_S A s.heap s.heap [] := va_S.rf
  generalize eL : ([] : List Loc) = locs at hS ⊢
  obtain ⟨H, eH⟩ : ∃ z : Heap, z = s.heap := ⟨_, rfl⟩
  have hP : va_P (dC, dI) vwCl (wM cI cZ md yth ybd yro yrow ymk yrm yst ypc ybu ybn ymg ysp yjn ymd ybg ymm yup yun) H := by rw [eH]; exact hP
  have hS : va_S A s.heap H locs := by rw [eH]; exact hS
  refine z_heap eH ?_
  have hl := lv_entry ([.ref (md 0), .int p1]) (n := 5) (Nat.le_of_ble_eq_true rfl)
  rw [lg_entry_eq]
  generalize (lg_sl ([.ref (md 0), .int p1]) ++ List.replicate (5 - (lg_sl ([.ref (md 0), .int p1])).length) Slot.unset).toArray = ls at hl ⊢
  have hl : lv_has ls 5 [(0, .ref (md 0)), (1, .int p1)] := hl
  have zw0 := hts (.fieldLink RX3 24 "LearnedLedgeModel" "start" "[I") (by decide +kernel)
  have zw1 := hts (.fieldLink RX3 20 "LearnedLedgeModel" "isMarked" "[Z") (by decide +kernel)
  have zw2 := hts (.fieldLink RX3 16 "LearnedLedgeModel" "row" "[I") (by decide +kernel)
  have zw3 := hts (.fieldLink RX3 69 "LearnedLedgeModel" "buffered" "I") (by decide +kernel)
  have zw4 := hts (.fieldLink RX3 27 "LearnedLedgeModel" "buffer" "[I") (by decide +kernel)
  have ziX3 : ∀ w ∈ u_ws RX3 TX3 18, w ∈ wsX3_gathers := by decide +kernel
  refine lv_iconst (v := 0) hx hb dX3_gathers_0 (by decide) ?_
  refine lv_istore_n (lv' := [(2, .int 0), (0, .ref (md 0)), (1, .int p1)]) hx hb dX3_gathers_1 rfl hl (by decide) rfl (fun ls hl => ?_)
  refine lv_aload_n hx hb dX3_gathers_2 rfl (lv_at hl 1 rfl) ?_
  refine va_get (D := (dC, dI)) (ci := 3) (v := .ref (md 3)) (C := RX3) (T := TX3) (N := 18) hx hb hts ziX3 hown hK hP 0 rfl rfl 6 (by decide) zw0 (fun _ h9 => h9) rfl dX3_gathers_3 ?_
  refine lv_iload_n hx hb dX3_gathers_6 rfl (lv_at hl 2 rfl) ?_
  obtain ⟨c_7, hm⟩ := ck hm
  refine va_iald hx hb hK hP 3 0 rfl rfl c_7 dX3_gathers_7 ?_
  refine lv_topi (fun x3 e_x3 => ?_)
  have hm := bnd_e hm e_x3
  refine lv_istore_n (lv' := [(3, .int x3), (2, .int 0), (0, .ref (md 0)), (1, .int p1)]) hx hb dX3_gathers_8 rfl hl (by decide) rfl (fun ls hl => ?_)
  obtain ⟨z_9, hq_9, hm⟩ := ob hm
  have K_9 : ∀ (x2_1 : Int32), ∀ (ymdx9 : Nat → Int32), ∀ (ymmx9 : Int32), z_9 = (x2_1, ymdx9, ymmx9) → ∀ (H : Heap) (locs : List Loc), va_P (dC, dI) vwCl (wM cI cZ md yth ybd yro yrow ymk yrm yst ypc ybu ybn ymg ysp yjn ymdx9 ybg ymmx9 yup yun) H → va_D A (wM cI cZ md yth ybd yro yrow ymk yrm yst ypc ybu ybn ymg ysp yjn ymdx9 ybg ymmx9 yup yun) → va_S A s.heap H locs → ∀ (ls : Array Slot), lv_has ls 5 [(2, .int x2_1), (0, .ref (md 0)), (1, .int p1)] → W p l e (headSpec wsX3_gathers ({ frames := 1, cells := 0, slots := 0, locals := 23 } : Room)).room s m ([.ref (md 0), .int p1] : List Value).toArray below meth c H locs 0 0 (MQ below (zQi (dC, dI) (wM cI cZ md yth ybd yro yrow ymk yrm yst ypc ybu ybn ymg ysp yjn u_ymd ybg u_ymm yup yun) [(cI, .int), (cZ, .boolean)] A r) ([.ref (md 0), .int p1] : List Value).toArray s 0 0 A) (F0 m 48 ls []) := by
    intro x2_1 ymdx9 ymmx9 ez H locs hP hD hS ls hl
    rw [ez] at hm
    refine lv_iconst (v := 0) hx hb dX3_gathers_48 (by decide) ?_
    refine lv_istore_n (lv' := [(3, .int 0), (2, .int x2_1), (0, .ref (md 0)), (1, .int p1)]) hx hb dX3_gathers_49 rfl hl (by decide) rfl (fun ls hl => ?_)
    obtain ⟨z_50, hq_50, hm⟩ := ob hm
    have K_50 : ∀ (x2_3 : Int32), ∀ (ymdx50 : Nat → Int32), ∀ (ymmx50 : Int32), z_50 = (x2_3, ymdx50, ymmx50) → ∀ (H : Heap) (locs : List Loc), va_P (dC, dI) vwCl (wM cI cZ md yth ybd yro yrow ymk yrm yst ypc ybu ybn ymg ysp yjn ymdx50 ybg ymmx50 yup yun) H → va_D A (wM cI cZ md yth ybd yro yrow ymk yrm yst ypc ybu ybn ymg ysp yjn ymdx50 ybg ymmx50 yup yun) → va_S A s.heap H locs → ∀ (ls : Array Slot), lv_has ls 5 [(2, .int x2_3)] → W p l e (headSpec wsX3_gathers ({ frames := 1, cells := 0, slots := 0, locals := 23 } : Room)).room s m ([.ref (md 0), .int p1] : List Value).toArray below meth c H locs 0 0 (MQ below (zQi (dC, dI) (wM cI cZ md yth ybd yro yrow ymk yrm yst ypc ybu ybn ymg ysp yjn u_ymd ybg u_ymm yup yun) [(cI, .int), (cZ, .boolean)] A r) ([.ref (md 0), .int p1] : List Value).toArray s 0 0 A) (F0 m 104 ls []) := by
      intro x2_3 ymdx50 ymmx50 ez H locs hP hD hS ls hl
      rw [ez] at hm
      refine lv_iload_n hx hb dX3_gathers_104 rfl (lv_at hl 0 rfl) ?_
      obtain ⟨c_105, hm⟩ := ck hm
      cases o2 hm
      exact W.zret hx hb hr (nar_b c_105) (fun t ht hW => ⟨⟨_, (), rfl, rfl, by rw [ht]; exact hP, va_K.moved hW.alike hK, hD⟩, hS.F ht⟩) hS.2.2 dX3_gathers_105
    have L_50 : ∀ (n : Nat) (x3_4 : Int32) (x2_2 : Int32) (ymdl50 : Nat → Int32) (ymml50 : Int32), X3_gathers_L50 p1 yrow yst ypc ybu ybn F n x3_4 x2_2 ymdl50 ymml50 = some z_50 → ∀ (H : Heap) (locs : List Loc), va_P (dC, dI) vwCl (wM cI cZ md yth ybd yro yrow ymk yrm yst ypc ybu ybn ymg ysp yjn ymdl50 ybg ymml50 yup yun) H → va_D A (wM cI cZ md yth ybd yro yrow ymk yrm yst ypc ybu ybn ymg ysp yjn ymdl50 ybg ymml50 yup yun) → va_S A s.heap H locs → ∀ (ls : Array Slot), lv_has ls 5 [(3, .int x3_4), (2, .int x2_2), (0, .ref (md 0)), (1, .int p1)] → W p l e (headSpec wsX3_gathers ({ frames := 1, cells := 0, slots := 0, locals := 23 } : Room)).room s m ([.ref (md 0), .int p1] : List Value).toArray below meth c H locs 0 0 (MQ below (zQi (dC, dI) (wM cI cZ md yth ybd yro yrow ymk yrm yst ypc ybu ybn ymg ysp yjn u_ymd ybg u_ymm yup yun) [(cI, .int), (cZ, .boolean)] A r) ([.ref (md 0), .int p1] : List Value).toArray s 0 0 A) (F0 m 50 ls []) := by
      intro n
      induction n with
      | zero => intro x3_4 x2_2 ymdl50 ymml50 hm; cases hm
      | succ n ih_50 =>
        intro x3_4 x2_2 ymdl50 ymml50 hm H locs hP hD hS ls hl
        refine lv_iload_n hx hb dX3_gathers_50 rfl (lv_at hl 0 rfl) ?_
        refine lv_aload_n hx hb dX3_gathers_51 rfl (lv_at hl 2 rfl) ?_
        refine va_get (D := (dC, dI)) (ci := 3) (v := .int ybn) (C := RX3) (T := TX3) (N := 18) hx hb hts ziX3 hown hK hP 0 rfl rfl 9 (by decide) zw3 (fun _ h9 => h9) rfl dX3_gathers_52 ?_
        refine lv_icmp_ge (tgt := 104) hx hb dX3_gathers_55 (by decide) (fun c_55 => ?_) (fun c_55 => ?_)
        · have hm := it_t hm c_55
          exact K_50 x2_2 ymdl50 ymml50 (o2 hm) _ _ hP hD hS _ (lv_sub hl [1] rfl)
        · have hm := it_f hm c_55
          refine lv_aload_n hx hb dX3_gathers_58 rfl (lv_at hl 2 rfl) ?_
          refine lv_aload_n hx hb dX3_gathers_59 rfl (lv_at hl 2 rfl) ?_
          refine va_get (D := (dC, dI)) (ci := 3) (v := .ref (md 4)) (C := RX3) (T := TX3) (N := 18) hx hb hts ziX3 hown hK hP 0 rfl rfl 8 (by decide) zw4 (fun _ h9 => h9) rfl dX3_gathers_60 ?_
          refine lv_iload_n hx hb dX3_gathers_63 rfl (lv_at hl 0 rfl) ?_
          obtain ⟨c_64, hm⟩ := ck hm
          refine va_iald hx hb hK hP 4 0 rfl rfl c_64 dX3_gathers_64 ?_
          obtain ⟨r65, h_65, hm⟩ := ob hm
          refine z_callRi (As := [.int (ybu (Int32.toNatClampNeg x3_4))]) (rest := []) (ci := 3) (q := (RX3, TX3, 18)) ⟨hx, hb, hml, hown, hts⟩ (c_X3_pieceOf l dC dI cI cZ md yth ybd yro yrow ymk yrm yst ypc ybu ybn ymg ysp yjn ymdl50 ybg ymml50 yup yun F (ybu (Int32.toNatClampNeg x3_4)) r65 h_65) (cwV 1 hts gX3_gathers_X3_pieceOf rfl rfl rfl kv_X3_pieceOf ⟨Nat.le_of_ble_eq_true rfl, Nat.le_of_ble_eq_true rfl⟩) hK hP rfl rfl rfl rfl hl.1 rfl (Nat.le_of_ble_eq_true rfl) dX3_gathers_65 ⟨Nat.zero_le _, Nat.zero_le _⟩ ?_
          refine lv_istore (lv' := [(4, .int r65), (3, .int x3_4), (2, .int x2_2), (0, .ref (md 0)), (1, .int p1)]) hx hb dX3_gathers_68 hl (by decide) rfl (fun ls hl => ?_)
          refine lv_iload hx hb dX3_gathers_70 (lv_at hl 0 rfl) ?_
          refine lv_iload_n hx hb dX3_gathers_72 rfl (lv_at hl 4 rfl) ?_
          refine lv_icmp_eq (tgt := 86) hx hb dX3_gathers_73 (by decide) (fun c_73 => ?_) (fun c_73 => ?_)
          · have hm := it_t hm c_73
            refine lv_aload_n hx hb dX3_gathers_86 rfl (lv_at hl 3 rfl) ?_
            refine lv_aload_n hx hb dX3_gathers_87 rfl (lv_at hl 3 rfl) ?_
            refine va_get (D := (dC, dI)) (ci := 3) (v := .ref (md 4)) (C := RX3) (T := TX3) (N := 18) hx hb hts ziX3 hown hK hP 0 rfl rfl 8 (by decide) zw4 (fun _ h9 => h9) rfl dX3_gathers_88 ?_
            refine lv_iload_n hx hb dX3_gathers_91 rfl (lv_at hl 1 rfl) ?_
            obtain ⟨c_92, hm⟩ := ck hm
            refine va_iald hx hb hK hP 4 0 rfl rfl c_92 dX3_gathers_92 ?_
            obtain ⟨⟨ymd93, ymm93⟩, h_93, hm⟩ := ob hm
            refine z_callWv (wc := (wM cI cZ md yth ybd yro yrow ymk yrm yst ypc ybu ybn ymg ysp yjn ymdl50 ybg ymml50 yup yun)) (w1 := (wM cI cZ md yth ybd yro yrow ymk yrm yst ypc ybu ybn ymg ysp yjn ymd93 ybg ymm93 yup yun)) (ws := (wM cI cZ md yth ybd yro yrow ymk yrm yst ypc ybu ybn ymg ysp yjn ymdl50 ybg ymml50 yup yun)) (ws' := (wM cI cZ md yth ybd yro yrow ymk yrm yst ypc ybu ybn ymg ysp yjn ymd93 ybg ymm93 yup yun)) [0, 1, 2, 3, 4, 5, 6] [] 7 (As := [.int (ybu (Int32.toNatClampNeg x3_4))]) (rest := []) (ci := 3) (q := (RX3, TX3, 18)) ⟨hx, hb, hml, hown, hts⟩ (c_X3_makes l dC dI cI cZ md yth ybd yro yrow ymk yrm yst ypc ybu ybn ymg ysp yjn ymdl50 ybg ymml50 yup yun F (ybu (Int32.toNatClampNeg x3_4)) H.size ymd93 ymm93 h_93) (cwV 1 hts gX3_gathers_X3_makes rfl rfl rfl kv_X3_makes ⟨Nat.le_of_ble_eq_true rfl, Nat.le_of_ble_eq_true rfl⟩) hK hP hD hS hA hP hD rfl rfl (by decide) rfl rfl (by decide) rfl rfl rfl rfl rfl hl.1 rfl (Nat.le_of_ble_eq_true rfl) dX3_gathers_93 ⟨Nat.zero_le _, Nat.zero_le _⟩ (fun H locs hP hD hS => ?_)
            refine lv_iconst (v := 1) hx hb dX3_gathers_96 (by decide) ?_
            refine lv_istore_n (lv' := [(2, .int 1), (4, .int r65), (3, .int x3_4), (0, .ref (md 0)), (1, .int p1)]) hx hb dX3_gathers_97 rfl hl (by decide) rfl (fun ls hl => ?_)
            obtain ⟨x3_5, e_x3_5⟩ : ∃ y : Int32, y = x3_4 + 1 := ⟨_, rfl⟩
            have hm := bnd_e hm e_x3_5
            refine lv_iinc (v := x3_5) (lv' := [(3, .int x3_5), (2, .int 1), (4, .int r65), (0, .ref (md 0)), (1, .int p1)]) hx hb dX3_gathers_98 hl (k := 2) rfl (by rw [e_x3_5]; rfl) (by decide) rfl (fun ls hl => ?_)
            refine lv_goto (tgt := 50) hx hb dX3_gathers_101 (by decide) ?_
            exact ih_50 x3_5 1 ymd93 ymm93 hm _ _ hP hD hS _ (lv_sub hl [0, 1, 3, 4] rfl)
          · have hm := it_f hm c_73
            refine lv_iload hx hb dX3_gathers_76 (lv_at hl 0 rfl) ?_
            refine lv_iconst (v := (-1)) hx hb dX3_gathers_78 (by decide) ?_
            refine lv_icmp_ne (tgt := 98) hx hb dX3_gathers_79 (by decide) (fun c_79 => ?_) (fun c_79 => ?_)
            · have hm := it_f hm c_79
              obtain ⟨x3_6, e_x3_6⟩ : ∃ y : Int32, y = x3_4 + 1 := ⟨_, rfl⟩
              have hm := bnd_e hm e_x3_6
              refine lv_iinc (v := x3_6) (lv' := [(3, .int x3_6), (4, .int r65), (2, .int x2_2), (0, .ref (md 0)), (1, .int p1)]) hx hb dX3_gathers_98 hl (k := 1) rfl (by rw [e_x3_6]; rfl) (by decide) rfl (fun ls hl => ?_)
              refine lv_goto (tgt := 50) hx hb dX3_gathers_101 (by decide) ?_
              exact ih_50 x3_6 x2_2 ymdl50 ymml50 hm _ _ hP hD hS _ (lv_sub hl [0, 2, 3, 4] rfl)
            · have hm := it_t hm c_79
              refine lv_iload_n hx hb dX3_gathers_82 rfl (lv_at hl 4 rfl) ?_
              refine lv_if_ne (tgt := 98) hx hb dX3_gathers_83 (by decide) (fun c_83 => ?_) (fun c_83 => ?_)
              · have hm := it_f hm c_83
                obtain ⟨x3_7, e_x3_7⟩ : ∃ y : Int32, y = x3_4 + 1 := ⟨_, rfl⟩
                have hm := bnd_e hm e_x3_7
                refine lv_iinc (v := x3_7) (lv' := [(3, .int x3_7), (4, .int r65), (2, .int x2_2), (0, .ref (md 0)), (1, .int p1)]) hx hb dX3_gathers_98 hl (k := 1) rfl (by rw [e_x3_7]; rfl) (by decide) rfl (fun ls hl => ?_)
                refine lv_goto (tgt := 50) hx hb dX3_gathers_101 (by decide) ?_
                exact ih_50 x3_7 x2_2 ymdl50 ymml50 hm _ _ hP hD hS _ (lv_sub hl [0, 2, 3, 4] rfl)
              · have hm := it_t hm c_83
                refine lv_aload_n hx hb dX3_gathers_86 rfl (lv_at hl 3 rfl) ?_
                refine lv_aload_n hx hb dX3_gathers_87 rfl (lv_at hl 3 rfl) ?_
                refine va_get (D := (dC, dI)) (ci := 3) (v := .ref (md 4)) (C := RX3) (T := TX3) (N := 18) hx hb hts ziX3 hown hK hP 0 rfl rfl 8 (by decide) zw4 (fun _ h9 => h9) rfl dX3_gathers_88 ?_
                refine lv_iload_n hx hb dX3_gathers_91 rfl (lv_at hl 1 rfl) ?_
                obtain ⟨c_92, hm⟩ := ck hm
                refine va_iald hx hb hK hP 4 0 rfl rfl c_92 dX3_gathers_92 ?_
                obtain ⟨⟨ymd93_1, ymm93_1⟩, h_93, hm⟩ := ob hm
                refine z_callWv (wc := (wM cI cZ md yth ybd yro yrow ymk yrm yst ypc ybu ybn ymg ysp yjn ymdl50 ybg ymml50 yup yun)) (w1 := (wM cI cZ md yth ybd yro yrow ymk yrm yst ypc ybu ybn ymg ysp yjn ymd93_1 ybg ymm93_1 yup yun)) (ws := (wM cI cZ md yth ybd yro yrow ymk yrm yst ypc ybu ybn ymg ysp yjn ymdl50 ybg ymml50 yup yun)) (ws' := (wM cI cZ md yth ybd yro yrow ymk yrm yst ypc ybu ybn ymg ysp yjn ymd93_1 ybg ymm93_1 yup yun)) [0, 1, 2, 3, 4, 5, 6] [] 7 (As := [.int (ybu (Int32.toNatClampNeg x3_4))]) (rest := []) (ci := 3) (q := (RX3, TX3, 18)) ⟨hx, hb, hml, hown, hts⟩ (c_X3_makes l dC dI cI cZ md yth ybd yro yrow ymk yrm yst ypc ybu ybn ymg ysp yjn ymdl50 ybg ymml50 yup yun F (ybu (Int32.toNatClampNeg x3_4)) H.size ymd93_1 ymm93_1 h_93) (cwV 1 hts gX3_gathers_X3_makes rfl rfl rfl kv_X3_makes ⟨Nat.le_of_ble_eq_true rfl, Nat.le_of_ble_eq_true rfl⟩) hK hP hD hS hA hP hD rfl rfl (by decide) rfl rfl (by decide) rfl rfl rfl rfl rfl hl.1 rfl (Nat.le_of_ble_eq_true rfl) dX3_gathers_93 ⟨Nat.zero_le _, Nat.zero_le _⟩ (fun H locs hP hD hS => ?_)
                refine lv_iconst (v := 1) hx hb dX3_gathers_96 (by decide) ?_
                refine lv_istore_n (lv' := [(2, .int 1), (4, .int r65), (3, .int x3_4), (0, .ref (md 0)), (1, .int p1)]) hx hb dX3_gathers_97 rfl hl (by decide) rfl (fun ls hl => ?_)
                obtain ⟨x3_8, e_x3_8⟩ : ∃ y : Int32, y = x3_4 + 1 := ⟨_, rfl⟩
                have hm := bnd_e hm e_x3_8
                refine lv_iinc (v := x3_8) (lv' := [(3, .int x3_8), (2, .int 1), (4, .int r65), (0, .ref (md 0)), (1, .int p1)]) hx hb dX3_gathers_98 hl (k := 2) rfl (by rw [e_x3_8]; rfl) (by decide) rfl (fun ls hl => ?_)
                refine lv_goto (tgt := 50) hx hb dX3_gathers_101 (by decide) ?_
                exact ih_50 x3_8 1 ymd93_1 ymm93_1 hm _ _ hP hD hS _ (lv_sub hl [0, 1, 3, 4] rfl)
    exact L_50 F 0 x2_1 ymdx9 ymmx9 hq_50 _ _ hP hD hS _ (lv_sub hl [0, 1, 2, 3] rfl)
  have L_9 : ∀ (n : Nat) (x3_1 : Int32) (x2 : Int32) (ymdl9 : Nat → Int32) (ymml9 : Int32), X3_gathers_L9 p1 yrow ymk yrm yst ypc F n x3_1 x2 ymdl9 ymml9 = some z_9 → ∀ (H : Heap) (locs : List Loc), va_P (dC, dI) vwCl (wM cI cZ md yth ybd yro yrow ymk yrm yst ypc ybu ybn ymg ysp yjn ymdl9 ybg ymml9 yup yun) H → va_D A (wM cI cZ md yth ybd yro yrow ymk yrm yst ypc ybu ybn ymg ysp yjn ymdl9 ybg ymml9 yup yun) → va_S A s.heap H locs → ∀ (ls : Array Slot), lv_has ls 5 [(3, .int x3_1), (2, .int x2), (0, .ref (md 0)), (1, .int p1)] → W p l e (headSpec wsX3_gathers ({ frames := 1, cells := 0, slots := 0, locals := 23 } : Room)).room s m ([.ref (md 0), .int p1] : List Value).toArray below meth c H locs 0 0 (MQ below (zQi (dC, dI) (wM cI cZ md yth ybd yro yrow ymk yrm yst ypc ybu ybn ymg ysp yjn u_ymd ybg u_ymm yup yun) [(cI, .int), (cZ, .boolean)] A r) ([.ref (md 0), .int p1] : List Value).toArray s 0 0 A) (F0 m 9 ls []) := by
    intro n
    induction n with
    | zero => intro x3_1 x2 ymdl9 ymml9 hm; cases hm
    | succ n ih_9 =>
      intro x3_1 x2 ymdl9 ymml9 hm H locs hP hD hS ls hl
      refine lv_iload_n hx hb dX3_gathers_9 rfl (lv_at hl 0 rfl) ?_
      refine lv_aload_n hx hb dX3_gathers_10 rfl (lv_at hl 2 rfl) ?_
      refine lv_iload_n hx hb dX3_gathers_11 rfl (lv_at hl 3 rfl) ?_
      obtain ⟨r12, h_12, hm⟩ := ob hm
      refine z_callRi (As := [.int p1]) (rest := [.int x3_1]) (ci := 3) (q := (RX3, TX3, 18)) ⟨hx, hb, hml, hown, hts⟩ (c_X3_behind l dC dI cI cZ md yth ybd yro yrow ymk yrm yst ypc ybu ybn ymg ysp yjn ymdl9 ybg ymml9 yup yun F p1 r12 h_12) (cwV 1 hts gX3_gathers_X3_behind rfl rfl rfl kv_X3_behind ⟨Nat.le_of_ble_eq_true rfl, Nat.le_of_ble_eq_true rfl⟩) hK hP rfl rfl rfl rfl hl.1 rfl (Nat.le_of_ble_eq_true rfl) dX3_gathers_12 ⟨Nat.zero_le _, Nat.zero_le _⟩ ?_
      refine lv_icmp_ge (tgt := 48) hx hb dX3_gathers_15 (by decide) (fun c_15 => ?_) (fun c_15 => ?_)
      · have hm := it_t hm c_15
        exact K_9 x2 ymdl9 ymml9 (o2 hm) _ _ hP hD hS _ (lv_sub hl [1, 2, 3] rfl)
      · have hm := it_f hm c_15
        refine lv_aload_n hx hb dX3_gathers_18 rfl (lv_at hl 2 rfl) ?_
        refine va_get (D := (dC, dI)) (ci := 3) (v := .ref (md 2)) (C := RX3) (T := TX3) (N := 18) hx hb hts ziX3 hown hK hP 0 rfl rfl 4 (by decide) zw1 (fun _ h9 => h9) rfl dX3_gathers_19 ?_
        refine lv_iload_n hx hb dX3_gathers_22 rfl (lv_at hl 0 rfl) ?_
        obtain ⟨c_23, hm⟩ := ck hm
        refine va_zald hx hb hK hP 2 1 rfl rfl c_23 dX3_gathers_23 ?_
        refine lv_if_eq (tgt := 32) hx hb dX3_gathers_24 (by decide) (fun c_24 => ?_) (fun c_24 => ?_)
        · have hm := it_t hm c_24
          refine lv_aload_n hx hb dX3_gathers_32 rfl (lv_at hl 2 rfl) ?_
          refine lv_aload_n hx hb dX3_gathers_33 rfl (lv_at hl 2 rfl) ?_
          refine va_get (D := (dC, dI)) (ci := 3) (v := .ref (md 1)) (C := RX3) (T := TX3) (N := 18) hx hb hts ziX3 hown hK hP 0 rfl rfl 3 (by decide) zw2 (fun _ h9 => h9) rfl dX3_gathers_34 ?_
          refine lv_iload_n hx hb dX3_gathers_37 rfl (lv_at hl 0 rfl) ?_
          obtain ⟨c_38, hm⟩ := ck hm
          refine va_iald hx hb hK hP 1 0 rfl rfl c_38 dX3_gathers_38 ?_
          obtain ⟨⟨ymd39, ymm39⟩, h_39, hm⟩ := ob hm
          refine z_callWv (wc := (wM cI cZ md yth ybd yro yrow ymk yrm yst ypc ybu ybn ymg ysp yjn ymdl9 ybg ymml9 yup yun)) (w1 := (wM cI cZ md yth ybd yro yrow ymk yrm yst ypc ybu ybn ymg ysp yjn ymd39 ybg ymm39 yup yun)) (ws := (wM cI cZ md yth ybd yro yrow ymk yrm yst ypc ybu ybn ymg ysp yjn ymdl9 ybg ymml9 yup yun)) (ws' := (wM cI cZ md yth ybd yro yrow ymk yrm yst ypc ybu ybn ymg ysp yjn ymd39 ybg ymm39 yup yun)) [0, 1, 2, 3, 4, 5, 6] [] 7 (As := [.int (yrow (Int32.toNatClampNeg x3_1))]) (rest := []) (ci := 3) (q := (RX3, TX3, 18)) ⟨hx, hb, hml, hown, hts⟩ (c_X3_makes l dC dI cI cZ md yth ybd yro yrow ymk yrm yst ypc ybu ybn ymg ysp yjn ymdl9 ybg ymml9 yup yun F (yrow (Int32.toNatClampNeg x3_1)) H.size ymd39 ymm39 h_39) (cwV 1 hts gX3_gathers_X3_makes rfl rfl rfl kv_X3_makes ⟨Nat.le_of_ble_eq_true rfl, Nat.le_of_ble_eq_true rfl⟩) hK hP hD hS hA hP hD rfl rfl (by decide) rfl rfl (by decide) rfl rfl rfl rfl rfl hl.1 rfl (Nat.le_of_ble_eq_true rfl) dX3_gathers_39 ⟨Nat.zero_le _, Nat.zero_le _⟩ (fun H locs hP hD hS => ?_)
          obtain ⟨x3_2, e_x3_2⟩ : ∃ y : Int32, y = x3_1 + 1 := ⟨_, rfl⟩
          have hm := bnd_e hm e_x3_2
          refine lv_iinc (v := x3_2) (lv' := [(3, .int x3_2), (2, .int x2), (0, .ref (md 0)), (1, .int p1)]) hx hb dX3_gathers_42 hl (k := 0) rfl (by rw [e_x3_2]; rfl) (by decide) rfl (fun ls hl => ?_)
          refine lv_goto (tgt := 9) hx hb dX3_gathers_45 (by decide) ?_
          exact ih_9 x3_2 x2 ymd39 ymm39 hm _ _ hP hD hS _ (lv_sub hl [0, 1, 2, 3] rfl)
        · have hm := it_f hm c_24
          refine lv_iconst (v := 1) hx hb dX3_gathers_27 (by decide) ?_
          refine lv_istore_n (lv' := [(2, .int 1), (3, .int x3_1), (0, .ref (md 0)), (1, .int p1)]) hx hb dX3_gathers_28 rfl hl (by decide) rfl (fun ls hl => ?_)
          refine lv_goto (tgt := 42) hx hb dX3_gathers_29 (by decide) ?_
          obtain ⟨x3_3, e_x3_3⟩ : ∃ y : Int32, y = x3_1 + 1 := ⟨_, rfl⟩
          have hm := bnd_e hm e_x3_3
          refine lv_iinc (v := x3_3) (lv' := [(3, .int x3_3), (2, .int 1), (0, .ref (md 0)), (1, .int p1)]) hx hb dX3_gathers_42 hl (k := 1) rfl (by rw [e_x3_3]; rfl) (by decide) rfl (fun ls hl => ?_)
          refine lv_goto (tgt := 9) hx hb dX3_gathers_45 (by decide) ?_
          exact ih_9 x3_3 1 ymdl9 ymml9 hm _ _ hP hD hS _ (lv_sub hl [0, 1, 2, 3] rfl)
  exact L_9 F x3 0 ymd ymm hq_9 _ _ hP hD hS _ (lv_sub hl [0, 1, 2, 3] rfl)
set_option maxHeartbeats 4000000 in
set_option maxRecDepth 100000 in
theorem c_X3_fits_made (l : Launch) (dC : Nat → ClassId) (dI : Nat → Nat → Nat) (cI : ClassId) (cZ : ClassId) (md : Nat → Nat) (yth : Int32) (ybd : Int32) (yro : Int32) (yrow : Nat → Int32) (ymk : Nat → Int32) (yrm : Int32) (yst : Nat → Int32) (ypc : Int32) (ybu : Nat → Int32) (ybn : Int32) (ymg : Int32) (ysp : Int32) (yjn : Int32) (ymd : Nat → Int32) (ybg : Nat → Int32) (ymm : Int32) (yup : Int64) (yun : Int64) (F : Nat) (p2 : Int32) (p3 : Int32) (sz : Nat) (r : Int32) (u_yup : Int64) (u_yun : Int64) (hm : X3_fits_made F ybd ymd yup yun p2 p3 = some (r, u_yup, u_yun)) : Met l yX3_fits wsX3_fits ({ frames := 0, cells := 0, slots := 0, locals := 0 }) (va_Pc [.ref (md 0), .ref (md 5), .int p2, .int p3] (zW (dC, dI) (wM cI cZ md yth ybd yro yrow ymk yrm yst ypc ybu ybn ymg ysp yjn ymd ybg ymm yup yun) [(cI, .int), (cZ, .boolean)] sz)) (zQi (dC, dI) (wM cI cZ md yth ybd yro yrow ymk yrm yst ypc ybu ybn ymg ysp yjn ymd ybg ymm u_yup u_yun) [(cI, .int), (cZ, .boolean)] (va_A (wM cI cZ md yth ybd yro yrow ymk yrm yst ypc ybu ybn ymg ysp yjn ymd ybg ymm yup yun) sz) r) 0 0 (va_A (wM cI cZ md yth ybd yro yrow ymk yrm yst ypc ybu ybn ymg ysp yjn ymd ybg ymm yup yun) sz) := by
  refine Met.ofW (cc := cX3_fits) (maxL := 13) (ret := (some .boolean)) (by decide) rfl ?_
  intro p e s m args below meth c s₁ B hml hv
  obtain ⟨rfl, hsz, hP, hK, hD0⟩ := hv
  have hx := B.exec
  have hb := B.bytes
  have hr := B.returns
  have hts := atoms_spec (ws := wsX3_fits) B.pre
  have hown : s.vm.findClass RX3 = some m.cls := findClass_of_methodNamed B.named
  have hlocks := B.notSynchronized
  subst hsz
  have hD := hD0.self (sz := s.heap.size)
  generalize hAe : va_A (wM cI cZ md yth ybd yro yrow ymk yrm yst ypc ybu ybn ymg ysp yjn ymd ybg ymm yup yun) s.heap.size = A at hD ⊢
  have hA : ∀ q : Nat, s.heap.size ≤ q → A q := fun q h => by rw [← hAe]; exact Or.inr h
  have hS : va_S A s.heap s.heap [] := va_S.rf
  generalize eL : ([] : List Loc) = locs at hS ⊢
  obtain ⟨H, eH⟩ : ∃ z : Heap, z = s.heap := ⟨_, rfl⟩
  have hP : va_P (dC, dI) vwCl (wM cI cZ md yth ybd yro yrow ymk yrm yst ypc ybu ybn ymg ysp yjn ymd ybg ymm yup yun) H := by rw [eH]; exact hP
  have hS : va_S A s.heap H locs := by rw [eH]; exact hS
  refine z_heap eH ?_
  have hl := lv_entry ([.ref (md 0), .ref (md 5), .int p2, .int p3]) (n := 13) (Nat.le_of_ble_eq_true rfl)
  rw [lg_entry_eq]
  generalize (lg_sl ([.ref (md 0), .ref (md 5), .int p2, .int p3]) ++ List.replicate (13 - (lg_sl ([.ref (md 0), .ref (md 5), .int p2, .int p3])).length) Slot.unset).toArray = ls at hl ⊢
  have hl : lv_has ls 13 [(0, .ref (md 0)), (1, .ref (md 5)), (2, .int p2), (3, .int p3)] := hl
  have zw0 := hts (.fieldLink RX3 41 "LearnedLedgeModel" "leastUp" "J") (by decide +kernel)
  have zw1 := hts (.fieldLink RX3 45 "LearnedLedgeModel" "leastUnder" "J") (by decide +kernel)
  have zw2 := hts (.fieldLink RX3 7 "LearnedLedgeModel" "bound" "I") (by decide +kernel)
  have ziX3 : ∀ w ∈ u_ws RX3 TX3 18, w ∈ wsX3_fits := by decide +kernel
  refine lv_aload_n hx hb dX3_fits_0 rfl (lv_at hl 0 rfl) ?_
  refine lv_lconst (v := 0) hx hb dX3_fits_1 (by decide) ?_
  refine va_put (D := (dC, dI)) (ci := 3) (v := .long 0) (ty := .long) (C := RX3) (T := TX3) (N := 18) hx hb hts ziX3 tyX3 tyX3_ok nmX3 hown hK hP hD hS 0 rfl rfl 16 (by decide) zw0 (fun _ h9 => h9) rfl (by decide +kernel) rfl rfl (Nat.le_of_ble_eq_true rfl) dX3_fits_2 (fun H locs hP hD hS => ?_)
  have hP : va_P (dC, dI) vwCl (wM cI cZ md yth ybd yro yrow ymk yrm yst ypc ybu ybn ymg ysp yjn ymd ybg ymm 0 yun) H := hP
  have hD : va_D A (wM cI cZ md yth ybd yro yrow ymk yrm yst ypc ybu ybn ymg ysp yjn ymd ybg ymm 0 yun) := hD
  refine lv_aload_n hx hb dX3_fits_5 rfl (lv_at hl 0 rfl) ?_
  refine lv_lconst (v := 1) hx hb dX3_fits_6 (by decide) ?_
  refine va_put (D := (dC, dI)) (ci := 3) (v := .long 1) (ty := .long) (C := RX3) (T := TX3) (N := 18) hx hb hts ziX3 tyX3 tyX3_ok nmX3 hown hK hP hD hS 0 rfl rfl 17 (by decide) zw1 (fun _ h9 => h9) rfl (by decide +kernel) rfl rfl (Nat.le_of_ble_eq_true rfl) dX3_fits_7 (fun H locs hP hD hS => ?_)
  have hP : va_P (dC, dI) vwCl (wM cI cZ md yth ybd yro yrow ymk yrm yst ypc ybu ybn ymg ysp yjn ymd ybg ymm 0 1) H := hP
  have hD : va_D A (wM cI cZ md yth ybd yro yrow ymk yrm yst ypc ybu ybn ymg ysp yjn ymd ybg ymm 0 1) := hD
  refine lv_lconst (v := 0) hx hb dX3_fits_10 (by decide) ?_
  refine lv_lstore (lv' := [(4, .long 0), (0, .ref (md 0)), (1, .ref (md 5)), (2, .int p2), (3, .int p3)]) hx hb dX3_fits_11 hl (by decide) rfl (fun ls hl => ?_)
  refine lv_lconst (v := 0) hx hb dX3_fits_13 (by decide) ?_
  refine lv_lstore (lv' := [(6, .long 0), (4, .long 0), (0, .ref (md 0)), (1, .ref (md 5)), (2, .int p2), (3, .int p3)]) hx hb dX3_fits_14 hl (by decide) rfl (fun ls hl => ?_)
  refine lv_iload_n hx hb dX3_fits_16 rfl (lv_at hl 4 rfl) ?_
  refine lv_iconst (v := 1) hx hb dX3_fits_17 (by decide) ?_
  refine lv_iadd hx hb dX3_fits_18 ?_
  refine lv_topi (fun x8 e_x8 => ?_)
  have hm := bnd_e hm e_x8
  refine lv_istore (lv' := [(8, .int x8), (6, .long 0), (4, .long 0), (0, .ref (md 0)), (1, .ref (md 5)), (2, .int p2), (3, .int p3)]) hx hb dX3_fits_19 hl (by decide) rfl (fun ls hl => ?_)
  obtain ⟨z_21, hq_21, hm⟩ := ob hm
  have K_21 : ∀ (x6_1 : Int64), ∀ (x4_3 : Int64), ∀ (yupx21 : Int64), ∀ (yunx21 : Int64), z_21 = (x6_1, x4_3, yupx21, yunx21) → ∀ (H : Heap) (locs : List Loc), va_P (dC, dI) vwCl (wM cI cZ md yth ybd yro yrow ymk yrm yst ypc ybu ybn ymg ysp yjn ymd ybg ymm yupx21 yunx21) H → va_D A (wM cI cZ md yth ybd yro yrow ymk yrm yst ypc ybu ybn ymg ysp yjn ymd ybg ymm yupx21 yunx21) → va_S A s.heap H locs → ∀ (ls : Array Slot), lv_has ls 13 [(6, .long x6_1), (4, .long x4_3), (0, .ref (md 0))] → W p l e (headSpec wsX3_fits ({ frames := 0, cells := 0, slots := 0, locals := 0 } : Room)).room s m ([.ref (md 0), .ref (md 5), .int p2, .int p3] : List Value).toArray below meth c H locs 0 0 (MQ below (zQi (dC, dI) (wM cI cZ md yth ybd yro yrow ymk yrm yst ypc ybu ybn ymg ysp yjn ymd ybg ymm u_yup u_yun) [(cI, .int), (cZ, .boolean)] A r) ([.ref (md 0), .ref (md 5), .int p2, .int p3] : List Value).toArray s 0 0 A) (F0 m 135 ls []) := by
    intro x6_1 x4_3 yupx21 yunx21 ez H locs hP hD hS ls hl
    rw [ez] at hm
    refine lv_lload hx hb dX3_fits_135 (lv_at hl 0 rfl) ?_
    refine lv_lconst (v := 0) hx hb dX3_fits_137 (by decide) ?_
    refine W.lcmp hx hb dX3_fits_138 ?_
    refine lv_if_eq (tgt := 160) hx hb dX3_fits_139 (by decide) (fun c_139 => ?_) (fun c_139 => ?_)
    · have c_139 : x6_1 = 0 := (lg_cmp_eq _ _).mp c_139
      have hm := it_t hm c_139
      refine lv_iconst (v := 1) hx hb dX3_fits_160 (by decide) ?_
      refine lv_goto (tgt := 165) hx hb dX3_fits_161 (by decide) ?_
      cases o2 hm
      exact W.zret hx hb hr rfl (fun t ht hW => ⟨⟨_, (), rfl, rfl, by rw [ht]; exact hP, va_K.moved hW.alike hK, hD⟩, hS.F ht⟩) hS.2.2 dX3_fits_165
    · have c_139 : ¬ (x6_1 = 0) := fun h => c_139 ((lg_cmp_eq _ _).mpr h)
      have hm := it_f hm c_139
      refine lv_aload_n hx hb dX3_fits_142 rfl (lv_at hl 2 rfl) ?_
      refine va_get (D := (dC, dI)) (ci := 3) (v := .long yupx21) (C := RX3) (T := TX3) (N := 18) hx hb hts ziX3 hown hK hP 0 rfl rfl 16 (by decide) zw0 (fun _ h9 => h9) rfl dX3_fits_143 ?_
      refine lv_lload hx hb dX3_fits_146 (lv_at hl 0 rfl) ?_
      refine lv_lmul hx hb dX3_fits_148 ?_
      refine lv_lload hx hb dX3_fits_149 (lv_at hl 1 rfl) ?_
      refine lv_aload_n hx hb dX3_fits_151 rfl (lv_at hl 2 rfl) ?_
      refine va_get (D := (dC, dI)) (ci := 3) (v := .long yunx21) (C := RX3) (T := TX3) (N := 18) hx hb hts ziX3 hown hK hP 0 rfl rfl 17 (by decide) zw1 (fun _ h9 => h9) rfl dX3_fits_152 ?_
      refine lv_lmul hx hb dX3_fits_155 ?_
      refine W.lcmp hx hb dX3_fits_156 ?_
      refine lv_if_gt (tgt := 164) hx hb dX3_fits_157 (by decide) (fun c_157 => ?_) (fun c_157 => ?_)
      · have c_157 : (x4_3 * yunx21) < (yupx21 * x6_1) := (lg_cmp_gt _ _).mp c_157
        have hm := it_t hm c_157
        refine lv_iconst (v := 0) hx hb dX3_fits_164 (by decide) ?_
        cases o2 hm
        exact W.zret hx hb hr rfl (fun t ht hW => ⟨⟨_, (), rfl, rfl, by rw [ht]; exact hP, va_K.moved hW.alike hK, hD⟩, hS.F ht⟩) hS.2.2 dX3_fits_165
      · have c_157 : ¬ ((x4_3 * yunx21) < (yupx21 * x6_1)) := fun h => c_157 ((lg_cmp_gt _ _).mpr h)
        have hm := it_f hm c_157
        refine lv_iconst (v := 1) hx hb dX3_fits_160 (by decide) ?_
        refine lv_goto (tgt := 165) hx hb dX3_fits_161 (by decide) ?_
        cases o2 hm
        exact W.zret hx hb hr rfl (fun t ht hW => ⟨⟨_, (), rfl, rfl, by rw [ht]; exact hP, va_K.moved hW.alike hK, hD⟩, hS.F ht⟩) hS.2.2 dX3_fits_165
  have L_21 : ∀ (n : Nat) (x8_1 : Int32) (x6 : Int64) (x4 : Int64) (yupl21 : Int64) (yunl21 : Int64), X3_fits_made_L21 p2 p3 ybd ymd n x8_1 x6 x4 yupl21 yunl21 = some z_21 → ∀ (H : Heap) (locs : List Loc), va_P (dC, dI) vwCl (wM cI cZ md yth ybd yro yrow ymk yrm yst ypc ybu ybn ymg ysp yjn ymd ybg ymm yupl21 yunl21) H → va_D A (wM cI cZ md yth ybd yro yrow ymk yrm yst ypc ybu ybn ymg ysp yjn ymd ybg ymm yupl21 yunl21) → va_S A s.heap H locs → ∀ (ls : Array Slot), lv_has ls 13 [(8, .int x8_1), (6, .long x6), (4, .long x4), (0, .ref (md 0)), (1, .ref (md 5)), (2, .int p2), (3, .int p3)] → W p l e (headSpec wsX3_fits ({ frames := 0, cells := 0, slots := 0, locals := 0 } : Room)).room s m ([.ref (md 0), .ref (md 5), .int p2, .int p3] : List Value).toArray below meth c H locs 0 0 (MQ below (zQi (dC, dI) (wM cI cZ md yth ybd yro yrow ymk yrm yst ypc ybu ybn ymg ysp yjn ymd ybg ymm u_yup u_yun) [(cI, .int), (cZ, .boolean)] A r) ([.ref (md 0), .ref (md 5), .int p2, .int p3] : List Value).toArray s 0 0 A) (F0 m 21 ls []) := by
    intro n
    induction n with
    | zero => intro x8_1 x6 x4 yupl21 yunl21 hm; cases hm
    | succ n ih_21 =>
      intro x8_1 x6 x4 yupl21 yunl21 hm H locs hP hD hS ls hl
      refine lv_iload hx hb dX3_fits_21 (lv_at hl 0 rfl) ?_
      refine lv_iload_n hx hb dX3_fits_23 rfl (lv_at hl 6 rfl) ?_
      refine lv_icmp_ge (tgt := 135) hx hb dX3_fits_24 (by decide) (fun c_24 => ?_) (fun c_24 => ?_)
      · have hm := it_t hm c_24
        exact K_21 x6 x4 yupl21 yunl21 (o2 hm) _ _ hP hD hS _ (lv_sub hl [1, 2, 3] rfl)
      · have hm := it_f hm c_24
        refine lv_aload_n hx hb dX3_fits_27 rfl (lv_at hl 4 rfl) ?_
        refine lv_iload hx hb dX3_fits_28 (lv_at hl 0 rfl) ?_
        obtain ⟨c_30, hm⟩ := ck hm
        refine va_iald hx hb hK hP 5 0 rfl rfl c_30 dX3_fits_30 ?_
        refine lv_i2l hx hb dX3_fits_31 rfl ?_
        refine lv_aload_n hx hb dX3_fits_32 rfl (lv_at hl 4 rfl) ?_
        refine lv_iload_n hx hb dX3_fits_33 rfl (lv_at hl 5 rfl) ?_
        obtain ⟨c_34, hm⟩ := ck hm
        refine va_iald hx hb hK hP 5 0 rfl rfl c_34 dX3_fits_34 ?_
        refine lv_i2l hx hb dX3_fits_35 rfl ?_
        refine lv_lsub hx hb dX3_fits_36 ?_
        refine lv_topl (fun x9 e_x9 => ?_)
        have hm := bnd_e hm e_x9
        refine lv_lstore (lv' := [(9, .long x9), (8, .int x8_1), (6, .long x6), (4, .long x4), (0, .ref (md 0)), (1, .ref (md 5)), (2, .int p2), (3, .int p3)]) hx hb dX3_fits_37 hl (by decide) rfl (fun ls hl => ?_)
        refine lv_iload hx hb dX3_fits_39 (lv_at hl 1 rfl) ?_
        refine lv_iload_n hx hb dX3_fits_41 rfl (lv_at hl 6 rfl) ?_
        refine lv_isub hx hb dX3_fits_42 ?_
        refine lv_i2l hx hb dX3_fits_43 rfl ?_
        refine lv_topl (fun x11 e_x11 => ?_)
        have hm := bnd_e hm e_x11
        refine lv_lstore (lv' := [(11, .long x11), (9, .long x9), (8, .int x8_1), (6, .long x6), (4, .long x4), (0, .ref (md 0)), (1, .ref (md 5)), (2, .int p2), (3, .int p3)]) hx hb dX3_fits_44 hl (by decide) rfl (fun ls hl => ?_)
        refine lv_lload hx hb dX3_fits_46 (lv_at hl 0 rfl) ?_
        refine lv_aload_n hx hb dX3_fits_48 rfl (lv_at hl 5 rfl) ?_
        refine va_get (D := (dC, dI)) (ci := 3) (v := .int ybd) (C := RX3) (T := TX3) (N := 18) hx hb hts ziX3 hown hK hP 0 rfl rfl 1 (by decide) zw2 (fun _ h9 => h9) rfl dX3_fits_49 ?_
        refine lv_i2l hx hb dX3_fits_52 rfl ?_
        refine lv_lsub hx hb dX3_fits_53 ?_
        refine lv_aload_n hx hb dX3_fits_54 rfl (lv_at hl 5 rfl) ?_
        refine va_get (D := (dC, dI)) (ci := 3) (v := .long yunl21) (C := RX3) (T := TX3) (N := 18) hx hb hts ziX3 hown hK hP 0 rfl rfl 17 (by decide) zw1 (fun _ h9 => h9) rfl dX3_fits_55 ?_
        refine lv_lmul hx hb dX3_fits_58 ?_
        refine lv_aload_n hx hb dX3_fits_59 rfl (lv_at hl 5 rfl) ?_
        refine va_get (D := (dC, dI)) (ci := 3) (v := .long yupl21) (C := RX3) (T := TX3) (N := 18) hx hb hts ziX3 hown hK hP 0 rfl rfl 16 (by decide) zw0 (fun _ h9 => h9) rfl dX3_fits_60 ?_
        refine lv_lload hx hb dX3_fits_63 (lv_at hl 1 rfl) ?_
        refine lv_lmul hx hb dX3_fits_65 ?_
        refine W.lcmp hx hb dX3_fits_66 ?_
        obtain ⟨z_88, hq_88, hm⟩ := ob hm
        have J_88 : ∀ (yupj88 : Int64), ∀ (yunj88 : Int64), z_88 = (yupj88, yunj88) → ∀ (H : Heap) (locs : List Loc), va_P (dC, dI) vwCl (wM cI cZ md yth ybd yro yrow ymk yrm yst ypc ybu ybn ymg ysp yjn ymd ybg ymm yupj88 yunj88) H → va_D A (wM cI cZ md yth ybd yro yrow ymk yrm yst ypc ybu ybn ymg ysp yjn ymd ybg ymm yupj88 yunj88) → va_S A s.heap H locs → W p l e (headSpec wsX3_fits ({ frames := 0, cells := 0, slots := 0, locals := 0 } : Room)).room s m ([.ref (md 0), .ref (md 5), .int p2, .int p3] : List Value).toArray below meth c H locs 0 0 (MQ below (zQi (dC, dI) (wM cI cZ md yth ybd yro yrow ymk yrm yst ypc ybu ybn ymg ysp yjn ymd ybg ymm u_yup u_yun) [(cI, .int), (cZ, .boolean)] A r) ([.ref (md 0), .ref (md 5), .int p2, .int p3] : List Value).toArray s 0 0 A) (F0 m 88 ls []) := by
          intro yupj88 yunj88 ez H locs hP hD hS
          rw [ez] at hm
          refine lv_lload hx hb dX3_fits_88 (lv_at hl 3 rfl) ?_
          refine lv_lconst (v := 0) hx hb dX3_fits_90 (by decide) ?_
          refine W.lcmp hx hb dX3_fits_91 ?_
          refine lv_if_eq (tgt := 115) hx hb dX3_fits_92 (by decide) (fun c_92 => ?_) (fun c_92 => ?_)
          · have c_92 : x6 = 0 := (lg_cmp_eq _ _).mp c_92
            have hm := it_t hm c_92
            refine lv_lload hx hb dX3_fits_115 (lv_at hl 0 rfl) ?_
            refine lv_aload_n hx hb dX3_fits_117 rfl (lv_at hl 5 rfl) ?_
            refine va_get (D := (dC, dI)) (ci := 3) (v := .int ybd) (C := RX3) (T := TX3) (N := 18) hx hb hts ziX3 hown hK hP 0 rfl rfl 1 (by decide) zw2 (fun _ h9 => h9) rfl dX3_fits_118 ?_
            refine lv_i2l hx hb dX3_fits_121 rfl ?_
            refine lv_ladd hx hb dX3_fits_122 ?_
            refine lv_topl (fun x4_1 e_x4_1 => ?_)
            have hm := bnd_e hm e_x4_1
            refine lv_lstore (lv' := [(4, .long x4_1), (11, .long x11), (9, .long x9), (8, .int x8_1), (6, .long x6), (0, .ref (md 0)), (1, .ref (md 5)), (2, .int p2), (3, .int p3)]) hx hb dX3_fits_123 hl (by decide) rfl (fun ls hl => ?_)
            refine lv_lload hx hb dX3_fits_125 (lv_at hl 2 rfl) ?_
            refine lv_lstore (lv' := [(6, .long x9), (4, .long x4_1), (11, .long x11), (9, .long x9), (8, .int x8_1), (0, .ref (md 0)), (1, .ref (md 5)), (2, .int p2), (3, .int p3)]) hx hb dX3_fits_127 hl (by decide) rfl (fun ls hl => ?_)
            obtain ⟨x8_2, e_x8_2⟩ : ∃ y : Int32, y = x8_1 + 1 := ⟨_, rfl⟩
            have hm := bnd_e hm e_x8_2
            refine lv_iinc (v := x8_2) (lv' := [(8, .int x8_2), (6, .long x9), (4, .long x4_1), (11, .long x11), (9, .long x9), (0, .ref (md 0)), (1, .ref (md 5)), (2, .int p2), (3, .int p3)]) hx hb dX3_fits_129 hl (k := 4) rfl (by rw [e_x8_2]; rfl) (by decide) rfl (fun ls hl => ?_)
            refine lv_goto (tgt := 21) hx hb dX3_fits_132 (by decide) ?_
            exact ih_21 x8_2 x9 x4_1 yupj88 yunj88 hm _ _ hP hD hS _ (lv_sub hl [0, 1, 2, 5, 6, 7, 8] rfl)
          · have c_92 : ¬ (x6 = 0) := fun h => c_92 ((lg_cmp_eq _ _).mpr h)
            have hm := it_f hm c_92
            refine lv_lload hx hb dX3_fits_95 (lv_at hl 0 rfl) ?_
            refine lv_aload_n hx hb dX3_fits_97 rfl (lv_at hl 5 rfl) ?_
            refine va_get (D := (dC, dI)) (ci := 3) (v := .int ybd) (C := RX3) (T := TX3) (N := 18) hx hb hts ziX3 hown hK hP 0 rfl rfl 1 (by decide) zw2 (fun _ h9 => h9) rfl dX3_fits_98 ?_
            refine lv_i2l hx hb dX3_fits_101 rfl ?_
            refine lv_ladd hx hb dX3_fits_102 ?_
            refine lv_lload hx hb dX3_fits_103 (lv_at hl 3 rfl) ?_
            refine lv_lmul hx hb dX3_fits_105 ?_
            refine lv_lload hx hb dX3_fits_106 (lv_at hl 4 rfl) ?_
            refine lv_lload hx hb dX3_fits_108 (lv_at hl 1 rfl) ?_
            refine lv_lmul hx hb dX3_fits_110 ?_
            refine W.lcmp hx hb dX3_fits_111 ?_
            refine lv_if_ge (tgt := 129) hx hb dX3_fits_112 (by decide) (fun c_112 => ?_) (fun c_112 => ?_)
            · have c_112 : (x4 * x9) ≤ ((x11 + (Int32.toInt64 ybd)) * x6) := (lg_cmp_ge _ _).mp c_112
              have hm := it_t hm c_112
              obtain ⟨x8_3, e_x8_3⟩ : ∃ y : Int32, y = x8_1 + 1 := ⟨_, rfl⟩
              have hm := bnd_e hm e_x8_3
              refine lv_iinc (v := x8_3) (lv' := [(8, .int x8_3), (11, .long x11), (9, .long x9), (6, .long x6), (4, .long x4), (0, .ref (md 0)), (1, .ref (md 5)), (2, .int p2), (3, .int p3)]) hx hb dX3_fits_129 hl (k := 2) rfl (by rw [e_x8_3]; rfl) (by decide) rfl (fun ls hl => ?_)
              refine lv_goto (tgt := 21) hx hb dX3_fits_132 (by decide) ?_
              exact ih_21 x8_3 x6 x4 yupj88 yunj88 hm _ _ hP hD hS _ (lv_sub hl [0, 3, 4, 5, 6, 7, 8] rfl)
            · have c_112 : ¬ ((x4 * x9) ≤ ((x11 + (Int32.toInt64 ybd)) * x6)) := fun h => c_112 ((lg_cmp_ge _ _).mpr h)
              have hm := it_f hm c_112
              refine lv_lload hx hb dX3_fits_115 (lv_at hl 0 rfl) ?_
              refine lv_aload_n hx hb dX3_fits_117 rfl (lv_at hl 5 rfl) ?_
              refine va_get (D := (dC, dI)) (ci := 3) (v := .int ybd) (C := RX3) (T := TX3) (N := 18) hx hb hts ziX3 hown hK hP 0 rfl rfl 1 (by decide) zw2 (fun _ h9 => h9) rfl dX3_fits_118 ?_
              refine lv_i2l hx hb dX3_fits_121 rfl ?_
              refine lv_ladd hx hb dX3_fits_122 ?_
              refine lv_topl (fun x4_2 e_x4_2 => ?_)
              have hm := bnd_e hm e_x4_2
              refine lv_lstore (lv' := [(4, .long x4_2), (11, .long x11), (9, .long x9), (8, .int x8_1), (6, .long x6), (0, .ref (md 0)), (1, .ref (md 5)), (2, .int p2), (3, .int p3)]) hx hb dX3_fits_123 hl (by decide) rfl (fun ls hl => ?_)
              refine lv_lload hx hb dX3_fits_125 (lv_at hl 2 rfl) ?_
              refine lv_lstore (lv' := [(6, .long x9), (4, .long x4_2), (11, .long x11), (9, .long x9), (8, .int x8_1), (0, .ref (md 0)), (1, .ref (md 5)), (2, .int p2), (3, .int p3)]) hx hb dX3_fits_127 hl (by decide) rfl (fun ls hl => ?_)
              obtain ⟨x8_4, e_x8_4⟩ : ∃ y : Int32, y = x8_1 + 1 := ⟨_, rfl⟩
              have hm := bnd_e hm e_x8_4
              refine lv_iinc (v := x8_4) (lv' := [(8, .int x8_4), (6, .long x9), (4, .long x4_2), (11, .long x11), (9, .long x9), (0, .ref (md 0)), (1, .ref (md 5)), (2, .int p2), (3, .int p3)]) hx hb dX3_fits_129 hl (k := 4) rfl (by rw [e_x8_4]; rfl) (by decide) rfl (fun ls hl => ?_)
              refine lv_goto (tgt := 21) hx hb dX3_fits_132 (by decide) ?_
              exact ih_21 x8_4 x9 x4_2 yupj88 yunj88 hm _ _ hP hD hS _ (lv_sub hl [0, 1, 2, 5, 6, 7, 8] rfl)
        have hm := hq_88
        refine lv_if_le (tgt := 88) hx hb dX3_fits_67 (by decide) (fun c_67 => ?_) (fun c_67 => ?_)
        · have c_67 : ((x11 - (Int32.toInt64 ybd)) * yunl21) ≤ (yupl21 * x9) := (lg_cmp_le _ _).mp c_67
          have hm := it_t hm c_67
          exact J_88 yupl21 yunl21 (o2 hm) _ _ hP hD hS
        · have c_67 : ¬ (((x11 - (Int32.toInt64 ybd)) * yunl21) ≤ (yupl21 * x9)) := fun h => c_67 ((lg_cmp_le _ _).mpr h)
          have hm := it_f hm c_67
          refine lv_aload_n hx hb dX3_fits_70 rfl (lv_at hl 5 rfl) ?_
          refine lv_lload hx hb dX3_fits_71 (lv_at hl 0 rfl) ?_
          refine lv_aload_n hx hb dX3_fits_73 rfl (lv_at hl 5 rfl) ?_
          refine va_get (D := (dC, dI)) (ci := 3) (v := .int ybd) (C := RX3) (T := TX3) (N := 18) hx hb hts ziX3 hown hK hP 0 rfl rfl 1 (by decide) zw2 (fun _ h9 => h9) rfl dX3_fits_74 ?_
          refine lv_i2l hx hb dX3_fits_77 rfl ?_
          refine lv_lsub hx hb dX3_fits_78 ?_
          refine va_put (D := (dC, dI)) (ci := 3) (v := .long (x11 - (Int32.toInt64 ybd))) (ty := .long) (C := RX3) (T := TX3) (N := 18) hx hb hts ziX3 tyX3 tyX3_ok nmX3 hown hK hP hD hS 0 rfl rfl 16 (by decide) zw0 (fun _ h9 => h9) rfl (by decide +kernel) rfl rfl (Nat.le_of_ble_eq_true rfl) dX3_fits_79 (fun H locs hP hD hS => ?_)
          have hP : va_P (dC, dI) vwCl (wM cI cZ md yth ybd yro yrow ymk yrm yst ypc ybu ybn ymg ysp yjn ymd ybg ymm (x11 - (Int32.toInt64 ybd)) yunl21) H := hP
          have hD : va_D A (wM cI cZ md yth ybd yro yrow ymk yrm yst ypc ybu ybn ymg ysp yjn ymd ybg ymm (x11 - (Int32.toInt64 ybd)) yunl21) := hD
          refine lv_aload_n hx hb dX3_fits_82 rfl (lv_at hl 5 rfl) ?_
          refine lv_lload hx hb dX3_fits_83 (lv_at hl 1 rfl) ?_
          refine va_put (D := (dC, dI)) (ci := 3) (v := .long x9) (ty := .long) (C := RX3) (T := TX3) (N := 18) hx hb hts ziX3 tyX3 tyX3_ok nmX3 hown hK hP hD hS 0 rfl rfl 17 (by decide) zw1 (fun _ h9 => h9) rfl (by decide +kernel) rfl rfl (Nat.le_of_ble_eq_true rfl) dX3_fits_85 (fun H locs hP hD hS => ?_)
          have hP : va_P (dC, dI) vwCl (wM cI cZ md yth ybd yro yrow ymk yrm yst ypc ybu ybn ymg ysp yjn ymd ybg ymm (x11 - (Int32.toInt64 ybd)) x9) H := hP
          have hD : va_D A (wM cI cZ md yth ybd yro yrow ymk yrm yst ypc ybu ybn ymg ysp yjn ymd ybg ymm (x11 - (Int32.toInt64 ybd)) x9) := hD
          exact J_88 (x11 - (Int32.toInt64 ybd)) x9 (o2 hm) _ _ hP hD hS
  exact L_21 F x8 0 0 0 1 hq_21 _ _ hP hD hS _ (lv_sub hl [0, 1, 2, 3, 4, 5, 6] rfl)
set_option maxHeartbeats 4000000 in
set_option maxRecDepth 100000 in
theorem c_X3_cuts (l : Launch) (dC : Nat → ClassId) (dI : Nat → Nat → Nat) (cI : ClassId) (cZ : ClassId) (md : Nat → Nat) (yth : Int32) (ybd : Int32) (yro : Int32) (yrow : Nat → Int32) (ymk : Nat → Int32) (yrm : Int32) (yst : Nat → Int32) (ypc : Int32) (ybu : Nat → Int32) (ybn : Int32) (ymg : Int32) (ysp : Int32) (yjn : Int32) (ymd : Nat → Int32) (ybg : Nat → Int32) (ymm : Int32) (yup : Int64) (yun : Int64) (F : Nat) (p1 : Int32) (p2 : Int32) (sz : Nat) (r : Int32) (u_ybg : Nat → Int32) (u_yup : Int64) (u_yun : Int64) (hm : X3_cuts F ybd ymd ybg ymm yup yun p1 p2 = some (r, u_ybg, u_yup, u_yun)) : Met l yX3_cuts wsX3_cuts ({ frames := 1, cells := 0, slots := 0, locals := 32 }) (va_Pc [.ref (md 0), .int p1, .int p2] (zW (dC, dI) (wM cI cZ md yth ybd yro yrow ymk yrm yst ypc ybu ybn ymg ysp yjn ymd ybg ymm yup yun) [(cI, .int), (cZ, .boolean)] sz)) (zQi (dC, dI) (wM cI cZ md yth ybd yro yrow ymk yrm yst ypc ybu ybn ymg ysp yjn ymd u_ybg ymm u_yup u_yun) [(cI, .int), (cZ, .boolean)] (va_A (wM cI cZ md yth ybd yro yrow ymk yrm yst ypc ybu ybn ymg ysp yjn ymd ybg ymm yup yun) sz) r) 0 0 (va_A (wM cI cZ md yth ybd yro yrow ymk yrm yst ypc ybu ybn ymg ysp yjn ymd ybg ymm yup yun) sz) := by
  refine Met.ofW (cc := cX3_cuts) (maxL := 5) (ret := (some .int)) (by decide) rfl ?_
  intro p e s m args below meth c s₁ B hml hv
  obtain ⟨rfl, hsz, hP, hK, hD0⟩ := hv
  have hx := B.exec
  have hb := B.bytes
  have hr := B.returns
  have hts := atoms_spec (ws := wsX3_cuts) B.pre
  have hown : s.vm.findClass RX3 = some m.cls := findClass_of_methodNamed B.named
  have hlocks := B.notSynchronized
  subst hsz
  have hD := hD0.self (sz := s.heap.size)
  generalize hAe : va_A (wM cI cZ md yth ybd yro yrow ymk yrm yst ypc ybu ybn ymg ysp yjn ymd ybg ymm yup yun) s.heap.size = A at hD ⊢
  have hA : ∀ q : Nat, s.heap.size ≤ q → A q := fun q h => by rw [← hAe]; exact Or.inr h
  have hS : va_S A s.heap s.heap [] := va_S.rf
  generalize eL : ([] : List Loc) = locs at hS ⊢
  obtain ⟨H, eH⟩ : ∃ z : Heap, z = s.heap := ⟨_, rfl⟩
  have hP : va_P (dC, dI) vwCl (wM cI cZ md yth ybd yro yrow ymk yrm yst ypc ybu ybn ymg ysp yjn ymd ybg ymm yup yun) H := by rw [eH]; exact hP
  have hS : va_S A s.heap H locs := by rw [eH]; exact hS
  refine z_heap eH ?_
  have hl := lv_entry ([.ref (md 0), .int p1, .int p2]) (n := 5) (Nat.le_of_ble_eq_true rfl)
  rw [lg_entry_eq]
  generalize (lg_sl ([.ref (md 0), .int p1, .int p2]) ++ List.replicate (5 - (lg_sl ([.ref (md 0), .int p1, .int p2])).length) Slot.unset).toArray = ls at hl ⊢
  have hl : lv_has ls 5 [(0, .ref (md 0)), (1, .int p1), (2, .int p2)] := hl
  have zw0 := hts (.fieldLink RX3 102 "LearnedLedgeModel" "madeMany" "I") (by decide +kernel)
  have zw1 := hts (.fieldLink RX3 33 "LearnedLedgeModel" "begun" "[I") (by decide +kernel)
  have zw2 := hts (.fieldLink RX3 30 "LearnedLedgeModel" "made" "[I") (by decide +kernel)
  have ziX3 : ∀ w ∈ u_ws RX3 TX3 18, w ∈ wsX3_cuts := by decide +kernel
  refine lv_iload_n hx hb dX3_cuts_0 rfl (lv_at hl 2 rfl) ?_
  refine lv_istore_n (lv' := [(3, .int p2), (0, .ref (md 0)), (1, .int p1), (2, .int p2)]) hx hb dX3_cuts_1 rfl hl (by decide) rfl (fun ls hl => ?_)
  refine lv_iload_n hx hb dX3_cuts_2 rfl (lv_at hl 2 rfl) ?_
  refine lv_istore (lv' := [(4, .int p1), (3, .int p2), (0, .ref (md 0)), (1, .int p1), (2, .int p2)]) hx hb dX3_cuts_3 hl (by decide) rfl (fun ls hl => ?_)
  obtain ⟨z_5, hq_5, hm⟩ := ob hm
  have K_5 : ∀ (x3_3 : Int32), ∀ (ybgx5 : Nat → Int32), ∀ (yupx5 : Int64), ∀ (yunx5 : Int64), z_5 = (x3_3, ybgx5, yupx5, yunx5) → ∀ (H : Heap) (locs : List Loc), va_P (dC, dI) vwCl (wM cI cZ md yth ybd yro yrow ymk yrm yst ypc ybu ybn ymg ysp yjn ymd ybgx5 ymm yupx5 yunx5) H → va_D A (wM cI cZ md yth ybd yro yrow ymk yrm yst ypc ybu ybn ymg ysp yjn ymd ybgx5 ymm yupx5 yunx5) → va_S A s.heap H locs → ∀ (ls : Array Slot), lv_has ls 5 [(3, .int x3_3)] → W p l e (headSpec wsX3_cuts ({ frames := 1, cells := 0, slots := 0, locals := 32 } : Room)).room s m ([.ref (md 0), .int p1, .int p2] : List Value).toArray below meth c H locs 0 0 (MQ below (zQi (dC, dI) (wM cI cZ md yth ybd yro yrow ymk yrm yst ypc ybu ybn ymg ysp yjn ymd u_ybg ymm u_yup u_yun) [(cI, .int), (cZ, .boolean)] A r) ([.ref (md 0), .int p1, .int p2] : List Value).toArray s 0 0 A) (F0 m 59 ls []) := by
    intro x3_3 ybgx5 yupx5 yunx5 ez H locs hP hD hS ls hl
    rw [ez] at hm
    refine lv_iload_n hx hb dX3_cuts_59 rfl (lv_at hl 0 rfl) ?_
    cases o2 hm
    exact W.iret hx hb hr (fun t ht hW => ⟨⟨_, (), rfl, rfl, by rw [ht]; exact hP, va_K.moved hW.alike hK, hD⟩, hS.F ht⟩) hS.2.2 dX3_cuts_60
  have L_5 : ∀ (n : Nat) (x4 : Int32) (x3 : Int32) (ybgl5 : Nat → Int32) (yupl5 : Int64) (yunl5 : Int64), X3_cuts_L5 p2 ybd ymd ymm F n x4 x3 ybgl5 yupl5 yunl5 = some z_5 → ∀ (H : Heap) (locs : List Loc), va_P (dC, dI) vwCl (wM cI cZ md yth ybd yro yrow ymk yrm yst ypc ybu ybn ymg ysp yjn ymd ybgl5 ymm yupl5 yunl5) H → va_D A (wM cI cZ md yth ybd yro yrow ymk yrm yst ypc ybu ybn ymg ysp yjn ymd ybgl5 ymm yupl5 yunl5) → va_S A s.heap H locs → ∀ (ls : Array Slot), lv_has ls 5 [(4, .int x4), (3, .int x3), (0, .ref (md 0)), (2, .int p2)] → W p l e (headSpec wsX3_cuts ({ frames := 1, cells := 0, slots := 0, locals := 32 } : Room)).room s m ([.ref (md 0), .int p1, .int p2] : List Value).toArray below meth c H locs 0 0 (MQ below (zQi (dC, dI) (wM cI cZ md yth ybd yro yrow ymk yrm yst ypc ybu ybn ymg ysp yjn ymd u_ybg ymm u_yup u_yun) [(cI, .int), (cZ, .boolean)] A r) ([.ref (md 0), .int p1, .int p2] : List Value).toArray s 0 0 A) (F0 m 5 ls []) := by
    intro n
    induction n with
    | zero => intro x4 x3 ybgl5 yupl5 yunl5 hm; cases hm
    | succ n ih_5 =>
      intro x4 x3 ybgl5 yupl5 yunl5 hm H locs hP hD hS ls hl
      refine lv_iload hx hb dX3_cuts_5 (lv_at hl 0 rfl) ?_
      refine lv_aload_n hx hb dX3_cuts_7 rfl (lv_at hl 2 rfl) ?_
      refine va_get (D := (dC, dI)) (ci := 3) (v := .int ymm) (C := RX3) (T := TX3) (N := 18) hx hb hts ziX3 hown hK hP 0 rfl rfl 15 (by decide) zw0 (fun _ h9 => h9) rfl dX3_cuts_8 ?_
      refine lv_icmp_ge (tgt := 59) hx hb dX3_cuts_11 (by decide) (fun c_11 => ?_) (fun c_11 => ?_)
      · have hm := it_t hm c_11
        exact K_5 x3 ybgl5 yupl5 yunl5 (o2 hm) _ _ hP hD hS _ (lv_sub hl [1] rfl)
      · have hm := it_f hm c_11
        refine lv_iload_n hx hb dX3_cuts_14 rfl (lv_at hl 1 rfl) ?_
        refine lv_iload_n hx hb dX3_cuts_15 rfl (lv_at hl 3 rfl) ?_
        refine lv_icmp_eq (tgt := 42) hx hb dX3_cuts_16 (by decide) (fun c_16 => ?_) (fun c_16 => ?_)
        · have hm := it_t hm c_16
          refine lv_aload_n hx hb dX3_cuts_42 rfl (lv_at hl 2 rfl) ?_
          refine va_get (D := (dC, dI)) (ci := 3) (v := .ref (md 6)) (C := RX3) (T := TX3) (N := 18) hx hb hts ziX3 hown hK hP 0 rfl rfl 14 (by decide) zw1 (fun _ h9 => h9) rfl dX3_cuts_43 ?_
          refine lv_iload_n hx hb dX3_cuts_46 rfl (lv_at hl 1 rfl) ?_
          refine lv_iload hx hb dX3_cuts_47 (lv_at hl 0 rfl) ?_
          obtain ⟨c_49, hm⟩ := ck hm
          refine va_iast hx hb hK hP hD hS 6 0 rfl rfl c_49 dX3_cuts_49 (fun H locs hP hD hS => ?_)
          have hP : va_P (dC, dI) vwCl (wM cI cZ md yth ybd yro yrow ymk yrm yst ypc ybu ybn ymg ysp yjn ymd (upd ybgl5 (Int32.toNatClampNeg x3) x4) ymm yupl5 yunl5) H := hP
          have hD : va_D A (wM cI cZ md yth ybd yro yrow ymk yrm yst ypc ybu ybn ymg ysp yjn ymd (upd ybgl5 (Int32.toNatClampNeg x3) x4) ymm yupl5 yunl5) := hD
          obtain ⟨x3_1, e_x3_1⟩ : ∃ y : Int32, y = x3 + 1 := ⟨_, rfl⟩
          have hm := bnd_e hm e_x3_1
          refine lv_iinc (v := x3_1) (lv' := [(3, .int x3_1), (4, .int x4), (0, .ref (md 0)), (2, .int p2)]) hx hb dX3_cuts_50 hl (k := 1) rfl (by rw [e_x3_1]; rfl) (by decide) rfl (fun ls hl => ?_)
          obtain ⟨x4_1, e_x4_1⟩ : ∃ y : Int32, y = x4 + 1 := ⟨_, rfl⟩
          have hm := bnd_e hm e_x4_1
          refine lv_iinc (v := x4_1) (lv' := [(4, .int x4_1), (3, .int x3_1), (0, .ref (md 0)), (2, .int p2)]) hx hb dX3_cuts_53 hl (k := 1) rfl (by rw [e_x4_1]; rfl) (by decide) rfl (fun ls hl => ?_)
          refine lv_goto (tgt := 5) hx hb dX3_cuts_56 (by decide) ?_
          exact ih_5 x4_1 x3_1 (upd ybgl5 (Int32.toNatClampNeg x3) x4) yupl5 yunl5 hm _ _ hP hD hS _ (lv_sub hl [0, 1, 2, 3] rfl)
        · have hm := it_f hm c_16
          refine lv_aload_n hx hb dX3_cuts_19 rfl (lv_at hl 2 rfl) ?_
          refine lv_aload_n hx hb dX3_cuts_20 rfl (lv_at hl 2 rfl) ?_
          refine va_get (D := (dC, dI)) (ci := 3) (v := .ref (md 5)) (C := RX3) (T := TX3) (N := 18) hx hb hts ziX3 hown hK hP 0 rfl rfl 13 (by decide) zw2 (fun _ h9 => h9) rfl dX3_cuts_21 ?_
          refine lv_aload_n hx hb dX3_cuts_24 rfl (lv_at hl 2 rfl) ?_
          refine va_get (D := (dC, dI)) (ci := 3) (v := .ref (md 6)) (C := RX3) (T := TX3) (N := 18) hx hb hts ziX3 hown hK hP 0 rfl rfl 14 (by decide) zw1 (fun _ h9 => h9) rfl dX3_cuts_25 ?_
          refine lv_iload_n hx hb dX3_cuts_28 rfl (lv_at hl 1 rfl) ?_
          refine lv_iconst (v := 1) hx hb dX3_cuts_29 (by decide) ?_
          refine lv_isub hx hb dX3_cuts_30 ?_
          obtain ⟨c_31, hm⟩ := ck hm
          refine va_iald hx hb hK hP 6 0 rfl rfl c_31 dX3_cuts_31 ?_
          refine lv_iload hx hb dX3_cuts_32 (lv_at hl 0 rfl) ?_
          refine lv_iconst (v := 1) hx hb dX3_cuts_34 (by decide) ?_
          refine lv_iadd hx hb dX3_cuts_35 ?_
          obtain ⟨⟨r36, yup36, yun36⟩, h_36, hm⟩ := ob hm
          refine z_callWi (wc := (wM cI cZ md yth ybd yro yrow ymk yrm yst ypc ybu ybn ymg ysp yjn ymd ybgl5 ymm yupl5 yunl5)) (w1 := (wM cI cZ md yth ybd yro yrow ymk yrm yst ypc ybu ybn ymg ysp yjn ymd ybgl5 ymm yup36 yun36)) (ws := (wM cI cZ md yth ybd yro yrow ymk yrm yst ypc ybu ybn ymg ysp yjn ymd ybgl5 ymm yupl5 yunl5)) (ws' := (wM cI cZ md yth ybd yro yrow ymk yrm yst ypc ybu ybn ymg ysp yjn ymd ybgl5 ymm yup36 yun36)) [0, 1, 2, 3, 4, 5, 6] [] 7 (As := [.ref (md 5), .int (ybgl5 (Int32.toNatClampNeg (x3 - 1))), .int (x4 + 1)]) (rest := []) (ci := 3) (q := (RX3, TX3, 18)) ⟨hx, hb, hml, hown, hts⟩ (c_X3_fits_made l dC dI cI cZ md yth ybd yro yrow ymk yrm yst ypc ybu ybn ymg ysp yjn ymd ybgl5 ymm yupl5 yunl5 F (ybgl5 (Int32.toNatClampNeg (x3 - 1))) (x4 + 1) H.size r36 yup36 yun36 h_36) (cwV 3 hts gX3_cuts_X3_fits rfl rfl rfl kv_X3_fits ⟨Nat.le_of_ble_eq_true rfl, Nat.le_of_ble_eq_true rfl⟩) hK hP hD hS hA hP hD rfl rfl (by decide) rfl rfl (by decide) rfl rfl rfl rfl rfl hl.1 rfl (Nat.le_of_ble_eq_true rfl) dX3_cuts_36 ⟨Nat.zero_le _, Nat.zero_le _⟩ (fun H locs hP hD hS => ?_)
          refine lv_if_ne (tgt := 53) hx hb dX3_cuts_39 (by decide) (fun c_39 => ?_) (fun c_39 => ?_)
          · have hm := it_f hm c_39
            obtain ⟨x4_2, e_x4_2⟩ : ∃ y : Int32, y = x4 + 1 := ⟨_, rfl⟩
            have hm := bnd_e hm e_x4_2
            refine lv_iinc (v := x4_2) (lv' := [(4, .int x4_2), (3, .int x3), (0, .ref (md 0)), (2, .int p2)]) hx hb dX3_cuts_53 hl (k := 0) rfl (by rw [e_x4_2]; rfl) (by decide) rfl (fun ls hl => ?_)
            refine lv_goto (tgt := 5) hx hb dX3_cuts_56 (by decide) ?_
            exact ih_5 x4_2 x3 ybgl5 yup36 yun36 hm _ _ hP hD hS _ (lv_sub hl [0, 1, 2, 3] rfl)
          · have hm := it_t hm c_39
            refine lv_aload_n hx hb dX3_cuts_42 rfl (lv_at hl 2 rfl) ?_
            refine va_get (D := (dC, dI)) (ci := 3) (v := .ref (md 6)) (C := RX3) (T := TX3) (N := 18) hx hb hts ziX3 hown hK hP 0 rfl rfl 14 (by decide) zw1 (fun _ h9 => h9) rfl dX3_cuts_43 ?_
            refine lv_iload_n hx hb dX3_cuts_46 rfl (lv_at hl 1 rfl) ?_
            refine lv_iload hx hb dX3_cuts_47 (lv_at hl 0 rfl) ?_
            obtain ⟨c_49, hm⟩ := ck hm
            refine va_iast hx hb hK hP hD hS 6 0 rfl rfl c_49 dX3_cuts_49 (fun H locs hP hD hS => ?_)
            have hP : va_P (dC, dI) vwCl (wM cI cZ md yth ybd yro yrow ymk yrm yst ypc ybu ybn ymg ysp yjn ymd (upd ybgl5 (Int32.toNatClampNeg x3) x4) ymm yup36 yun36) H := hP
            have hD : va_D A (wM cI cZ md yth ybd yro yrow ymk yrm yst ypc ybu ybn ymg ysp yjn ymd (upd ybgl5 (Int32.toNatClampNeg x3) x4) ymm yup36 yun36) := hD
            obtain ⟨x3_2, e_x3_2⟩ : ∃ y : Int32, y = x3 + 1 := ⟨_, rfl⟩
            have hm := bnd_e hm e_x3_2
            refine lv_iinc (v := x3_2) (lv' := [(3, .int x3_2), (4, .int x4), (0, .ref (md 0)), (2, .int p2)]) hx hb dX3_cuts_50 hl (k := 1) rfl (by rw [e_x3_2]; rfl) (by decide) rfl (fun ls hl => ?_)
            obtain ⟨x4_3, e_x4_3⟩ : ∃ y : Int32, y = x4 + 1 := ⟨_, rfl⟩
            have hm := bnd_e hm e_x4_3
            refine lv_iinc (v := x4_3) (lv' := [(4, .int x4_3), (3, .int x3_2), (0, .ref (md 0)), (2, .int p2)]) hx hb dX3_cuts_53 hl (k := 1) rfl (by rw [e_x4_3]; rfl) (by decide) rfl (fun ls hl => ?_)
            refine lv_goto (tgt := 5) hx hb dX3_cuts_56 (by decide) ?_
            exact ih_5 x4_3 x3_2 (upd ybgl5 (Int32.toNatClampNeg x3) x4) yup36 yun36 hm _ _ hP hD hS _ (lv_sub hl [0, 1, 2, 3] rfl)
  exact L_5 F p1 p2 ybg yup yun hq_5 _ _ hP hD hS _ (lv_sub hl [0, 1, 2, 4] rfl)
set_option maxHeartbeats 4000000 in
set_option maxRecDepth 100000 in
theorem c_X3_becomes (l : Launch) (dC : Nat → ClassId) (dI : Nat → Nat → Nat) (cI : ClassId) (cZ : ClassId) (md : Nat → Nat) (yth : Int32) (ybd : Int32) (yro : Int32) (yrow : Nat → Int32) (ymk : Nat → Int32) (yrm : Int32) (yst : Nat → Int32) (ypc : Int32) (ybu : Nat → Int32) (ybn : Int32) (ymg : Int32) (ysp : Int32) (yjn : Int32) (ymd : Nat → Int32) (ybg : Nat → Int32) (ymm : Int32) (yup : Int64) (yun : Int64) (F : Nat) (p1 : Int32) (sz : Nat) (u_yrow : Nat → Int32) (u_ymk : Nat → Int32) (u_yrm : Int32) (u_yst : Nat → Int32) (u_ypc : Int32) (u_ybn : Int32) (hm : X3_becomes F yrow ymk yrm yst ypc ybn ymd ybg ymm p1 = some (u_yrow, u_ymk, u_yrm, u_yst, u_ypc, u_ybn)) : Met l yX3_becomes wsX3_becomes ({ frames := 0, cells := 0, slots := 0, locals := 0 }) (va_Pc [.ref (md 0), .int p1] (zW (dC, dI) (wM cI cZ md yth ybd yro yrow ymk yrm yst ypc ybu ybn ymg ysp yjn ymd ybg ymm yup yun) [(cI, .int), (cZ, .boolean)] sz)) (zQv (dC, dI) (wM cI cZ md yth ybd yro u_yrow u_ymk u_yrm u_yst u_ypc ybu u_ybn ymg ysp yjn ymd ybg ymm yup yun) [(cI, .int), (cZ, .boolean)] (va_A (wM cI cZ md yth ybd yro yrow ymk yrm yst ypc ybu ybn ymg ysp yjn ymd ybg ymm yup yun) sz)) 0 0 (va_A (wM cI cZ md yth ybd yro yrow ymk yrm yst ypc ybu ybn ymg ysp yjn ymd ybg ymm yup yun) sz) := by
  refine Met.ofW (cc := cX3_becomes) (maxL := 3) (ret := none) (by decide) rfl ?_
  intro p e s m args below meth c s₁ B hml hv
  obtain ⟨rfl, hsz, hP, hK, hD0⟩ := hv
  have hx := B.exec
  have hb := B.bytes
  have hr := B.returns
  have hts := atoms_spec (ws := wsX3_becomes) B.pre
  have hown : s.vm.findClass RX3 = some m.cls := findClass_of_methodNamed B.named
  have hlocks := B.notSynchronized
  subst hsz
  have hD := hD0.self (sz := s.heap.size)
  generalize hAe : va_A (wM cI cZ md yth ybd yro yrow ymk yrm yst ypc ybu ybn ymg ysp yjn ymd ybg ymm yup yun) s.heap.size = A at hD ⊢
  have hA : ∀ q : Nat, s.heap.size ≤ q → A q := fun q h => by rw [← hAe]; exact Or.inr h
  have hS : va_S A s.heap s.heap [] := va_S.rf
  generalize eL : ([] : List Loc) = locs at hS ⊢
  obtain ⟨H, eH⟩ : ∃ z : Heap, z = s.heap := ⟨_, rfl⟩
  have hP : va_P (dC, dI) vwCl (wM cI cZ md yth ybd yro yrow ymk yrm yst ypc ybu ybn ymg ysp yjn ymd ybg ymm yup yun) H := by rw [eH]; exact hP
  have hS : va_S A s.heap H locs := by rw [eH]; exact hS
  refine z_heap eH ?_
  have hl := lv_entry ([.ref (md 0), .int p1]) (n := 3) (Nat.le_of_ble_eq_true rfl)
  rw [lg_entry_eq]
  generalize (lg_sl ([.ref (md 0), .int p1]) ++ List.replicate (3 - (lg_sl ([.ref (md 0), .int p1])).length) Slot.unset).toArray = ls at hl ⊢
  have hl : lv_has ls 3 [(0, .ref (md 0)), (1, .int p1)] := hl
  have zw0 := hts (.fieldLink RX3 102 "LearnedLedgeModel" "madeMany" "I") (by decide +kernel)
  have zw1 := hts (.fieldLink RX3 51 "LearnedLedgeModel" "rowMany" "I") (by decide +kernel)
  have zw2 := hts (.fieldLink RX3 48 "LearnedLedgeModel" "pieces" "I") (by decide +kernel)
  have zw3 := hts (.fieldLink RX3 69 "LearnedLedgeModel" "buffered" "I") (by decide +kernel)
  have zw4 := hts (.fieldLink RX3 16 "LearnedLedgeModel" "row" "[I") (by decide +kernel)
  have zw5 := hts (.fieldLink RX3 30 "LearnedLedgeModel" "made" "[I") (by decide +kernel)
  have zw6 := hts (.fieldLink RX3 20 "LearnedLedgeModel" "isMarked" "[Z") (by decide +kernel)
  have zw7 := hts (.fieldLink RX3 24 "LearnedLedgeModel" "start" "[I") (by decide +kernel)
  have zw8 := hts (.fieldLink RX3 33 "LearnedLedgeModel" "begun" "[I") (by decide +kernel)
  have ziX3 : ∀ w ∈ u_ws RX3 TX3 18, w ∈ wsX3_becomes := by decide +kernel
  refine lv_aload_n hx hb dX3_becomes_0 rfl (lv_at hl 0 rfl) ?_
  refine lv_aload_n hx hb dX3_becomes_1 rfl (lv_at hl 0 rfl) ?_
  refine va_get (D := (dC, dI)) (ci := 3) (v := .int ymm) (C := RX3) (T := TX3) (N := 18) hx hb hts ziX3 hown hK hP 0 rfl rfl 15 (by decide) zw0 (fun _ h9 => h9) rfl dX3_becomes_2 ?_
  refine va_put (D := (dC, dI)) (ci := 3) (v := .int ymm) (ty := .int) (C := RX3) (T := TX3) (N := 18) hx hb hts ziX3 tyX3 tyX3_ok nmX3 hown hK hP hD hS 0 rfl rfl 5 (by decide) zw1 (fun _ h9 => h9) rfl (by decide +kernel) rfl rfl (Nat.le_of_ble_eq_true rfl) dX3_becomes_5 (fun H locs hP hD hS => ?_)
  have hP : va_P (dC, dI) vwCl (wM cI cZ md yth ybd yro yrow ymk ymm yst ypc ybu ybn ymg ysp yjn ymd ybg ymm yup yun) H := hP
  have hD : va_D A (wM cI cZ md yth ybd yro yrow ymk ymm yst ypc ybu ybn ymg ysp yjn ymd ybg ymm yup yun) := hD
  refine lv_aload_n hx hb dX3_becomes_8 rfl (lv_at hl 0 rfl) ?_
  refine lv_iload_n hx hb dX3_becomes_9 rfl (lv_at hl 1 rfl) ?_
  refine va_put (D := (dC, dI)) (ci := 3) (v := .int p1) (ty := .int) (C := RX3) (T := TX3) (N := 18) hx hb hts ziX3 tyX3 tyX3_ok nmX3 hown hK hP hD hS 0 rfl rfl 7 (by decide) zw2 (fun _ h9 => h9) rfl (by decide +kernel) rfl rfl (Nat.le_of_ble_eq_true rfl) dX3_becomes_10 (fun H locs hP hD hS => ?_)
  have hP : va_P (dC, dI) vwCl (wM cI cZ md yth ybd yro yrow ymk ymm yst p1 ybu ybn ymg ysp yjn ymd ybg ymm yup yun) H := hP
  have hD : va_D A (wM cI cZ md yth ybd yro yrow ymk ymm yst p1 ybu ybn ymg ysp yjn ymd ybg ymm yup yun) := hD
  refine lv_aload_n hx hb dX3_becomes_13 rfl (lv_at hl 0 rfl) ?_
  refine lv_iconst (v := 0) hx hb dX3_becomes_14 (by decide) ?_
  refine va_put (D := (dC, dI)) (ci := 3) (v := .int 0) (ty := .int) (C := RX3) (T := TX3) (N := 18) hx hb hts ziX3 tyX3 tyX3_ok nmX3 hown hK hP hD hS 0 rfl rfl 9 (by decide) zw3 (fun _ h9 => h9) rfl (by decide +kernel) rfl rfl (Nat.le_of_ble_eq_true rfl) dX3_becomes_15 (fun H locs hP hD hS => ?_)
  have hP : va_P (dC, dI) vwCl (wM cI cZ md yth ybd yro yrow ymk ymm yst p1 ybu 0 ymg ysp yjn ymd ybg ymm yup yun) H := hP
  have hD : va_D A (wM cI cZ md yth ybd yro yrow ymk ymm yst p1 ybu 0 ymg ysp yjn ymd ybg ymm yup yun) := hD
  refine lv_iconst (v := 0) hx hb dX3_becomes_18 (by decide) ?_
  refine lv_istore_n (lv' := [(2, .int 0), (0, .ref (md 0)), (1, .int p1)]) hx hb dX3_becomes_19 rfl hl (by decide) rfl (fun ls hl => ?_)
  obtain ⟨z_20, hq_20, hm⟩ := ob hm
  have K_20 : ∀ (yrowx20 : Nat → Int32), ∀ (ymkx20 : Nat → Int32), z_20 = (yrowx20, ymkx20) → ∀ (H : Heap) (locs : List Loc), va_P (dC, dI) vwCl (wM cI cZ md yth ybd yro yrowx20 ymkx20 ymm yst p1 ybu 0 ymg ysp yjn ymd ybg ymm yup yun) H → va_D A (wM cI cZ md yth ybd yro yrowx20 ymkx20 ymm yst p1 ybu 0 ymg ysp yjn ymd ybg ymm yup yun) → va_S A s.heap H locs → ∀ (ls : Array Slot), lv_has ls 3 [(0, .ref (md 0))] → W p l e (headSpec wsX3_becomes ({ frames := 0, cells := 0, slots := 0, locals := 0 } : Room)).room s m ([.ref (md 0), .int p1] : List Value).toArray below meth c H locs 0 0 (MQ below (zQv (dC, dI) (wM cI cZ md yth ybd yro u_yrow u_ymk u_yrm u_yst u_ypc ybu u_ybn ymg ysp yjn ymd ybg ymm yup yun) [(cI, .int), (cZ, .boolean)] A) ([.ref (md 0), .int p1] : List Value).toArray s 0 0 A) (F0 m 53 ls []) := by
    intro yrowx20 ymkx20 ez H locs hP hD hS ls hl
    rw [ez] at hm
    refine lv_iconst (v := 0) hx hb dX3_becomes_53 (by decide) ?_
    refine lv_istore_n (lv' := [(2, .int 0), (0, .ref (md 0))]) hx hb dX3_becomes_54 rfl hl (by decide) rfl (fun ls hl => ?_)
    obtain ⟨z_55, hq_55, hm⟩ := ob hm
    have K_55 : ∀ (ystx55 : Nat → Int32), z_55 = ystx55 → ∀ (H : Heap) (locs : List Loc), va_P (dC, dI) vwCl (wM cI cZ md yth ybd yro yrowx20 ymkx20 ymm ystx55 p1 ybu 0 ymg ysp yjn ymd ybg ymm yup yun) H → va_D A (wM cI cZ md yth ybd yro yrowx20 ymkx20 ymm ystx55 p1 ybu 0 ymg ysp yjn ymd ybg ymm yup yun) → va_S A s.heap H locs → ∀ (ls : Array Slot), lv_has ls 3 [] → W p l e (headSpec wsX3_becomes ({ frames := 0, cells := 0, slots := 0, locals := 0 } : Room)).room s m ([.ref (md 0), .int p1] : List Value).toArray below meth c H locs 0 0 (MQ below (zQv (dC, dI) (wM cI cZ md yth ybd yro u_yrow u_ymk u_yrm u_yst u_ypc ybu u_ybn ymg ysp yjn ymd ybg ymm yup yun) [(cI, .int), (cZ, .boolean)] A) ([.ref (md 0), .int p1] : List Value).toArray s 0 0 A) (F0 m 81 ls []) := by
      intro ystx55 ez H locs hP hD hS ls hl
      rw [ez] at hm
      cases o2 hm
      exact W.vret hx hb hr (fun t ht hW => ⟨⟨(), rfl, trivial, by rw [ht]; exact hP, va_K.moved hW.alike hK, hD⟩, hS.F ht⟩) hS.2.2 dX3_becomes_81
    have L_55 : ∀ (n : Nat) (x2_2 : Int32) (ystl55 : Nat → Int32), X3_becomes_L55 p1 ybg n x2_2 ystl55 = some z_55 → ∀ (H : Heap) (locs : List Loc), va_P (dC, dI) vwCl (wM cI cZ md yth ybd yro yrowx20 ymkx20 ymm ystl55 p1 ybu 0 ymg ysp yjn ymd ybg ymm yup yun) H → va_D A (wM cI cZ md yth ybd yro yrowx20 ymkx20 ymm ystl55 p1 ybu 0 ymg ysp yjn ymd ybg ymm yup yun) → va_S A s.heap H locs → ∀ (ls : Array Slot), lv_has ls 3 [(2, .int x2_2), (0, .ref (md 0))] → W p l e (headSpec wsX3_becomes ({ frames := 0, cells := 0, slots := 0, locals := 0 } : Room)).room s m ([.ref (md 0), .int p1] : List Value).toArray below meth c H locs 0 0 (MQ below (zQv (dC, dI) (wM cI cZ md yth ybd yro u_yrow u_ymk u_yrm u_yst u_ypc ybu u_ybn ymg ysp yjn ymd ybg ymm yup yun) [(cI, .int), (cZ, .boolean)] A) ([.ref (md 0), .int p1] : List Value).toArray s 0 0 A) (F0 m 55 ls []) := by
      intro n
      induction n with
      | zero => intro x2_2 ystl55 hm; cases hm
      | succ n ih_55 =>
        intro x2_2 ystl55 hm H locs hP hD hS ls hl
        refine lv_iload_n hx hb dX3_becomes_55 rfl (lv_at hl 0 rfl) ?_
        refine lv_aload_n hx hb dX3_becomes_56 rfl (lv_at hl 1 rfl) ?_
        refine va_get (D := (dC, dI)) (ci := 3) (v := .int p1) (C := RX3) (T := TX3) (N := 18) hx hb hts ziX3 hown hK hP 0 rfl rfl 7 (by decide) zw2 (fun _ h9 => h9) rfl dX3_becomes_57 ?_
        refine lv_icmp_ge (tgt := 81) hx hb dX3_becomes_60 (by decide) (fun c_60 => ?_) (fun c_60 => ?_)
        · have hm := it_t hm c_60
          exact K_55 ystl55 (o2 hm) _ _ hP hD hS _ (lv_sub hl [] rfl)
        · have hm := it_f hm c_60
          refine lv_aload_n hx hb dX3_becomes_63 rfl (lv_at hl 1 rfl) ?_
          refine va_get (D := (dC, dI)) (ci := 3) (v := .ref (md 3)) (C := RX3) (T := TX3) (N := 18) hx hb hts ziX3 hown hK hP 0 rfl rfl 6 (by decide) zw7 (fun _ h9 => h9) rfl dX3_becomes_64 ?_
          refine lv_iload_n hx hb dX3_becomes_67 rfl (lv_at hl 0 rfl) ?_
          refine lv_aload_n hx hb dX3_becomes_68 rfl (lv_at hl 1 rfl) ?_
          refine va_get (D := (dC, dI)) (ci := 3) (v := .ref (md 6)) (C := RX3) (T := TX3) (N := 18) hx hb hts ziX3 hown hK hP 0 rfl rfl 14 (by decide) zw8 (fun _ h9 => h9) rfl dX3_becomes_69 ?_
          refine lv_iload_n hx hb dX3_becomes_72 rfl (lv_at hl 0 rfl) ?_
          obtain ⟨c_73, hm⟩ := ck hm
          refine va_iald hx hb hK hP 6 0 rfl rfl c_73 dX3_becomes_73 ?_
          obtain ⟨c_74, hm⟩ := ck hm
          refine va_iast hx hb hK hP hD hS 3 0 rfl rfl c_74 dX3_becomes_74 (fun H locs hP hD hS => ?_)
          have hP : va_P (dC, dI) vwCl (wM cI cZ md yth ybd yro yrowx20 ymkx20 ymm (upd ystl55 (Int32.toNatClampNeg x2_2) (ybg (Int32.toNatClampNeg x2_2))) p1 ybu 0 ymg ysp yjn ymd ybg ymm yup yun) H := hP
          have hD : va_D A (wM cI cZ md yth ybd yro yrowx20 ymkx20 ymm (upd ystl55 (Int32.toNatClampNeg x2_2) (ybg (Int32.toNatClampNeg x2_2))) p1 ybu 0 ymg ysp yjn ymd ybg ymm yup yun) := hD
          obtain ⟨x2_3, e_x2_3⟩ : ∃ y : Int32, y = x2_2 + 1 := ⟨_, rfl⟩
          have hm := bnd_e hm e_x2_3
          refine lv_iinc (v := x2_3) (lv' := [(2, .int x2_3), (0, .ref (md 0))]) hx hb dX3_becomes_75 hl (k := 0) rfl (by rw [e_x2_3]; rfl) (by decide) rfl (fun ls hl => ?_)
          refine lv_goto (tgt := 55) hx hb dX3_becomes_78 (by decide) ?_
          exact ih_55 x2_3 (upd ystl55 (Int32.toNatClampNeg x2_2) (ybg (Int32.toNatClampNeg x2_2))) hm _ _ hP hD hS _ (lv_sub hl [0, 1] rfl)
    exact L_55 F 0 yst hq_55 _ _ hP hD hS _ (lv_sub hl [0, 1] rfl)
  have L_20 : ∀ (n : Nat) (x2 : Int32) (yrowl20 : Nat → Int32) (ymkl20 : Nat → Int32), X3_becomes_L20 ymd ymm n x2 yrowl20 ymkl20 = some z_20 → ∀ (H : Heap) (locs : List Loc), va_P (dC, dI) vwCl (wM cI cZ md yth ybd yro yrowl20 ymkl20 ymm yst p1 ybu 0 ymg ysp yjn ymd ybg ymm yup yun) H → va_D A (wM cI cZ md yth ybd yro yrowl20 ymkl20 ymm yst p1 ybu 0 ymg ysp yjn ymd ybg ymm yup yun) → va_S A s.heap H locs → ∀ (ls : Array Slot), lv_has ls 3 [(2, .int x2), (0, .ref (md 0))] → W p l e (headSpec wsX3_becomes ({ frames := 0, cells := 0, slots := 0, locals := 0 } : Room)).room s m ([.ref (md 0), .int p1] : List Value).toArray below meth c H locs 0 0 (MQ below (zQv (dC, dI) (wM cI cZ md yth ybd yro u_yrow u_ymk u_yrm u_yst u_ypc ybu u_ybn ymg ysp yjn ymd ybg ymm yup yun) [(cI, .int), (cZ, .boolean)] A) ([.ref (md 0), .int p1] : List Value).toArray s 0 0 A) (F0 m 20 ls []) := by
    intro n
    induction n with
    | zero => intro x2 yrowl20 ymkl20 hm; cases hm
    | succ n ih_20 =>
      intro x2 yrowl20 ymkl20 hm H locs hP hD hS ls hl
      refine lv_iload_n hx hb dX3_becomes_20 rfl (lv_at hl 0 rfl) ?_
      refine lv_aload_n hx hb dX3_becomes_21 rfl (lv_at hl 1 rfl) ?_
      refine va_get (D := (dC, dI)) (ci := 3) (v := .int ymm) (C := RX3) (T := TX3) (N := 18) hx hb hts ziX3 hown hK hP 0 rfl rfl 5 (by decide) zw1 (fun _ h9 => h9) rfl dX3_becomes_22 ?_
      refine lv_icmp_ge (tgt := 53) hx hb dX3_becomes_25 (by decide) (fun c_25 => ?_) (fun c_25 => ?_)
      · have hm := it_t hm c_25
        exact K_20 yrowl20 ymkl20 (o2 hm) _ _ hP hD hS _ (lv_sub hl [1] rfl)
      · have hm := it_f hm c_25
        refine lv_aload_n hx hb dX3_becomes_28 rfl (lv_at hl 1 rfl) ?_
        refine va_get (D := (dC, dI)) (ci := 3) (v := .ref (md 1)) (C := RX3) (T := TX3) (N := 18) hx hb hts ziX3 hown hK hP 0 rfl rfl 3 (by decide) zw4 (fun _ h9 => h9) rfl dX3_becomes_29 ?_
        refine lv_iload_n hx hb dX3_becomes_32 rfl (lv_at hl 0 rfl) ?_
        refine lv_aload_n hx hb dX3_becomes_33 rfl (lv_at hl 1 rfl) ?_
        refine va_get (D := (dC, dI)) (ci := 3) (v := .ref (md 5)) (C := RX3) (T := TX3) (N := 18) hx hb hts ziX3 hown hK hP 0 rfl rfl 13 (by decide) zw5 (fun _ h9 => h9) rfl dX3_becomes_34 ?_
        refine lv_iload_n hx hb dX3_becomes_37 rfl (lv_at hl 0 rfl) ?_
        obtain ⟨c_38, hm⟩ := ck hm
        refine va_iald hx hb hK hP 5 0 rfl rfl c_38 dX3_becomes_38 ?_
        obtain ⟨c_39, hm⟩ := ck hm
        refine va_iast hx hb hK hP hD hS 1 0 rfl rfl c_39 dX3_becomes_39 (fun H locs hP hD hS => ?_)
        have hP : va_P (dC, dI) vwCl (wM cI cZ md yth ybd yro (upd yrowl20 (Int32.toNatClampNeg x2) (ymd (Int32.toNatClampNeg x2))) ymkl20 ymm yst p1 ybu 0 ymg ysp yjn ymd ybg ymm yup yun) H := hP
        have hD : va_D A (wM cI cZ md yth ybd yro (upd yrowl20 (Int32.toNatClampNeg x2) (ymd (Int32.toNatClampNeg x2))) ymkl20 ymm yst p1 ybu 0 ymg ysp yjn ymd ybg ymm yup yun) := hD
        refine lv_aload_n hx hb dX3_becomes_40 rfl (lv_at hl 1 rfl) ?_
        refine va_get (D := (dC, dI)) (ci := 3) (v := .ref (md 2)) (C := RX3) (T := TX3) (N := 18) hx hb hts ziX3 hown hK hP 0 rfl rfl 4 (by decide) zw6 (fun _ h9 => h9) rfl dX3_becomes_41 ?_
        refine lv_iload_n hx hb dX3_becomes_44 rfl (lv_at hl 0 rfl) ?_
        refine lv_iconst (v := 0) hx hb dX3_becomes_45 (by decide) ?_
        obtain ⟨c_46, hm⟩ := ck hm
        refine va_zast hx hb hK hP hD hS 2 1 rfl rfl c_46 dX3_becomes_46 (fun H locs hP hD hS => ?_)
        have hP : va_P (dC, dI) vwCl (wM cI cZ md yth ybd yro (upd yrowl20 (Int32.toNatClampNeg x2) (ymd (Int32.toNatClampNeg x2))) (upd ymkl20 (Int32.toNatClampNeg x2) 0) ymm yst p1 ybu 0 ymg ysp yjn ymd ybg ymm yup yun) H := hP
        have hD : va_D A (wM cI cZ md yth ybd yro (upd yrowl20 (Int32.toNatClampNeg x2) (ymd (Int32.toNatClampNeg x2))) (upd ymkl20 (Int32.toNatClampNeg x2) 0) ymm yst p1 ybu 0 ymg ysp yjn ymd ybg ymm yup yun) := hD
        obtain ⟨x2_1, e_x2_1⟩ : ∃ y : Int32, y = x2 + 1 := ⟨_, rfl⟩
        have hm := bnd_e hm e_x2_1
        refine lv_iinc (v := x2_1) (lv' := [(2, .int x2_1), (0, .ref (md 0))]) hx hb dX3_becomes_47 hl (k := 0) rfl (by rw [e_x2_1]; rfl) (by decide) rfl (fun ls hl => ?_)
        refine lv_goto (tgt := 20) hx hb dX3_becomes_50 (by decide) ?_
        exact ih_20 x2_1 (upd yrowl20 (Int32.toNatClampNeg x2) (ymd (Int32.toNatClampNeg x2))) (upd ymkl20 (Int32.toNatClampNeg x2) 0) hm _ _ hP hD hS _ (lv_sub hl [0, 1] rfl)
  exact L_20 F 0 yrow ymk hq_20 _ _ hP hD hS _ (lv_sub hl [0, 1] rfl)
set_option maxHeartbeats 4000000 in
set_option maxRecDepth 100000 in
theorem c_X3_joinsPieces (l : Launch) (dC : Nat → ClassId) (dI : Nat → Nat → Nat) (cI : ClassId) (cZ : ClassId) (md : Nat → Nat) (yth : Int32) (ybd : Int32) (yro : Int32) (yrow : Nat → Int32) (ymk : Nat → Int32) (yrm : Int32) (yst : Nat → Int32) (ypc : Int32) (ybu : Nat → Int32) (ybn : Int32) (ymg : Int32) (ysp : Int32) (yjn : Int32) (ymd : Nat → Int32) (ybg : Nat → Int32) (ymm : Int32) (yup : Int64) (yun : Int64) (F : Nat) (sz : Nat) (u_yst : Nat → Int32) (u_ypc : Int32) (u_yjn : Int32) (u_yup : Int64) (u_yun : Int64) (hm : X3_joinsPieces F ybd yrow yrm yst ypc yjn yup yun = some (u_yst, u_ypc, u_yjn, u_yup, u_yun)) : Met l yX3_joinsPieces wsX3_joinsPieces ({ frames := 1, cells := 0, slots := 0, locals := 32 }) (va_Pc [.ref (md 0)] (zW (dC, dI) (wM cI cZ md yth ybd yro yrow ymk yrm yst ypc ybu ybn ymg ysp yjn ymd ybg ymm yup yun) [(cI, .int), (cZ, .boolean)] sz)) (zQv (dC, dI) (wM cI cZ md yth ybd yro yrow ymk yrm u_yst u_ypc ybu ybn ymg ysp u_yjn ymd ybg ymm u_yup u_yun) [(cI, .int), (cZ, .boolean)] (va_A (wM cI cZ md yth ybd yro yrow ymk yrm yst ypc ybu ybn ymg ysp yjn ymd ybg ymm yup yun) sz)) 0 0 (va_A (wM cI cZ md yth ybd yro yrow ymk yrm yst ypc ybu ybn ymg ysp yjn ymd ybg ymm yup yun) sz) := by
  refine Met.ofW (cc := cX3_joinsPieces) (maxL := 3) (ret := none) (by decide) rfl ?_
  intro p e s m args below meth c s₁ B hml hv
  obtain ⟨rfl, hsz, hP, hK, hD0⟩ := hv
  have hx := B.exec
  have hb := B.bytes
  have hr := B.returns
  have hts := atoms_spec (ws := wsX3_joinsPieces) B.pre
  have hown : s.vm.findClass RX3 = some m.cls := findClass_of_methodNamed B.named
  have hlocks := B.notSynchronized
  subst hsz
  have hD := hD0.self (sz := s.heap.size)
  generalize hAe : va_A (wM cI cZ md yth ybd yro yrow ymk yrm yst ypc ybu ybn ymg ysp yjn ymd ybg ymm yup yun) s.heap.size = A at hD ⊢
  have hA : ∀ q : Nat, s.heap.size ≤ q → A q := fun q h => by rw [← hAe]; exact Or.inr h
  have hS : va_S A s.heap s.heap [] := va_S.rf
  generalize eL : ([] : List Loc) = locs at hS ⊢
  obtain ⟨H, eH⟩ : ∃ z : Heap, z = s.heap := ⟨_, rfl⟩
  have hP : va_P (dC, dI) vwCl (wM cI cZ md yth ybd yro yrow ymk yrm yst ypc ybu ybn ymg ysp yjn ymd ybg ymm yup yun) H := by rw [eH]; exact hP
  have hS : va_S A s.heap H locs := by rw [eH]; exact hS
  refine z_heap eH ?_
  have hl := lv_entry ([.ref (md 0)]) (n := 3) (Nat.le_of_ble_eq_true rfl)
  rw [lg_entry_eq]
  generalize (lg_sl ([.ref (md 0)]) ++ List.replicate (3 - (lg_sl ([.ref (md 0)])).length) Slot.unset).toArray = ls at hl ⊢
  have hl : lv_has ls 3 [(0, .ref (md 0))] := hl
  have zw0 := hts (.fieldLink RX3 48 "LearnedLedgeModel" "pieces" "I") (by decide +kernel)
  have zw1 := hts (.fieldLink RX3 16 "LearnedLedgeModel" "row" "[I") (by decide +kernel)
  have zw2 := hts (.fieldLink RX3 24 "LearnedLedgeModel" "start" "[I") (by decide +kernel)
  have zw3 := hts (.fieldLink RX3 111 "LearnedLedgeModel" "joins" "I") (by decide +kernel)
  have ziX3 : ∀ w ∈ u_ws RX3 TX3 18, w ∈ wsX3_joinsPieces := by decide +kernel
  refine lv_iconst (v := 0) hx hb dX3_joinsPieces_0 (by decide) ?_
  refine lv_istore_n (lv' := [(1, .int 0), (0, .ref (md 0))]) hx hb dX3_joinsPieces_1 rfl hl (by decide) rfl (fun ls hl => ?_)
  obtain ⟨z_2, hq_2, hm⟩ := ob hm
  have K_2 : ∀ (ystx2 : Nat → Int32), ∀ (ypcx2 : Int32), ∀ (yjnx2 : Int32), ∀ (yupx2 : Int64), ∀ (yunx2 : Int64), z_2 = (ystx2, ypcx2, yjnx2, yupx2, yunx2) → ∀ (H : Heap) (locs : List Loc), va_P (dC, dI) vwCl (wM cI cZ md yth ybd yro yrow ymk yrm ystx2 ypcx2 ybu ybn ymg ysp yjnx2 ymd ybg ymm yupx2 yunx2) H → va_D A (wM cI cZ md yth ybd yro yrow ymk yrm ystx2 ypcx2 ybu ybn ymg ysp yjnx2 ymd ybg ymm yupx2 yunx2) → va_S A s.heap H locs → ∀ (ls : Array Slot), lv_has ls 3 [] → W p l e (headSpec wsX3_joinsPieces ({ frames := 1, cells := 0, slots := 0, locals := 32 } : Room)).room s m ([.ref (md 0)] : List Value).toArray below meth c H locs 0 0 (MQ below (zQv (dC, dI) (wM cI cZ md yth ybd yro yrow ymk yrm u_yst u_ypc ybu ybn ymg ysp u_yjn ymd ybg ymm u_yup u_yun) [(cI, .int), (cZ, .boolean)] A) ([.ref (md 0)] : List Value).toArray s 0 0 A) (F0 m 99 ls []) := by
    intro ystx2 ypcx2 yjnx2 yupx2 yunx2 ez H locs hP hD hS ls hl
    rw [ez] at hm
    cases o2 hm
    exact W.vret hx hb hr (fun t ht hW => ⟨⟨(), rfl, trivial, by rw [ht]; exact hP, va_K.moved hW.alike hK, hD⟩, hS.F ht⟩) hS.2.2 dX3_joinsPieces_99
  have L_2 : ∀ (n : Nat) (x1 : Int32) (ystl2 : Nat → Int32) (ypcl2 : Int32) (yjnl2 : Int32) (yupl2 : Int64) (yunl2 : Int64), X3_joinsPieces_L2 ybd yrow yrm F n x1 ystl2 ypcl2 yjnl2 yupl2 yunl2 = some z_2 → ∀ (H : Heap) (locs : List Loc), va_P (dC, dI) vwCl (wM cI cZ md yth ybd yro yrow ymk yrm ystl2 ypcl2 ybu ybn ymg ysp yjnl2 ymd ybg ymm yupl2 yunl2) H → va_D A (wM cI cZ md yth ybd yro yrow ymk yrm ystl2 ypcl2 ybu ybn ymg ysp yjnl2 ymd ybg ymm yupl2 yunl2) → va_S A s.heap H locs → ∀ (ls : Array Slot), lv_has ls 3 [(1, .int x1), (0, .ref (md 0))] → W p l e (headSpec wsX3_joinsPieces ({ frames := 1, cells := 0, slots := 0, locals := 32 } : Room)).room s m ([.ref (md 0)] : List Value).toArray below meth c H locs 0 0 (MQ below (zQv (dC, dI) (wM cI cZ md yth ybd yro yrow ymk yrm u_yst u_ypc ybu ybn ymg ysp u_yjn ymd ybg ymm u_yup u_yun) [(cI, .int), (cZ, .boolean)] A) ([.ref (md 0)] : List Value).toArray s 0 0 A) (F0 m 2 ls []) := by
    intro n
    induction n with
    | zero => intro x1 ystl2 ypcl2 yjnl2 yupl2 yunl2 hm; cases hm
    | succ n ih_2 =>
      intro x1 ystl2 ypcl2 yjnl2 yupl2 yunl2 hm H locs hP hD hS ls hl
      refine lv_iload_n hx hb dX3_joinsPieces_2 rfl (lv_at hl 0 rfl) ?_
      refine lv_iconst (v := 1) hx hb dX3_joinsPieces_3 (by decide) ?_
      refine lv_iadd hx hb dX3_joinsPieces_4 ?_
      refine lv_aload_n hx hb dX3_joinsPieces_5 rfl (lv_at hl 1 rfl) ?_
      refine va_get (D := (dC, dI)) (ci := 3) (v := .int ypcl2) (C := RX3) (T := TX3) (N := 18) hx hb hts ziX3 hown hK hP 0 rfl rfl 7 (by decide) zw0 (fun _ h9 => h9) rfl dX3_joinsPieces_6 ?_
      refine lv_icmp_ge (tgt := 99) hx hb dX3_joinsPieces_9 (by decide) (fun c_9 => ?_) (fun c_9 => ?_)
      · have hm := it_t hm c_9
        exact K_2 ystl2 ypcl2 yjnl2 yupl2 yunl2 (o2 hm) _ _ hP hD hS _ (lv_sub hl [] rfl)
      · have hm := it_f hm c_9
        refine lv_aload_n hx hb dX3_joinsPieces_12 rfl (lv_at hl 1 rfl) ?_
        refine lv_aload_n hx hb dX3_joinsPieces_13 rfl (lv_at hl 1 rfl) ?_
        refine va_get (D := (dC, dI)) (ci := 3) (v := .ref (md 1)) (C := RX3) (T := TX3) (N := 18) hx hb hts ziX3 hown hK hP 0 rfl rfl 3 (by decide) zw1 (fun _ h9 => h9) rfl dX3_joinsPieces_14 ?_
        refine lv_aload_n hx hb dX3_joinsPieces_17 rfl (lv_at hl 1 rfl) ?_
        refine va_get (D := (dC, dI)) (ci := 3) (v := .ref (md 3)) (C := RX3) (T := TX3) (N := 18) hx hb hts ziX3 hown hK hP 0 rfl rfl 6 (by decide) zw2 (fun _ h9 => h9) rfl dX3_joinsPieces_18 ?_
        refine lv_iload_n hx hb dX3_joinsPieces_21 rfl (lv_at hl 0 rfl) ?_
        obtain ⟨c_22, hm⟩ := ck hm
        refine va_iald hx hb hK hP 3 0 rfl rfl c_22 dX3_joinsPieces_22 ?_
        refine lv_aload_n hx hb dX3_joinsPieces_23 rfl (lv_at hl 1 rfl) ?_
        refine lv_iload_n hx hb dX3_joinsPieces_24 rfl (lv_at hl 0 rfl) ?_
        refine lv_iconst (v := 1) hx hb dX3_joinsPieces_25 (by decide) ?_
        refine lv_iadd hx hb dX3_joinsPieces_26 ?_
        obtain ⟨r27, h_27, hm⟩ := ob hm
        refine z_callRi (As := [.int (x1 + 1)]) (rest := [.int (ystl2 (Int32.toNatClampNeg x1)), .ref (md 1), .ref (md 0)]) (ci := 3) (q := (RX3, TX3, 18)) ⟨hx, hb, hml, hown, hts⟩ (c_X3_behind l dC dI cI cZ md yth ybd yro yrow ymk yrm ystl2 ypcl2 ybu ybn ymg ysp yjnl2 ymd ybg ymm yupl2 yunl2 F (x1 + 1) r27 h_27) (cwV 1 hts gX3_joinsPieces_X3_behind rfl rfl rfl kv_X3_behind ⟨Nat.le_of_ble_eq_true rfl, Nat.le_of_ble_eq_true rfl⟩) hK hP rfl rfl rfl rfl hl.1 rfl (Nat.le_of_ble_eq_true rfl) dX3_joinsPieces_27 ⟨Nat.zero_le _, Nat.zero_le _⟩ ?_
        obtain ⟨⟨r30, yup30, yun30⟩, h_30, hm⟩ := ob hm
        refine z_callWi (wc := (wM cI cZ md yth ybd yro yrow ymk yrm ystl2 ypcl2 ybu ybn ymg ysp yjnl2 ymd ybg ymm yupl2 yunl2)) (w1 := (wM cI cZ md yth ybd yro yrow ymk yrm ystl2 ypcl2 ybu ybn ymg ysp yjnl2 ymd ybg ymm yup30 yun30)) (ws := (wM cI cZ md yth ybd yro yrow ymk yrm ystl2 ypcl2 ybu ybn ymg ysp yjnl2 ymd ybg ymm yupl2 yunl2)) (ws' := (wM cI cZ md yth ybd yro yrow ymk yrm ystl2 ypcl2 ybu ybn ymg ysp yjnl2 ymd ybg ymm yup30 yun30)) [0, 1, 2, 3, 4, 5, 6] [] 7 (As := [.ref (md 1), .int (ystl2 (Int32.toNatClampNeg x1)), .int r27]) (rest := []) (ci := 3) (q := (RX3, TX3, 18)) ⟨hx, hb, hml, hown, hts⟩ (c_X3_fits_row l dC dI cI cZ md yth ybd yro yrow ymk yrm ystl2 ypcl2 ybu ybn ymg ysp yjnl2 ymd ybg ymm yupl2 yunl2 F (ystl2 (Int32.toNatClampNeg x1)) r27 H.size r30 yup30 yun30 h_30) (cwV 3 hts gX3_joinsPieces_X3_fits rfl rfl rfl kv_X3_fits ⟨Nat.le_of_ble_eq_true rfl, Nat.le_of_ble_eq_true rfl⟩) hK hP hD hS hA hP hD rfl rfl (by decide) rfl rfl (by decide) rfl rfl rfl rfl rfl hl.1 rfl (Nat.le_of_ble_eq_true rfl) dX3_joinsPieces_30 ⟨Nat.zero_le _, Nat.zero_le _⟩ (fun H locs hP hD hS => ?_)
        refine lv_if_ne (tgt := 42) hx hb dX3_joinsPieces_33 (by decide) (fun c_33 => ?_) (fun c_33 => ?_)
        · have hm := it_f hm c_33
          refine lv_iload_n hx hb dX3_joinsPieces_42 rfl (lv_at hl 0 rfl) ?_
          refine lv_iconst (v := 1) hx hb dX3_joinsPieces_43 (by decide) ?_
          refine lv_iadd hx hb dX3_joinsPieces_44 ?_
          refine lv_topi (fun x2 e_x2 => ?_)
          have hm := bnd_e hm e_x2
          refine lv_istore_n (lv' := [(2, .int x2), (1, .int x1), (0, .ref (md 0))]) hx hb dX3_joinsPieces_45 rfl hl (by decide) rfl (fun ls hl => ?_)
          obtain ⟨z_46, hq_46, hm⟩ := ob hm
          have K_46 : ∀ (ystx46 : Nat → Int32), z_46 = ystx46 → ∀ (H : Heap) (locs : List Loc), va_P (dC, dI) vwCl (wM cI cZ md yth ybd yro yrow ymk yrm ystx46 ypcl2 ybu ybn ymg ysp yjnl2 ymd ybg ymm yup30 yun30) H → va_D A (wM cI cZ md yth ybd yro yrow ymk yrm ystx46 ypcl2 ybu ybn ymg ysp yjnl2 ymd ybg ymm yup30 yun30) → va_S A s.heap H locs → ∀ (ls : Array Slot), lv_has ls 3 [(1, .int x1), (0, .ref (md 0))] → W p l e (headSpec wsX3_joinsPieces ({ frames := 1, cells := 0, slots := 0, locals := 32 } : Room)).room s m ([.ref (md 0)] : List Value).toArray below meth c H locs 0 0 (MQ below (zQv (dC, dI) (wM cI cZ md yth ybd yro yrow ymk yrm u_yst u_ypc ybu ybn ymg ysp u_yjn ymd ybg ymm u_yup u_yun) [(cI, .int), (cZ, .boolean)] A) ([.ref (md 0)] : List Value).toArray s 0 0 A) (F0 m 76 ls []) := by
            intro ystx46 ez H locs hP hD hS ls hl
            rw [ez] at hm
            refine lv_aload_n hx hb dX3_joinsPieces_76 rfl (lv_at hl 1 rfl) ?_
            refine lv_dup hx hb dX3_joinsPieces_77 rfl ?_
            refine va_get (D := (dC, dI)) (ci := 3) (v := .int ypcl2) (C := RX3) (T := TX3) (N := 18) hx hb hts ziX3 hown hK hP 0 rfl rfl 7 (by decide) zw0 (fun _ h9 => h9) rfl dX3_joinsPieces_78 ?_
            refine lv_iconst (v := 1) hx hb dX3_joinsPieces_81 (by decide) ?_
            refine lv_isub hx hb dX3_joinsPieces_82 ?_
            refine va_put (D := (dC, dI)) (ci := 3) (v := .int (ypcl2 - 1)) (ty := .int) (C := RX3) (T := TX3) (N := 18) hx hb hts ziX3 tyX3 tyX3_ok nmX3 hown hK hP hD hS 0 rfl rfl 7 (by decide) zw0 (fun _ h9 => h9) rfl (by decide +kernel) rfl rfl (Nat.le_of_ble_eq_true rfl) dX3_joinsPieces_83 (fun H locs hP hD hS => ?_)
            have hP : va_P (dC, dI) vwCl (wM cI cZ md yth ybd yro yrow ymk yrm ystx46 (ypcl2 - 1) ybu ybn ymg ysp yjnl2 ymd ybg ymm yup30 yun30) H := hP
            have hD : va_D A (wM cI cZ md yth ybd yro yrow ymk yrm ystx46 (ypcl2 - 1) ybu ybn ymg ysp yjnl2 ymd ybg ymm yup30 yun30) := hD
            refine lv_aload_n hx hb dX3_joinsPieces_86 rfl (lv_at hl 1 rfl) ?_
            refine lv_dup hx hb dX3_joinsPieces_87 rfl ?_
            refine va_get (D := (dC, dI)) (ci := 3) (v := .int yjnl2) (C := RX3) (T := TX3) (N := 18) hx hb hts ziX3 hown hK hP 0 rfl rfl 12 (by decide) zw3 (fun _ h9 => h9) rfl dX3_joinsPieces_88 ?_
            refine lv_iconst (v := 1) hx hb dX3_joinsPieces_91 (by decide) ?_
            refine lv_iadd hx hb dX3_joinsPieces_92 ?_
            refine va_put (D := (dC, dI)) (ci := 3) (v := .int (yjnl2 + 1)) (ty := .int) (C := RX3) (T := TX3) (N := 18) hx hb hts ziX3 tyX3 tyX3_ok nmX3 hown hK hP hD hS 0 rfl rfl 12 (by decide) zw3 (fun _ h9 => h9) rfl (by decide +kernel) rfl rfl (Nat.le_of_ble_eq_true rfl) dX3_joinsPieces_93 (fun H locs hP hD hS => ?_)
            have hP : va_P (dC, dI) vwCl (wM cI cZ md yth ybd yro yrow ymk yrm ystx46 (ypcl2 - 1) ybu ybn ymg ysp (yjnl2 + 1) ymd ybg ymm yup30 yun30) H := hP
            have hD : va_D A (wM cI cZ md yth ybd yro yrow ymk yrm ystx46 (ypcl2 - 1) ybu ybn ymg ysp (yjnl2 + 1) ymd ybg ymm yup30 yun30) := hD
            refine lv_goto (tgt := 2) hx hb dX3_joinsPieces_96 (by decide) ?_
            exact ih_2 x1 ystx46 (ypcl2 - 1) (yjnl2 + 1) yup30 yun30 hm _ _ hP hD hS _ (lv_sub hl [0, 1] rfl)
          have L_46 : ∀ (n : Nat) (x2_1 : Int32) (ystl46 : Nat → Int32), X3_joinsPieces_L46 ypcl2 n x2_1 ystl46 = some z_46 → ∀ (H : Heap) (locs : List Loc), va_P (dC, dI) vwCl (wM cI cZ md yth ybd yro yrow ymk yrm ystl46 ypcl2 ybu ybn ymg ysp yjnl2 ymd ybg ymm yup30 yun30) H → va_D A (wM cI cZ md yth ybd yro yrow ymk yrm ystl46 ypcl2 ybu ybn ymg ysp yjnl2 ymd ybg ymm yup30 yun30) → va_S A s.heap H locs → ∀ (ls : Array Slot), lv_has ls 3 [(2, .int x2_1), (1, .int x1), (0, .ref (md 0))] → W p l e (headSpec wsX3_joinsPieces ({ frames := 1, cells := 0, slots := 0, locals := 32 } : Room)).room s m ([.ref (md 0)] : List Value).toArray below meth c H locs 0 0 (MQ below (zQv (dC, dI) (wM cI cZ md yth ybd yro yrow ymk yrm u_yst u_ypc ybu ybn ymg ysp u_yjn ymd ybg ymm u_yup u_yun) [(cI, .int), (cZ, .boolean)] A) ([.ref (md 0)] : List Value).toArray s 0 0 A) (F0 m 46 ls []) := by
            intro n
            induction n with
            | zero => intro x2_1 ystl46 hm; cases hm
            | succ n ih_46 =>
              intro x2_1 ystl46 hm H locs hP hD hS ls hl
              refine lv_iload_n hx hb dX3_joinsPieces_46 rfl (lv_at hl 0 rfl) ?_
              refine lv_iconst (v := 1) hx hb dX3_joinsPieces_47 (by decide) ?_
              refine lv_iadd hx hb dX3_joinsPieces_48 ?_
              refine lv_aload_n hx hb dX3_joinsPieces_49 rfl (lv_at hl 2 rfl) ?_
              refine va_get (D := (dC, dI)) (ci := 3) (v := .int ypcl2) (C := RX3) (T := TX3) (N := 18) hx hb hts ziX3 hown hK hP 0 rfl rfl 7 (by decide) zw0 (fun _ h9 => h9) rfl dX3_joinsPieces_50 ?_
              refine lv_icmp_ge (tgt := 76) hx hb dX3_joinsPieces_53 (by decide) (fun c_53 => ?_) (fun c_53 => ?_)
              · have hm := it_t hm c_53
                exact K_46 ystl46 (o2 hm) _ _ hP hD hS _ (lv_sub hl [1, 2] rfl)
              · have hm := it_f hm c_53
                refine lv_aload_n hx hb dX3_joinsPieces_56 rfl (lv_at hl 2 rfl) ?_
                refine va_get (D := (dC, dI)) (ci := 3) (v := .ref (md 3)) (C := RX3) (T := TX3) (N := 18) hx hb hts ziX3 hown hK hP 0 rfl rfl 6 (by decide) zw2 (fun _ h9 => h9) rfl dX3_joinsPieces_57 ?_
                refine lv_iload_n hx hb dX3_joinsPieces_60 rfl (lv_at hl 0 rfl) ?_
                refine lv_aload_n hx hb dX3_joinsPieces_61 rfl (lv_at hl 2 rfl) ?_
                refine va_get (D := (dC, dI)) (ci := 3) (v := .ref (md 3)) (C := RX3) (T := TX3) (N := 18) hx hb hts ziX3 hown hK hP 0 rfl rfl 6 (by decide) zw2 (fun _ h9 => h9) rfl dX3_joinsPieces_62 ?_
                refine lv_iload_n hx hb dX3_joinsPieces_65 rfl (lv_at hl 0 rfl) ?_
                refine lv_iconst (v := 1) hx hb dX3_joinsPieces_66 (by decide) ?_
                refine lv_iadd hx hb dX3_joinsPieces_67 ?_
                obtain ⟨c_68, hm⟩ := ck hm
                refine va_iald hx hb hK hP 3 0 rfl rfl c_68 dX3_joinsPieces_68 ?_
                obtain ⟨c_69, hm⟩ := ck hm
                refine va_iast hx hb hK hP hD hS 3 0 rfl rfl c_69 dX3_joinsPieces_69 (fun H locs hP hD hS => ?_)
                have hP : va_P (dC, dI) vwCl (wM cI cZ md yth ybd yro yrow ymk yrm (upd ystl46 (Int32.toNatClampNeg x2_1) (ystl46 (Int32.toNatClampNeg (x2_1 + 1)))) ypcl2 ybu ybn ymg ysp yjnl2 ymd ybg ymm yup30 yun30) H := hP
                have hD : va_D A (wM cI cZ md yth ybd yro yrow ymk yrm (upd ystl46 (Int32.toNatClampNeg x2_1) (ystl46 (Int32.toNatClampNeg (x2_1 + 1)))) ypcl2 ybu ybn ymg ysp yjnl2 ymd ybg ymm yup30 yun30) := hD
                obtain ⟨x2_2, e_x2_2⟩ : ∃ y : Int32, y = x2_1 + 1 := ⟨_, rfl⟩
                have hm := bnd_e hm e_x2_2
                refine lv_iinc (v := x2_2) (lv' := [(2, .int x2_2), (1, .int x1), (0, .ref (md 0))]) hx hb dX3_joinsPieces_70 hl (k := 0) rfl (by rw [e_x2_2]; rfl) (by decide) rfl (fun ls hl => ?_)
                refine lv_goto (tgt := 46) hx hb dX3_joinsPieces_73 (by decide) ?_
                exact ih_46 x2_2 (upd ystl46 (Int32.toNatClampNeg x2_1) (ystl46 (Int32.toNatClampNeg (x2_1 + 1)))) hm _ _ hP hD hS _ (lv_sub hl [0, 1, 2] rfl)
          exact L_46 F x2 ystl2 hq_46 _ _ hP hD hS _ (lv_sub hl [0, 1, 2] rfl)
        · have hm := it_t hm c_33
          obtain ⟨x1_1, e_x1_1⟩ : ∃ y : Int32, y = x1 + 1 := ⟨_, rfl⟩
          have hm := bnd_e hm e_x1_1
          refine lv_iinc (v := x1_1) (lv' := [(1, .int x1_1), (0, .ref (md 0))]) hx hb dX3_joinsPieces_36 hl (k := 0) rfl (by rw [e_x1_1]; rfl) (by decide) rfl (fun ls hl => ?_)
          refine lv_goto (tgt := 2) hx hb dX3_joinsPieces_39 (by decide) ?_
          exact ih_2 x1_1 ystl2 ypcl2 yjnl2 yup30 yun30 hm _ _ hP hD hS _ (lv_sub hl [0, 1] rfl)
  exact L_2 F 0 yst ypc yjn yup yun hq_2 _ _ hP hD hS _ (lv_sub hl [0, 1] rfl)
set_option maxHeartbeats 4000000 in
set_option maxRecDepth 100000 in
theorem c_X3_mergesAll (l : Launch) (dC : Nat → ClassId) (dI : Nat → Nat → Nat) (cI : ClassId) (cZ : ClassId) (md : Nat → Nat) (yth : Int32) (ybd : Int32) (yro : Int32) (yrow : Nat → Int32) (ymk : Nat → Int32) (yrm : Int32) (yst : Nat → Int32) (ypc : Int32) (ybu : Nat → Int32) (ybn : Int32) (ymg : Int32) (ysp : Int32) (yjn : Int32) (ymd : Nat → Int32) (ybg : Nat → Int32) (ymm : Int32) (yup : Int64) (yun : Int64) (F : Nat) (sz : Nat) (u_yrow : Nat → Int32) (u_ymk : Nat → Int32) (u_yrm : Int32) (u_yst : Nat → Int32) (u_ypc : Int32) (u_ybn : Int32) (u_ymg : Int32) (u_ysp : Int32) (u_yjn : Int32) (u_ymd : Nat → Int32) (u_ybg : Nat → Int32) (u_ymm : Int32) (u_yup : Int64) (u_yun : Int64) (hm : X3_mergesAll F ybd yrow ymk yrm yst ypc ybu ybn ymg ysp yjn ymd ybg ymm yup yun = some (u_yrow, u_ymk, u_yrm, u_yst, u_ypc, u_ybn, u_ymg, u_ysp, u_yjn, u_ymd, u_ybg, u_ymm, u_yup, u_yun)) : Met l yX3_mergesAll wsX3_mergesAll ({ frames := 2, cells := 0, slots := 0, locals := 56 }) (va_Pc [.ref (md 0)] (zW (dC, dI) (wM cI cZ md yth ybd yro yrow ymk yrm yst ypc ybu ybn ymg ysp yjn ymd ybg ymm yup yun) [(cI, .int), (cZ, .boolean)] sz)) (zQv (dC, dI) (wM cI cZ md yth ybd yro u_yrow u_ymk u_yrm u_yst u_ypc ybu u_ybn u_ymg u_ysp u_yjn u_ymd u_ybg u_ymm u_yup u_yun) [(cI, .int), (cZ, .boolean)] (va_A (wM cI cZ md yth ybd yro yrow ymk yrm yst ypc ybu ybn ymg ysp yjn ymd ybg ymm yup yun) sz)) 0 0 (va_A (wM cI cZ md yth ybd yro yrow ymk yrm yst ypc ybu ybn ymg ysp yjn ymd ybg ymm yup yun) sz) := by
  refine Met.ofW (cc := cX3_mergesAll) (maxL := 6) (ret := none) (by decide) rfl ?_
  intro p e s m args below meth c s₁ B hml hv
  obtain ⟨rfl, hsz, hP, hK, hD0⟩ := hv
  have hx := B.exec
  have hb := B.bytes
  have hr := B.returns
  have hts := atoms_spec (ws := wsX3_mergesAll) B.pre
  have hown : s.vm.findClass RX3 = some m.cls := findClass_of_methodNamed B.named
  have hlocks := B.notSynchronized
  subst hsz
  have hD := hD0.self (sz := s.heap.size)
  generalize hAe : va_A (wM cI cZ md yth ybd yro yrow ymk yrm yst ypc ybu ybn ymg ysp yjn ymd ybg ymm yup yun) s.heap.size = A at hD ⊢
  have hA : ∀ q : Nat, s.heap.size ≤ q → A q := fun q h => by rw [← hAe]; exact Or.inr h
  have hS : va_S A s.heap s.heap [] := va_S.rf
  generalize eL : ([] : List Loc) = locs at hS ⊢
  obtain ⟨H, eH⟩ : ∃ z : Heap, z = s.heap := ⟨_, rfl⟩
  have hP : va_P (dC, dI) vwCl (wM cI cZ md yth ybd yro yrow ymk yrm yst ypc ybu ybn ymg ysp yjn ymd ybg ymm yup yun) H := by rw [eH]; exact hP
  have hS : va_S A s.heap H locs := by rw [eH]; exact hS
  refine z_heap eH ?_
  have hl := lv_entry ([.ref (md 0)]) (n := 6) (Nat.le_of_ble_eq_true rfl)
  rw [lg_entry_eq]
  generalize (lg_sl ([.ref (md 0)]) ++ List.replicate (6 - (lg_sl ([.ref (md 0)])).length) Slot.unset).toArray = ls at hl ⊢
  have hl : lv_has ls 6 [(0, .ref (md 0))] := hl
  have zw0 := hts (.fieldLink RX3 102 "LearnedLedgeModel" "madeMany" "I") (by decide +kernel)
  have zw1 := hts (.fieldLink RX3 48 "LearnedLedgeModel" "pieces" "I") (by decide +kernel)
  have zw2 := hts (.fieldLink RX3 33 "LearnedLedgeModel" "begun" "[I") (by decide +kernel)
  have zw3 := hts (.fieldLink RX3 121 "LearnedLedgeModel" "splits" "I") (by decide +kernel)
  have zw4 := hts (.fieldLink RX3 69 "LearnedLedgeModel" "buffered" "I") (by decide +kernel)
  have zw5 := hts (.fieldLink RX3 27 "LearnedLedgeModel" "buffer" "[I") (by decide +kernel)
  have zw6 := hts (.fieldLink RX3 130 "LearnedLedgeModel" "merges" "I") (by decide +kernel)
  have ziX3 : ∀ w ∈ u_ws RX3 TX3 18, w ∈ wsX3_mergesAll := by decide +kernel
  refine lv_aload_n hx hb dX3_mergesAll_0 rfl (lv_at hl 0 rfl) ?_
  refine lv_iconst (v := 0) hx hb dX3_mergesAll_1 (by decide) ?_
  refine va_put (D := (dC, dI)) (ci := 3) (v := .int 0) (ty := .int) (C := RX3) (T := TX3) (N := 18) hx hb hts ziX3 tyX3 tyX3_ok nmX3 hown hK hP hD hS 0 rfl rfl 15 (by decide) zw0 (fun _ h9 => h9) rfl (by decide +kernel) rfl rfl (Nat.le_of_ble_eq_true rfl) dX3_mergesAll_2 (fun H locs hP hD hS => ?_)
  have hP : va_P (dC, dI) vwCl (wM cI cZ md yth ybd yro yrow ymk yrm yst ypc ybu ybn ymg ysp yjn ymd ybg 0 yup yun) H := hP
  have hD : va_D A (wM cI cZ md yth ybd yro yrow ymk yrm yst ypc ybu ybn ymg ysp yjn ymd ybg 0 yup yun) := hD
  refine lv_iconst (v := 0) hx hb dX3_mergesAll_5 (by decide) ?_
  refine lv_istore_n (lv' := [(1, .int 0), (0, .ref (md 0))]) hx hb dX3_mergesAll_6 rfl hl (by decide) rfl (fun ls hl => ?_)
  refine lv_iconst (v := 0) hx hb dX3_mergesAll_7 (by decide) ?_
  refine lv_istore_n (lv' := [(2, .int 0), (1, .int 0), (0, .ref (md 0))]) hx hb dX3_mergesAll_8 rfl hl (by decide) rfl (fun ls hl => ?_)
  obtain ⟨z_9, hq_9, hm⟩ := ob hm
  have K_9 : ∀ (x1_1 : Int32), ∀ (yspx9 : Int32), ∀ (ymdx9 : Nat → Int32), ∀ (ybgx9 : Nat → Int32), ∀ (ymmx9 : Int32), ∀ (yupx9 : Int64), ∀ (yunx9 : Int64), z_9 = (x1_1, yspx9, ymdx9, ybgx9, ymmx9, yupx9, yunx9) → ∀ (H : Heap) (locs : List Loc), va_P (dC, dI) vwCl (wM cI cZ md yth ybd yro yrow ymk yrm yst ypc ybu ybn ymg yspx9 yjn ymdx9 ybgx9 ymmx9 yupx9 yunx9) H → va_D A (wM cI cZ md yth ybd yro yrow ymk yrm yst ypc ybu ybn ymg yspx9 yjn ymdx9 ybgx9 ymmx9 yupx9 yunx9) → va_S A s.heap H locs → ∀ (ls : Array Slot), lv_has ls 6 [(1, .int x1_1), (0, .ref (md 0))] → W p l e (headSpec wsX3_mergesAll ({ frames := 2, cells := 0, slots := 0, locals := 56 } : Room)).room s m ([.ref (md 0)] : List Value).toArray below meth c H locs 0 0 (MQ below (zQv (dC, dI) (wM cI cZ md yth ybd yro u_yrow u_ymk u_yrm u_yst u_ypc ybu u_ybn u_ymg u_ysp u_yjn u_ymd u_ybg u_ymm u_yup u_yun) [(cI, .int), (cZ, .boolean)] A) ([.ref (md 0)] : List Value).toArray s 0 0 A) (F0 m 94 ls []) := by
    intro x1_1 yspx9 ymdx9 ybgx9 ymmx9 yupx9 yunx9 ez H locs hP hD hS ls hl
    rw [ez] at hm
    refine lv_aload_n hx hb dX3_mergesAll_94 rfl (lv_at hl 1 rfl) ?_
    refine va_get (D := (dC, dI)) (ci := 3) (v := .int ypc) (C := RX3) (T := TX3) (N := 18) hx hb hts ziX3 hown hK hP 0 rfl rfl 7 (by decide) zw1 (fun _ h9 => h9) rfl dX3_mergesAll_95 ?_
    obtain ⟨z_153, hq_153, hm⟩ := ob hm
    have J_153 : ∀ (x1_2 : Int32), ∀ (yspj153 : Int32), ∀ (ymdj153 : Nat → Int32), ∀ (ybgj153 : Nat → Int32), ∀ (ymmj153 : Int32), ∀ (yupj153 : Int64), ∀ (yunj153 : Int64), z_153 = (x1_2, yspj153, ymdj153, ybgj153, ymmj153, yupj153, yunj153) → ∀ (H : Heap) (locs : List Loc), va_P (dC, dI) vwCl (wM cI cZ md yth ybd yro yrow ymk yrm yst ypc ybu ybn ymg yspj153 yjn ymdj153 ybgj153 ymmj153 yupj153 yunj153) H → va_D A (wM cI cZ md yth ybd yro yrow ymk yrm yst ypc ybu ybn ymg yspj153 yjn ymdj153 ybgj153 ymmj153 yupj153 yunj153) → va_S A s.heap H locs → ∀ (ls : Array Slot), lv_has ls 6 [(1, .int x1_2), (0, .ref (md 0))] → W p l e (headSpec wsX3_mergesAll ({ frames := 2, cells := 0, slots := 0, locals := 56 } : Room)).room s m ([.ref (md 0)] : List Value).toArray below meth c H locs 0 0 (MQ below (zQv (dC, dI) (wM cI cZ md yth ybd yro u_yrow u_ymk u_yrm u_yst u_ypc ybu u_ybn u_ymg u_ysp u_yjn u_ymd u_ybg u_ymm u_yup u_yun) [(cI, .int), (cZ, .boolean)] A) ([.ref (md 0)] : List Value).toArray s 0 0 A) (F0 m 153 ls []) := by
      intro x1_2 yspj153 ymdj153 ybgj153 ymmj153 yupj153 yunj153 ez H locs hP hD hS ls hl
      rw [ez] at hm
      refine lv_aload_n hx hb dX3_mergesAll_153 rfl (lv_at hl 1 rfl) ?_
      refine lv_iload_n hx hb dX3_mergesAll_154 rfl (lv_at hl 0 rfl) ?_
      obtain ⟨⟨yrow155, ymk155, yrm155, yst155, ypc155, ybn155⟩, h_155, hm⟩ := ob hm
      refine z_callWv (wc := (wM cI cZ md yth ybd yro yrow ymk yrm yst ypc ybu ybn ymg yspj153 yjn ymdj153 ybgj153 ymmj153 yupj153 yunj153)) (w1 := (wM cI cZ md yth ybd yro yrow155 ymk155 yrm155 yst155 ypc155 ybu ybn155 ymg yspj153 yjn ymdj153 ybgj153 ymmj153 yupj153 yunj153)) (ws := (wM cI cZ md yth ybd yro yrow ymk yrm yst ypc ybu ybn ymg yspj153 yjn ymdj153 ybgj153 ymmj153 yupj153 yunj153)) (ws' := (wM cI cZ md yth ybd yro yrow155 ymk155 yrm155 yst155 ypc155 ybu ybn155 ymg yspj153 yjn ymdj153 ybgj153 ymmj153 yupj153 yunj153)) [0, 1, 2, 3, 4, 5, 6] [] 7 (As := [.int x1_2]) (rest := []) (ci := 3) (q := (RX3, TX3, 18)) ⟨hx, hb, hml, hown, hts⟩ (c_X3_becomes l dC dI cI cZ md yth ybd yro yrow ymk yrm yst ypc ybu ybn ymg yspj153 yjn ymdj153 ybgj153 ymmj153 yupj153 yunj153 F x1_2 H.size yrow155 ymk155 yrm155 yst155 ypc155 ybn155 h_155) (cwV 1 hts gX3_mergesAll_X3_becomes rfl rfl rfl kv_X3_becomes ⟨Nat.le_of_ble_eq_true rfl, Nat.le_of_ble_eq_true rfl⟩) hK hP hD hS hA hP hD rfl rfl (by decide) rfl rfl (by decide) rfl rfl rfl rfl rfl hl.1 rfl (Nat.le_of_ble_eq_true rfl) dX3_mergesAll_155 ⟨Nat.zero_le _, Nat.zero_le _⟩ (fun H locs hP hD hS => ?_)
      refine lv_aload_n hx hb dX3_mergesAll_158 rfl (lv_at hl 1 rfl) ?_
      obtain ⟨⟨yst159, ypc159, yjn159, yup159, yun159⟩, h_159, hm⟩ := ob hm
      refine z_callWv (wc := (wM cI cZ md yth ybd yro yrow155 ymk155 yrm155 yst155 ypc155 ybu ybn155 ymg yspj153 yjn ymdj153 ybgj153 ymmj153 yupj153 yunj153)) (w1 := (wM cI cZ md yth ybd yro yrow155 ymk155 yrm155 yst159 ypc159 ybu ybn155 ymg yspj153 yjn159 ymdj153 ybgj153 ymmj153 yup159 yun159)) (ws := (wM cI cZ md yth ybd yro yrow155 ymk155 yrm155 yst155 ypc155 ybu ybn155 ymg yspj153 yjn ymdj153 ybgj153 ymmj153 yupj153 yunj153)) (ws' := (wM cI cZ md yth ybd yro yrow155 ymk155 yrm155 yst159 ypc159 ybu ybn155 ymg yspj153 yjn159 ymdj153 ybgj153 ymmj153 yup159 yun159)) [0, 1, 2, 3, 4, 5, 6] [] 7 (As := []) (rest := []) (ci := 3) (q := (RX3, TX3, 18)) ⟨hx, hb, hml, hown, hts⟩ (c_X3_joinsPieces l dC dI cI cZ md yth ybd yro yrow155 ymk155 yrm155 yst155 ypc155 ybu ybn155 ymg yspj153 yjn ymdj153 ybgj153 ymmj153 yupj153 yunj153 F H.size yst159 ypc159 yjn159 yup159 yun159 h_159) (cwV 0 hts gX3_mergesAll_X3_joinsPieces rfl rfl rfl kv_X3_joinsPieces ⟨Nat.le_of_ble_eq_true rfl, Nat.le_of_ble_eq_true rfl⟩) hK hP hD hS hA hP hD rfl rfl (by decide) rfl rfl (by decide) rfl rfl rfl rfl rfl hl.1 rfl (Nat.le_of_ble_eq_true rfl) dX3_mergesAll_159 ⟨Nat.zero_le _, Nat.zero_le _⟩ (fun H locs hP hD hS => ?_)
      refine lv_aload_n hx hb dX3_mergesAll_162 rfl (lv_at hl 1 rfl) ?_
      refine lv_dup hx hb dX3_mergesAll_163 rfl ?_
      refine va_get (D := (dC, dI)) (ci := 3) (v := .int ymg) (C := RX3) (T := TX3) (N := 18) hx hb hts ziX3 hown hK hP 0 rfl rfl 10 (by decide) zw6 (fun _ h9 => h9) rfl dX3_mergesAll_164 ?_
      refine lv_iconst (v := 1) hx hb dX3_mergesAll_167 (by decide) ?_
      refine lv_iadd hx hb dX3_mergesAll_168 ?_
      refine va_put (D := (dC, dI)) (ci := 3) (v := .int (ymg + 1)) (ty := .int) (C := RX3) (T := TX3) (N := 18) hx hb hts ziX3 tyX3 tyX3_ok nmX3 hown hK hP hD hS 0 rfl rfl 10 (by decide) zw6 (fun _ h9 => h9) rfl (by decide +kernel) rfl rfl (Nat.le_of_ble_eq_true rfl) dX3_mergesAll_169 (fun H locs hP hD hS => ?_)
      have hP : va_P (dC, dI) vwCl (wM cI cZ md yth ybd yro yrow155 ymk155 yrm155 yst159 ypc159 ybu ybn155 (ymg + 1) yspj153 yjn159 ymdj153 ybgj153 ymmj153 yup159 yun159) H := hP
      have hD : va_D A (wM cI cZ md yth ybd yro yrow155 ymk155 yrm155 yst159 ypc159 ybu ybn155 (ymg + 1) yspj153 yjn159 ymdj153 ybgj153 ymmj153 yup159 yun159) := hD
      cases o2 hm
      exact W.vret hx hb hr (fun t ht hW => ⟨⟨(), rfl, trivial, by rw [ht]; exact hP, va_K.moved hW.alike hK, hD⟩, hS.F ht⟩) hS.2.2 dX3_mergesAll_172
    have hm := hq_153
    refine lv_if_ne (tgt := 153) hx hb dX3_mergesAll_98 (by decide) (fun c_98 => ?_) (fun c_98 => ?_)
    · have hm := it_f hm c_98
      exact J_153 x1_1 yspx9 ymdx9 ybgx9 ymmx9 yupx9 yunx9 (o2 hm) _ _ hP hD hS _ (lv_sub hl [0, 1] rfl)
    · have hm := it_t hm c_98
      refine lv_aload_n hx hb dX3_mergesAll_101 rfl (lv_at hl 1 rfl) ?_
      refine va_get (D := (dC, dI)) (ci := 3) (v := .int ybn) (C := RX3) (T := TX3) (N := 18) hx hb hts ziX3 hown hK hP 0 rfl rfl 9 (by decide) zw4 (fun _ h9 => h9) rfl dX3_mergesAll_102 ?_
      refine lv_if_le (tgt := 153) hx hb dX3_mergesAll_105 (by decide) (fun c_105 => ?_) (fun c_105 => ?_)
      · have hm := it_t hm c_105
        exact J_153 x1_1 yspx9 ymdx9 ybgx9 ymmx9 yupx9 yunx9 (o2 hm) _ _ hP hD hS _ (lv_sub hl [0, 1] rfl)
      · have hm := it_f hm c_105
        refine lv_iconst (v := 0) hx hb dX3_mergesAll_108 (by decide) ?_
        refine lv_istore_n (lv' := [(2, .int 0), (1, .int x1_1), (0, .ref (md 0))]) hx hb dX3_mergesAll_109 rfl hl (by decide) rfl (fun ls hl => ?_)
        obtain ⟨z_110, hq_110, hm⟩ := ob hm
        have K_110 : ∀ (ymdx110 : Nat → Int32), ∀ (ymmx110 : Int32), z_110 = (ymdx110, ymmx110) → ∀ (H : Heap) (locs : List Loc), va_P (dC, dI) vwCl (wM cI cZ md yth ybd yro yrow ymk yrm yst ypc ybu ybn ymg yspx9 yjn ymdx110 ybgx9 ymmx110 yupx9 yunx9) H → va_D A (wM cI cZ md yth ybd yro yrow ymk yrm yst ypc ybu ybn ymg yspx9 yjn ymdx110 ybgx9 ymmx110 yupx9 yunx9) → va_S A s.heap H locs → ∀ (ls : Array Slot), lv_has ls 6 [(0, .ref (md 0))] → W p l e (headSpec wsX3_mergesAll ({ frames := 2, cells := 0, slots := 0, locals := 56 } : Room)).room s m ([.ref (md 0)] : List Value).toArray below meth c H locs 0 0 (MQ below (zQv (dC, dI) (wM cI cZ md yth ybd yro u_yrow u_ymk u_yrm u_yst u_ypc ybu u_ybn u_ymg u_ysp u_yjn u_ymd u_ybg u_ymm u_yup u_yun) [(cI, .int), (cZ, .boolean)] A) ([.ref (md 0)] : List Value).toArray s 0 0 A) (F0 m 134 ls []) := by
          intro ymdx110 ymmx110 ez H locs hP hD hS ls hl
          rw [ez] at hm
          refine lv_aload_n hx hb dX3_mergesAll_134 rfl (lv_at hl 0 rfl) ?_
          refine lv_iconst (v := 0) hx hb dX3_mergesAll_135 (by decide) ?_
          refine lv_iconst (v := 0) hx hb dX3_mergesAll_136 (by decide) ?_
          obtain ⟨⟨r137, ybg137, yup137, yun137⟩, h_137, hm⟩ := ob hm
          refine z_callWi (wc := (wM cI cZ md yth ybd yro yrow ymk yrm yst ypc ybu ybn ymg yspx9 yjn ymdx110 ybgx9 ymmx110 yupx9 yunx9)) (w1 := (wM cI cZ md yth ybd yro yrow ymk yrm yst ypc ybu ybn ymg yspx9 yjn ymdx110 ybg137 ymmx110 yup137 yun137)) (ws := (wM cI cZ md yth ybd yro yrow ymk yrm yst ypc ybu ybn ymg yspx9 yjn ymdx110 ybgx9 ymmx110 yupx9 yunx9)) (ws' := (wM cI cZ md yth ybd yro yrow ymk yrm yst ypc ybu ybn ymg yspx9 yjn ymdx110 ybg137 ymmx110 yup137 yun137)) [0, 1, 2, 3, 4, 5, 6] [] 7 (As := [.int 0, .int 0]) (rest := []) (ci := 3) (q := (RX3, TX3, 18)) ⟨hx, hb, hml, hown, hts⟩ (c_X3_cuts l dC dI cI cZ md yth ybd yro yrow ymk yrm yst ypc ybu ybn ymg yspx9 yjn ymdx110 ybgx9 ymmx110 yupx9 yunx9 F 0 0 H.size r137 ybg137 yup137 yun137 h_137) (cwV 2 hts gX3_mergesAll_X3_cuts rfl rfl rfl kv_X3_cuts ⟨Nat.le_of_ble_eq_true rfl, Nat.le_of_ble_eq_true rfl⟩) hK hP hD hS hA hP hD rfl rfl (by decide) rfl rfl (by decide) rfl rfl rfl rfl rfl hl.1 rfl (Nat.le_of_ble_eq_true rfl) dX3_mergesAll_137 ⟨Nat.zero_le _, Nat.zero_le _⟩ (fun H locs hP hD hS => ?_)
          refine lv_istore_n (lv' := [(1, .int r137), (0, .ref (md 0))]) hx hb dX3_mergesAll_140 rfl hl (by decide) rfl (fun ls hl => ?_)
          refine lv_aload_n hx hb dX3_mergesAll_141 rfl (lv_at hl 1 rfl) ?_
          refine lv_dup hx hb dX3_mergesAll_142 rfl ?_
          refine va_get (D := (dC, dI)) (ci := 3) (v := .int yspx9) (C := RX3) (T := TX3) (N := 18) hx hb hts ziX3 hown hK hP 0 rfl rfl 11 (by decide) zw3 (fun _ h9 => h9) rfl dX3_mergesAll_143 ?_
          refine lv_iload_n hx hb dX3_mergesAll_146 rfl (lv_at hl 0 rfl) ?_
          refine lv_iconst (v := 1) hx hb dX3_mergesAll_147 (by decide) ?_
          refine lv_isub hx hb dX3_mergesAll_148 ?_
          refine lv_iadd hx hb dX3_mergesAll_149 ?_
          refine va_put (D := (dC, dI)) (ci := 3) (v := .int (yspx9 + (r137 - 1))) (ty := .int) (C := RX3) (T := TX3) (N := 18) hx hb hts ziX3 tyX3 tyX3_ok nmX3 hown hK hP hD hS 0 rfl rfl 11 (by decide) zw3 (fun _ h9 => h9) rfl (by decide +kernel) rfl rfl (Nat.le_of_ble_eq_true rfl) dX3_mergesAll_150 (fun H locs hP hD hS => ?_)
          have hP : va_P (dC, dI) vwCl (wM cI cZ md yth ybd yro yrow ymk yrm yst ypc ybu ybn ymg (yspx9 + (r137 - 1)) yjn ymdx110 ybg137 ymmx110 yup137 yun137) H := hP
          have hD : va_D A (wM cI cZ md yth ybd yro yrow ymk yrm yst ypc ybu ybn ymg (yspx9 + (r137 - 1)) yjn ymdx110 ybg137 ymmx110 yup137 yun137) := hD
          exact J_153 r137 (yspx9 + (r137 - 1)) ymdx110 ybg137 ymmx110 yup137 yun137 (o2 hm) _ _ hP hD hS _ (lv_sub hl [0, 1] rfl)
        have L_110 : ∀ (n : Nat) (x2_2 : Int32) (ymdl110 : Nat → Int32) (ymml110 : Int32), X3_mergesAll_L110 ybu ybn F n x2_2 ymdl110 ymml110 = some z_110 → ∀ (H : Heap) (locs : List Loc), va_P (dC, dI) vwCl (wM cI cZ md yth ybd yro yrow ymk yrm yst ypc ybu ybn ymg yspx9 yjn ymdl110 ybgx9 ymml110 yupx9 yunx9) H → va_D A (wM cI cZ md yth ybd yro yrow ymk yrm yst ypc ybu ybn ymg yspx9 yjn ymdl110 ybgx9 ymml110 yupx9 yunx9) → va_S A s.heap H locs → ∀ (ls : Array Slot), lv_has ls 6 [(2, .int x2_2), (0, .ref (md 0))] → W p l e (headSpec wsX3_mergesAll ({ frames := 2, cells := 0, slots := 0, locals := 56 } : Room)).room s m ([.ref (md 0)] : List Value).toArray below meth c H locs 0 0 (MQ below (zQv (dC, dI) (wM cI cZ md yth ybd yro u_yrow u_ymk u_yrm u_yst u_ypc ybu u_ybn u_ymg u_ysp u_yjn u_ymd u_ybg u_ymm u_yup u_yun) [(cI, .int), (cZ, .boolean)] A) ([.ref (md 0)] : List Value).toArray s 0 0 A) (F0 m 110 ls []) := by
          intro n
          induction n with
          | zero => intro x2_2 ymdl110 ymml110 hm; cases hm
          | succ n ih_110 =>
            intro x2_2 ymdl110 ymml110 hm H locs hP hD hS ls hl
            refine lv_iload_n hx hb dX3_mergesAll_110 rfl (lv_at hl 0 rfl) ?_
            refine lv_aload_n hx hb dX3_mergesAll_111 rfl (lv_at hl 1 rfl) ?_
            refine va_get (D := (dC, dI)) (ci := 3) (v := .int ybn) (C := RX3) (T := TX3) (N := 18) hx hb hts ziX3 hown hK hP 0 rfl rfl 9 (by decide) zw4 (fun _ h9 => h9) rfl dX3_mergesAll_112 ?_
            refine lv_icmp_ge (tgt := 134) hx hb dX3_mergesAll_115 (by decide) (fun c_115 => ?_) (fun c_115 => ?_)
            · have hm := it_t hm c_115
              exact K_110 ymdl110 ymml110 (o2 hm) _ _ hP hD hS _ (lv_sub hl [1] rfl)
            · have hm := it_f hm c_115
              refine lv_aload_n hx hb dX3_mergesAll_118 rfl (lv_at hl 1 rfl) ?_
              refine lv_aload_n hx hb dX3_mergesAll_119 rfl (lv_at hl 1 rfl) ?_
              refine va_get (D := (dC, dI)) (ci := 3) (v := .ref (md 4)) (C := RX3) (T := TX3) (N := 18) hx hb hts ziX3 hown hK hP 0 rfl rfl 8 (by decide) zw5 (fun _ h9 => h9) rfl dX3_mergesAll_120 ?_
              refine lv_iload_n hx hb dX3_mergesAll_123 rfl (lv_at hl 0 rfl) ?_
              obtain ⟨c_124, hm⟩ := ck hm
              refine va_iald hx hb hK hP 4 0 rfl rfl c_124 dX3_mergesAll_124 ?_
              obtain ⟨⟨ymd125, ymm125⟩, h_125, hm⟩ := ob hm
              refine z_callWv (wc := (wM cI cZ md yth ybd yro yrow ymk yrm yst ypc ybu ybn ymg yspx9 yjn ymdl110 ybgx9 ymml110 yupx9 yunx9)) (w1 := (wM cI cZ md yth ybd yro yrow ymk yrm yst ypc ybu ybn ymg yspx9 yjn ymd125 ybgx9 ymm125 yupx9 yunx9)) (ws := (wM cI cZ md yth ybd yro yrow ymk yrm yst ypc ybu ybn ymg yspx9 yjn ymdl110 ybgx9 ymml110 yupx9 yunx9)) (ws' := (wM cI cZ md yth ybd yro yrow ymk yrm yst ypc ybu ybn ymg yspx9 yjn ymd125 ybgx9 ymm125 yupx9 yunx9)) [0, 1, 2, 3, 4, 5, 6] [] 7 (As := [.int (ybu (Int32.toNatClampNeg x2_2))]) (rest := []) (ci := 3) (q := (RX3, TX3, 18)) ⟨hx, hb, hml, hown, hts⟩ (c_X3_makes l dC dI cI cZ md yth ybd yro yrow ymk yrm yst ypc ybu ybn ymg yspx9 yjn ymdl110 ybgx9 ymml110 yupx9 yunx9 F (ybu (Int32.toNatClampNeg x2_2)) H.size ymd125 ymm125 h_125) (cwV 1 hts gX3_mergesAll_X3_makes rfl rfl rfl kv_X3_makes ⟨Nat.le_of_ble_eq_true rfl, Nat.le_of_ble_eq_true rfl⟩) hK hP hD hS hA hP hD rfl rfl (by decide) rfl rfl (by decide) rfl rfl rfl rfl rfl hl.1 rfl (Nat.le_of_ble_eq_true rfl) dX3_mergesAll_125 ⟨Nat.zero_le _, Nat.zero_le _⟩ (fun H locs hP hD hS => ?_)
              obtain ⟨x2_3, e_x2_3⟩ : ∃ y : Int32, y = x2_2 + 1 := ⟨_, rfl⟩
              have hm := bnd_e hm e_x2_3
              refine lv_iinc (v := x2_3) (lv' := [(2, .int x2_3), (0, .ref (md 0))]) hx hb dX3_mergesAll_128 hl (k := 0) rfl (by rw [e_x2_3]; rfl) (by decide) rfl (fun ls hl => ?_)
              refine lv_goto (tgt := 110) hx hb dX3_mergesAll_131 (by decide) ?_
              exact ih_110 x2_3 ymd125 ymm125 hm _ _ hP hD hS _ (lv_sub hl [0, 1] rfl)
        exact L_110 F 0 ymdx9 ymmx9 hq_110 _ _ hP hD hS _ (lv_sub hl [0, 2] rfl)
  have L_9 : ∀ (n : Nat) (x2 : Int32) (x1 : Int32) (yspl9 : Int32) (ymdl9 : Nat → Int32) (ybgl9 : Nat → Int32) (ymml9 : Int32) (yupl9 : Int64) (yunl9 : Int64), X3_mergesAll_L9 ybd yrow ymk yrm yst ypc ybu ybn F n x2 x1 yspl9 ymdl9 ybgl9 ymml9 yupl9 yunl9 = some z_9 → ∀ (H : Heap) (locs : List Loc), va_P (dC, dI) vwCl (wM cI cZ md yth ybd yro yrow ymk yrm yst ypc ybu ybn ymg yspl9 yjn ymdl9 ybgl9 ymml9 yupl9 yunl9) H → va_D A (wM cI cZ md yth ybd yro yrow ymk yrm yst ypc ybu ybn ymg yspl9 yjn ymdl9 ybgl9 ymml9 yupl9 yunl9) → va_S A s.heap H locs → ∀ (ls : Array Slot), lv_has ls 6 [(2, .int x2), (1, .int x1), (0, .ref (md 0))] → W p l e (headSpec wsX3_mergesAll ({ frames := 2, cells := 0, slots := 0, locals := 56 } : Room)).room s m ([.ref (md 0)] : List Value).toArray below meth c H locs 0 0 (MQ below (zQv (dC, dI) (wM cI cZ md yth ybd yro u_yrow u_ymk u_yrm u_yst u_ypc ybu u_ybn u_ymg u_ysp u_yjn u_ymd u_ybg u_ymm u_yup u_yun) [(cI, .int), (cZ, .boolean)] A) ([.ref (md 0)] : List Value).toArray s 0 0 A) (F0 m 9 ls []) := by
    intro n
    induction n with
    | zero => intro x2 x1 yspl9 ymdl9 ybgl9 ymml9 yupl9 yunl9 hm; cases hm
    | succ n ih_9 =>
      intro x2 x1 yspl9 ymdl9 ybgl9 ymml9 yupl9 yunl9 hm H locs hP hD hS ls hl
      refine lv_iload_n hx hb dX3_mergesAll_9 rfl (lv_at hl 0 rfl) ?_
      refine lv_aload_n hx hb dX3_mergesAll_10 rfl (lv_at hl 2 rfl) ?_
      refine va_get (D := (dC, dI)) (ci := 3) (v := .int ypc) (C := RX3) (T := TX3) (N := 18) hx hb hts ziX3 hown hK hP 0 rfl rfl 7 (by decide) zw1 (fun _ h9 => h9) rfl dX3_mergesAll_11 ?_
      refine lv_icmp_ge (tgt := 94) hx hb dX3_mergesAll_14 (by decide) (fun c_14 => ?_) (fun c_14 => ?_)
      · have hm := it_t hm c_14
        exact K_9 x1 yspl9 ymdl9 ybgl9 ymml9 yupl9 yunl9 (o2 hm) _ _ hP hD hS _ (lv_sub hl [1, 2] rfl)
      · have hm := it_f hm c_14
        refine lv_aload_n hx hb dX3_mergesAll_17 rfl (lv_at hl 2 rfl) ?_
        refine va_get (D := (dC, dI)) (ci := 3) (v := .int ymml9) (C := RX3) (T := TX3) (N := 18) hx hb hts ziX3 hown hK hP 0 rfl rfl 15 (by decide) zw0 (fun _ h9 => h9) rfl dX3_mergesAll_18 ?_
        refine lv_istore_n (lv' := [(3, .int ymml9), (2, .int x2), (1, .int x1), (0, .ref (md 0))]) hx hb dX3_mergesAll_21 rfl hl (by decide) rfl (fun ls hl => ?_)
        refine lv_aload_n hx hb dX3_mergesAll_22 rfl (lv_at hl 3 rfl) ?_
        refine lv_iload_n hx hb dX3_mergesAll_23 rfl (lv_at hl 1 rfl) ?_
        obtain ⟨⟨r24, ymd24, ymm24⟩, h_24, hm⟩ := ob hm
        refine z_callWi (wc := (wM cI cZ md yth ybd yro yrow ymk yrm yst ypc ybu ybn ymg yspl9 yjn ymdl9 ybgl9 ymml9 yupl9 yunl9)) (w1 := (wM cI cZ md yth ybd yro yrow ymk yrm yst ypc ybu ybn ymg yspl9 yjn ymd24 ybgl9 ymm24 yupl9 yunl9)) (ws := (wM cI cZ md yth ybd yro yrow ymk yrm yst ypc ybu ybn ymg yspl9 yjn ymdl9 ybgl9 ymml9 yupl9 yunl9)) (ws' := (wM cI cZ md yth ybd yro yrow ymk yrm yst ypc ybu ybn ymg yspl9 yjn ymd24 ybgl9 ymm24 yupl9 yunl9)) [0, 1, 2, 3, 4, 5, 6] [] 7 (As := [.int x2]) (rest := []) (ci := 3) (q := (RX3, TX3, 18)) ⟨hx, hb, hml, hown, hts⟩ (c_X3_gathers l dC dI cI cZ md yth ybd yro yrow ymk yrm yst ypc ybu ybn ymg yspl9 yjn ymdl9 ybgl9 ymml9 yupl9 yunl9 F x2 H.size r24 ymd24 ymm24 h_24) (cwV 1 hts gX3_mergesAll_X3_gathers rfl rfl rfl kv_X3_gathers ⟨Nat.le_of_ble_eq_true rfl, Nat.le_of_ble_eq_true rfl⟩) hK hP hD hS hA hP hD rfl rfl (by decide) rfl rfl (by decide) rfl rfl rfl rfl rfl hl.1 rfl (Nat.le_of_ble_eq_true rfl) dX3_mergesAll_24 ⟨Nat.zero_le _, Nat.zero_le _⟩ (fun H locs hP hD hS => ?_)
        refine lv_istore (lv' := [(4, .int r24), (3, .int ymml9), (2, .int x2), (1, .int x1), (0, .ref (md 0))]) hx hb dX3_mergesAll_27 hl (by decide) rfl (fun ls hl => ?_)
        refine lv_iload_n hx hb dX3_mergesAll_29 rfl (lv_at hl 3 rfl) ?_
        refine lv_istore (lv' := [(5, .int x1), (4, .int r24), (3, .int ymml9), (2, .int x2), (1, .int x1), (0, .ref (md 0))]) hx hb dX3_mergesAll_30 hl (by decide) rfl (fun ls hl => ?_)
        refine lv_iload hx hb dX3_mergesAll_32 (lv_at hl 1 rfl) ?_
        obtain ⟨z_60, hq_60, hm⟩ := ob hm
        have J_60 : ∀ (x5_1 : Int32), ∀ (ybgj60 : Nat → Int32), ∀ (yupj60 : Int64), ∀ (yunj60 : Int64), z_60 = (x5_1, ybgj60, yupj60, yunj60) → ∀ (H : Heap) (locs : List Loc), va_P (dC, dI) vwCl (wM cI cZ md yth ybd yro yrow ymk yrm yst ypc ybu ybn ymg yspl9 yjn ymd24 ybgj60 ymm24 yupj60 yunj60) H → va_D A (wM cI cZ md yth ybd yro yrow ymk yrm yst ypc ybu ybn ymg yspl9 yjn ymd24 ybgj60 ymm24 yupj60 yunj60) → va_S A s.heap H locs → ∀ (ls : Array Slot), lv_has ls 6 [(5, .int x5_1), (2, .int x2), (1, .int x1), (0, .ref (md 0))] → W p l e (headSpec wsX3_mergesAll ({ frames := 2, cells := 0, slots := 0, locals := 56 } : Room)).room s m ([.ref (md 0)] : List Value).toArray below meth c H locs 0 0 (MQ below (zQv (dC, dI) (wM cI cZ md yth ybd yro u_yrow u_ymk u_yrm u_yst u_ypc ybu u_ybn u_ymg u_ysp u_yjn u_ymd u_ybg u_ymm u_yup u_yun) [(cI, .int), (cZ, .boolean)] A) ([.ref (md 0)] : List Value).toArray s 0 0 A) (F0 m 60 ls []) := by
          intro x5_1 ybgj60 yupj60 yunj60 ez H locs hP hD hS ls hl
          rw [ez] at hm
          refine lv_aload_n hx hb dX3_mergesAll_60 rfl (lv_at hl 3 rfl) ?_
          refine lv_dup hx hb dX3_mergesAll_61 rfl ?_
          refine va_get (D := (dC, dI)) (ci := 3) (v := .int yspl9) (C := RX3) (T := TX3) (N := 18) hx hb hts ziX3 hown hK hP 0 rfl rfl 11 (by decide) zw3 (fun _ h9 => h9) rfl dX3_mergesAll_62 ?_
          refine lv_iload hx hb dX3_mergesAll_65 (lv_at hl 0 rfl) ?_
          refine lv_iload_n hx hb dX3_mergesAll_67 rfl (lv_at hl 2 rfl) ?_
          obtain ⟨y81, e_y81⟩ : ∃ y : Int32, y = (if x5_1 ≤ x1 then 0 else ((x5_1 - x1) - 1)) := ⟨_, rfl⟩
          have hm := bnd_e hm e_y81
          have J_81 : W p l e (headSpec wsX3_mergesAll ({ frames := 2, cells := 0, slots := 0, locals := 56 } : Room)).room s m ([.ref (md 0)] : List Value).toArray below meth c H locs 0 0 (MQ below (zQv (dC, dI) (wM cI cZ md yth ybd yro u_yrow u_ymk u_yrm u_yst u_ypc ybu u_ybn u_ymg u_ysp u_yjn u_ymd u_ybg u_ymm u_yup u_yun) [(cI, .int), (cZ, .boolean)] A) ([.ref (md 0)] : List Value).toArray s 0 0 A) (F0 m 81 ls [.int y81, .int yspl9, .ref (md 0)]) := by
            refine lv_iadd hx hb dX3_mergesAll_81 ?_
            refine va_put (D := (dC, dI)) (ci := 3) (v := .int (yspl9 + y81)) (ty := .int) (C := RX3) (T := TX3) (N := 18) hx hb hts ziX3 tyX3 tyX3_ok nmX3 hown hK hP hD hS 0 rfl rfl 11 (by decide) zw3 (fun _ h9 => h9) rfl (by decide +kernel) rfl rfl (Nat.le_of_ble_eq_true rfl) dX3_mergesAll_82 (fun H locs hP hD hS => ?_)
            have hP : va_P (dC, dI) vwCl (wM cI cZ md yth ybd yro yrow ymk yrm yst ypc ybu ybn ymg (yspl9 + y81) yjn ymd24 ybgj60 ymm24 yupj60 yunj60) H := hP
            have hD : va_D A (wM cI cZ md yth ybd yro yrow ymk yrm yst ypc ybu ybn ymg (yspl9 + y81) yjn ymd24 ybgj60 ymm24 yupj60 yunj60) := hD
            refine lv_iload hx hb dX3_mergesAll_85 (lv_at hl 0 rfl) ?_
            refine lv_istore_n (lv' := [(1, .int x5_1), (5, .int x5_1), (2, .int x2), (0, .ref (md 0))]) hx hb dX3_mergesAll_87 rfl hl (by decide) rfl (fun ls hl => ?_)
            obtain ⟨x2_1, e_x2_1⟩ : ∃ y : Int32, y = x2 + 1 := ⟨_, rfl⟩
            have hm := bnd_e hm e_x2_1
            refine lv_iinc (v := x2_1) (lv' := [(2, .int x2_1), (1, .int x5_1), (5, .int x5_1), (0, .ref (md 0))]) hx hb dX3_mergesAll_88 hl (k := 2) rfl (by rw [e_x2_1]; rfl) (by decide) rfl (fun ls hl => ?_)
            refine lv_goto (tgt := 9) hx hb dX3_mergesAll_91 (by decide) ?_
            exact ih_9 x2_1 x5_1 (yspl9 + y81) ymd24 ybgj60 ymm24 yupj60 yunj60 hm _ _ hP hD hS _ (lv_sub hl [0, 1, 3] rfl)
          refine lv_icmp_le (tgt := 80) hx hb dX3_mergesAll_68 (by decide) (fun c_68 => ?_) (fun c_68 => ?_)
          · refine lv_iconst (v := 0) hx hb dX3_mergesAll_80 (by decide) ?_
            have e9 : y81 = 0 := by rw [e_y81, if_pos c_68]
            rw [e9] at J_81
            exact J_81
          · refine lv_iload hx hb dX3_mergesAll_71 (lv_at hl 0 rfl) ?_
            refine lv_iload_n hx hb dX3_mergesAll_73 rfl (lv_at hl 2 rfl) ?_
            refine lv_isub hx hb dX3_mergesAll_74 ?_
            refine lv_iconst (v := 1) hx hb dX3_mergesAll_75 (by decide) ?_
            refine lv_isub hx hb dX3_mergesAll_76 ?_
            refine lv_goto (tgt := 81) hx hb dX3_mergesAll_77 (by decide) ?_
            have e9 : y81 = ((x5_1 - x1) - 1) := by rw [e_y81, if_neg c_68]
            rw [e9] at J_81
            exact J_81
        have hm := hq_60
        refine lv_if_eq (tgt := 48) hx hb dX3_mergesAll_34 (by decide) (fun c_34 => ?_) (fun c_34 => ?_)
        · have hm := it_t hm c_34
          refine lv_aload_n hx hb dX3_mergesAll_48 rfl (lv_at hl 5 rfl) ?_
          refine va_get (D := (dC, dI)) (ci := 3) (v := .ref (md 6)) (C := RX3) (T := TX3) (N := 18) hx hb hts ziX3 hown hK hP 0 rfl rfl 14 (by decide) zw2 (fun _ h9 => h9) rfl dX3_mergesAll_49 ?_
          refine lv_iload_n hx hb dX3_mergesAll_52 rfl (lv_at hl 4 rfl) ?_
          refine lv_iload_n hx hb dX3_mergesAll_53 rfl (lv_at hl 2 rfl) ?_
          obtain ⟨c_54, hm⟩ := ck hm
          refine va_iast hx hb hK hP hD hS 6 0 rfl rfl c_54 dX3_mergesAll_54 (fun H locs hP hD hS => ?_)
          have hP : va_P (dC, dI) vwCl (wM cI cZ md yth ybd yro yrow ymk yrm yst ypc ybu ybn ymg yspl9 yjn ymd24 (upd ybgl9 (Int32.toNatClampNeg x1) ymml9) ymm24 yupl9 yunl9) H := hP
          have hD : va_D A (wM cI cZ md yth ybd yro yrow ymk yrm yst ypc ybu ybn ymg yspl9 yjn ymd24 (upd ybgl9 (Int32.toNatClampNeg x1) ymml9) ymm24 yupl9 yunl9) := hD
          refine lv_iload_n hx hb dX3_mergesAll_55 rfl (lv_at hl 4 rfl) ?_
          refine lv_iconst (v := 1) hx hb dX3_mergesAll_56 (by decide) ?_
          refine lv_iadd hx hb dX3_mergesAll_57 ?_
          refine lv_topi (fun x5 e_x5 => ?_)
          have hm := bnd_e hm e_x5
          refine lv_istore (lv' := [(5, .int x5), (4, .int r24), (3, .int ymml9), (2, .int x2), (1, .int x1), (0, .ref (md 0))]) hx hb dX3_mergesAll_58 hl (by decide) rfl (fun ls hl => ?_)
          exact J_60 x5 (upd ybgl9 (Int32.toNatClampNeg x1) ymml9) yupl9 yunl9 (o2 hm) _ _ hP hD hS _ (lv_sub hl [0, 3, 4, 5] rfl)
        · have hm := it_f hm c_34
          refine lv_aload_n hx hb dX3_mergesAll_37 rfl (lv_at hl 5 rfl) ?_
          refine lv_iload_n hx hb dX3_mergesAll_38 rfl (lv_at hl 2 rfl) ?_
          refine lv_iload_n hx hb dX3_mergesAll_39 rfl (lv_at hl 4 rfl) ?_
          obtain ⟨⟨r40, ybg40, yup40, yun40⟩, h_40, hm⟩ := ob hm
          refine z_callWi (wc := (wM cI cZ md yth ybd yro yrow ymk yrm yst ypc ybu ybn ymg yspl9 yjn ymd24 ybgl9 ymm24 yupl9 yunl9)) (w1 := (wM cI cZ md yth ybd yro yrow ymk yrm yst ypc ybu ybn ymg yspl9 yjn ymd24 ybg40 ymm24 yup40 yun40)) (ws := (wM cI cZ md yth ybd yro yrow ymk yrm yst ypc ybu ybn ymg yspl9 yjn ymd24 ybgl9 ymm24 yupl9 yunl9)) (ws' := (wM cI cZ md yth ybd yro yrow ymk yrm yst ypc ybu ybn ymg yspl9 yjn ymd24 ybg40 ymm24 yup40 yun40)) [0, 1, 2, 3, 4, 5, 6] [] 7 (As := [.int ymml9, .int x1]) (rest := []) (ci := 3) (q := (RX3, TX3, 18)) ⟨hx, hb, hml, hown, hts⟩ (c_X3_cuts l dC dI cI cZ md yth ybd yro yrow ymk yrm yst ypc ybu ybn ymg yspl9 yjn ymd24 ybgl9 ymm24 yupl9 yunl9 F ymml9 x1 H.size r40 ybg40 yup40 yun40 h_40) (cwV 2 hts gX3_mergesAll_X3_cuts rfl rfl rfl kv_X3_cuts ⟨Nat.le_of_ble_eq_true rfl, Nat.le_of_ble_eq_true rfl⟩) hK hP hD hS hA hP hD rfl rfl (by decide) rfl rfl (by decide) rfl rfl rfl rfl rfl hl.1 rfl (Nat.le_of_ble_eq_true rfl) dX3_mergesAll_40 ⟨Nat.zero_le _, Nat.zero_le _⟩ (fun H locs hP hD hS => ?_)
          refine lv_istore (lv' := [(5, .int r40), (4, .int r24), (3, .int ymml9), (2, .int x2), (1, .int x1), (0, .ref (md 0))]) hx hb dX3_mergesAll_43 hl (by decide) rfl (fun ls hl => ?_)
          refine lv_goto (tgt := 60) hx hb dX3_mergesAll_45 (by decide) ?_
          exact J_60 r40 ybg40 yup40 yun40 (o2 hm) _ _ hP hD hS _ (lv_sub hl [0, 3, 4, 5] rfl)
  exact L_9 F 0 0 ysp ymd ybg 0 yup yun hq_9 _ _ hP hD hS _ (lv_sub hl [0, 1, 2] rfl)
set_option maxHeartbeats 4000000 in
set_option maxRecDepth 100000 in
theorem c_X3_insert (l : Launch) (dC : Nat → ClassId) (dI : Nat → Nat → Nat) (cI : ClassId) (cZ : ClassId) (md : Nat → Nat) (yth : Int32) (ybd : Int32) (yro : Int32) (yrow : Nat → Int32) (ymk : Nat → Int32) (yrm : Int32) (yst : Nat → Int32) (ypc : Int32) (ybu : Nat → Int32) (ybn : Int32) (ymg : Int32) (ysp : Int32) (yjn : Int32) (ymd : Nat → Int32) (ybg : Nat → Int32) (ymm : Int32) (yup : Int64) (yun : Int64) (F : Nat) (p1 : Int32) (sz : Nat) (r : Int32) (u_yth : Int32) (u_yrow : Nat → Int32) (u_ymk : Nat → Int32) (u_yrm : Int32) (u_yst : Nat → Int32) (u_ypc : Int32) (u_ybu : Nat → Int32) (u_ybn : Int32) (u_ymg : Int32) (u_ysp : Int32) (u_yjn : Int32) (u_ymd : Nat → Int32) (u_ybg : Nat → Int32) (u_ymm : Int32) (u_yup : Int64) (u_yun : Int64) (hm : X3_insert F yth ybd yro yrow ymk yrm yst ypc ybu ybn ymg ysp yjn ymd ybg ymm yup yun p1 = some (r, u_yth, u_yrow, u_ymk, u_yrm, u_yst, u_ypc, u_ybu, u_ybn, u_ymg, u_ysp, u_yjn, u_ymd, u_ybg, u_ymm, u_yup, u_yun)) : Met l yX3_insert wsX3_insert ({ frames := 3, cells := 0, slots := 0, locals := 81 }) (va_Pc [.ref (md 0), .int p1] (zW (dC, dI) (wM cI cZ md yth ybd yro yrow ymk yrm yst ypc ybu ybn ymg ysp yjn ymd ybg ymm yup yun) [(cI, .int), (cZ, .boolean)] sz)) (zQi (dC, dI) (wM cI cZ md u_yth ybd yro u_yrow u_ymk u_yrm u_yst u_ypc u_ybu u_ybn u_ymg u_ysp u_yjn u_ymd u_ybg u_ymm u_yup u_yun) [(cI, .int), (cZ, .boolean)] (va_A (wM cI cZ md yth ybd yro yrow ymk yrm yst ypc ybu ybn ymg ysp yjn ymd ybg ymm yup yun) sz) r) 0 0 (va_A (wM cI cZ md yth ybd yro yrow ymk yrm yst ypc ybu ybn ymg ysp yjn ymd ybg ymm yup yun) sz) := by
  refine Met.ofW (cc := cX3_insert) (maxL := 4) (ret := (some .int)) (by decide) rfl ?_
  intro p e s m args below meth c s₁ B hml hv
  obtain ⟨rfl, hsz, hP, hK, hD0⟩ := hv
  have hx := B.exec
  have hb := B.bytes
  have hr := B.returns
  have hts := atoms_spec (ws := wsX3_insert) B.pre
  have hown : s.vm.findClass RX3 = some m.cls := findClass_of_methodNamed B.named
  have hlocks := B.notSynchronized
  subst hsz
  have hD := hD0.self (sz := s.heap.size)
  generalize hAe : va_A (wM cI cZ md yth ybd yro yrow ymk yrm yst ypc ybu ybn ymg ysp yjn ymd ybg ymm yup yun) s.heap.size = A at hD ⊢
  have hA : ∀ q : Nat, s.heap.size ≤ q → A q := fun q h => by rw [← hAe]; exact Or.inr h
  have hS : va_S A s.heap s.heap [] := va_S.rf
  generalize eL : ([] : List Loc) = locs at hS ⊢
  obtain ⟨H, eH⟩ : ∃ z : Heap, z = s.heap := ⟨_, rfl⟩
  have hP : va_P (dC, dI) vwCl (wM cI cZ md yth ybd yro yrow ymk yrm yst ypc ybu ybn ymg ysp yjn ymd ybg ymm yup yun) H := by rw [eH]; exact hP
  have hS : va_S A s.heap H locs := by rw [eH]; exact hS
  refine z_heap eH ?_
  have hl := lv_entry ([.ref (md 0), .int p1]) (n := 4) (Nat.le_of_ble_eq_true rfl)
  rw [lg_entry_eq]
  generalize (lg_sl ([.ref (md 0), .int p1]) ++ List.replicate (4 - (lg_sl ([.ref (md 0), .int p1])).length) Slot.unset).toArray = ls at hl ⊢
  have hl : lv_has ls 4 [(0, .ref (md 0)), (1, .int p1)] := hl
  have zw0 := hts (.fieldLink RX3 36 "LearnedLedgeModel" "thrown" "I") (by decide +kernel)
  have zw1 := hts (.fieldLink RX3 69 "LearnedLedgeModel" "buffered" "I") (by decide +kernel)
  have zw2 := hts (.fieldLink RX3 27 "LearnedLedgeModel" "buffer" "[I") (by decide +kernel)
  have zw3 := hts (.fieldLink RX3 13 "LearnedLedgeModel" "room" "I") (by decide +kernel)
  have zw4 := hts (.fieldLink RX3 20 "LearnedLedgeModel" "isMarked" "[Z") (by decide +kernel)
  have ziX3 : ∀ w ∈ u_ws RX3 TX3 18, w ∈ wsX3_insert := by decide +kernel
  refine lv_aload_n hx hb dX3_insert_0 rfl (lv_at hl 0 rfl) ?_
  refine lv_iload_n hx hb dX3_insert_1 rfl (lv_at hl 1 rfl) ?_
  obtain ⟨r2, h_2, hm⟩ := ob hm
  refine z_callRi (As := [.int p1]) (rest := []) (ci := 3) (q := (RX3, TX3, 18)) ⟨hx, hb, hml, hown, hts⟩ (c_X3_isInRow l dC dI cI cZ md yth ybd yro yrow ymk yrm yst ypc ybu ybn ymg ysp yjn ymd ybg ymm yup yun F p1 r2 h_2) (cwV 1 hts gX3_insert_X3_isInRow rfl rfl rfl kv_X3_isInRow ⟨Nat.le_of_ble_eq_true rfl, Nat.le_of_ble_eq_true rfl⟩) hK hP rfl rfl rfl rfl hl.1 rfl (Nat.le_of_ble_eq_true rfl) dX3_insert_2 ⟨Nat.zero_le _, Nat.zero_le _⟩ ?_
  refine lv_istore_n (lv' := [(2, .int r2), (0, .ref (md 0)), (1, .int p1)]) hx hb dX3_insert_5 rfl hl (by decide) rfl (fun ls hl => ?_)
  refine lv_aload_n hx hb dX3_insert_6 rfl (lv_at hl 1 rfl) ?_
  refine lv_iload_n hx hb dX3_insert_7 rfl (lv_at hl 2 rfl) ?_
  obtain ⟨r8, h_8, hm⟩ := ob hm
  refine z_callSi (As := [.int p1]) (rest := [.ref (md 0)]) ⟨hx, hb, hml, hown, hts⟩ (c_X3_isKey l dC dI F p1 r8 h_8) (va_cwS 1 hts gX3_insert_X3_isKey rfl rfl rfl ks_X3_isKey ⟨Nat.le_of_ble_eq_true rfl, Nat.le_of_ble_eq_true rfl⟩) (hK.sub (tys' := []) [] rfl) z_P0 rfl hl.1 rfl (Nat.le_of_ble_eq_true rfl) dX3_insert_8 ⟨Nat.zero_le _, Nat.zero_le _⟩ ?_
  obtain ⟨z_45, hq_45, hm⟩ := ob hm
  have J_45 : ∀ (y45 : Int32), z_45 = y45 → W p l e (headSpec wsX3_insert ({ frames := 3, cells := 0, slots := 0, locals := 81 } : Room)).room s m ([.ref (md 0), .int p1] : List Value).toArray below meth c H locs 0 0 (MQ below (zQi (dC, dI) (wM cI cZ md u_yth ybd yro u_yrow u_ymk u_yrm u_yst u_ypc u_ybu u_ybn u_ymg u_ysp u_yjn u_ymd u_ybg u_ymm u_yup u_yun) [(cI, .int), (cZ, .boolean)] A r) ([.ref (md 0), .int p1] : List Value).toArray s 0 0 A) (F0 m 45 ls [.int y45, .ref (md 0)]) := by
    intro y45 ez
    rw [ez] at hm
    refine va_put (D := (dC, dI)) (ci := 3) (v := .int y45) (ty := .int) (C := RX3) (T := TX3) (N := 18) hx hb hts ziX3 tyX3 tyX3_ok nmX3 hown hK hP hD hS 0 rfl rfl 0 (by decide) zw0 (fun _ h9 => h9) rfl (by decide +kernel) rfl rfl (Nat.le_of_ble_eq_true rfl) dX3_insert_45 (fun H locs hP hD hS => ?_)
    have hP : va_P (dC, dI) vwCl (wM cI cZ md y45 ybd yro yrow ymk yrm yst ypc ybu ybn ymg ysp yjn ymd ybg ymm yup yun) H := hP
    have hD : va_D A (wM cI cZ md y45 ybd yro yrow ymk yrm yst ypc ybu ybn ymg ysp yjn ymd ybg ymm yup yun) := hD
    refine lv_aload_n hx hb dX3_insert_48 rfl (lv_at hl 1 rfl) ?_
    refine va_get (D := (dC, dI)) (ci := 3) (v := .int y45) (C := RX3) (T := TX3) (N := 18) hx hb hts ziX3 hown hK hP 0 rfl rfl 0 (by decide) zw0 (fun _ h9 => h9) rfl dX3_insert_49 ?_
    refine lv_if_le (tgt := 57) hx hb dX3_insert_52 (by decide) (fun c_52 => ?_) (fun c_52 => ?_)
    · have hm := it_t hm c_52
      refine lv_iload_n hx hb dX3_insert_57 rfl (lv_at hl 0 rfl) ?_
      refine lv_if_eq (tgt := 77) hx hb dX3_insert_58 (by decide) (fun c_58 => ?_) (fun c_58 => ?_)
      · have hm := it_t hm c_58
        refine lv_aload_n hx hb dX3_insert_77 rfl (lv_at hl 1 rfl) ?_
        refine va_get (D := (dC, dI)) (ci := 3) (v := .int ybn) (C := RX3) (T := TX3) (N := 18) hx hb hts ziX3 hown hK hP 0 rfl rfl 9 (by decide) zw1 (fun _ h9 => h9) rfl dX3_insert_78 ?_
        refine lv_istore_n (lv' := [(3, .int ybn), (2, .int r2), (0, .ref (md 0)), (1, .int p1)]) hx hb dX3_insert_81 rfl hl (by decide) rfl (fun ls hl => ?_)
        obtain ⟨z_82, hq_82, hm⟩ := ob hm
        have K_82 : ∀ (x3_2 : Int32), ∀ (ybux82 : Nat → Int32), z_82 = (x3_2, ybux82) → ∀ (H : Heap) (locs : List Loc), va_P (dC, dI) vwCl (wM cI cZ md y45 ybd yro yrow ymk yrm yst ypc ybux82 ybn ymg ysp yjn ymd ybg ymm yup yun) H → va_D A (wM cI cZ md y45 ybd yro yrow ymk yrm yst ypc ybux82 ybn ymg ysp yjn ymd ybg ymm yup yun) → va_S A s.heap H locs → ∀ (ls : Array Slot), lv_has ls 4 [(3, .int x3_2), (0, .ref (md 0)), (1, .int p1)] → W p l e (headSpec wsX3_insert ({ frames := 3, cells := 0, slots := 0, locals := 81 } : Room)).room s m ([.ref (md 0), .int p1] : List Value).toArray below meth c H locs 0 0 (MQ below (zQi (dC, dI) (wM cI cZ md u_yth ybd yro u_yrow u_ymk u_yrm u_yst u_ypc u_ybu u_ybn u_ymg u_ysp u_yjn u_ymd u_ybg u_ymm u_yup u_yun) [(cI, .int), (cZ, .boolean)] A r) ([.ref (md 0), .int p1] : List Value).toArray s 0 0 A) (F0 m 118 ls []) := by
          intro x3_2 ybux82 ez H locs hP hD hS ls hl
          rw [ez] at hm
          refine lv_aload_n hx hb dX3_insert_118 rfl (lv_at hl 1 rfl) ?_
          refine va_get (D := (dC, dI)) (ci := 3) (v := .ref (md 4)) (C := RX3) (T := TX3) (N := 18) hx hb hts ziX3 hown hK hP 0 rfl rfl 8 (by decide) zw2 (fun _ h9 => h9) rfl dX3_insert_119 ?_
          refine lv_iload_n hx hb dX3_insert_122 rfl (lv_at hl 0 rfl) ?_
          refine lv_iload_n hx hb dX3_insert_123 rfl (lv_at hl 2 rfl) ?_
          obtain ⟨c_124, hm⟩ := ck hm
          refine va_iast hx hb hK hP hD hS 4 0 rfl rfl c_124 dX3_insert_124 (fun H locs hP hD hS => ?_)
          have hP : va_P (dC, dI) vwCl (wM cI cZ md y45 ybd yro yrow ymk yrm yst ypc (upd ybux82 (Int32.toNatClampNeg x3_2) p1) ybn ymg ysp yjn ymd ybg ymm yup yun) H := hP
          have hD : va_D A (wM cI cZ md y45 ybd yro yrow ymk yrm yst ypc (upd ybux82 (Int32.toNatClampNeg x3_2) p1) ybn ymg ysp yjn ymd ybg ymm yup yun) := hD
          refine lv_aload_n hx hb dX3_insert_125 rfl (lv_at hl 1 rfl) ?_
          refine lv_dup hx hb dX3_insert_126 rfl ?_
          refine va_get (D := (dC, dI)) (ci := 3) (v := .int ybn) (C := RX3) (T := TX3) (N := 18) hx hb hts ziX3 hown hK hP 0 rfl rfl 9 (by decide) zw1 (fun _ h9 => h9) rfl dX3_insert_127 ?_
          refine lv_iconst (v := 1) hx hb dX3_insert_130 (by decide) ?_
          refine lv_iadd hx hb dX3_insert_131 ?_
          refine va_put (D := (dC, dI)) (ci := 3) (v := .int (ybn + 1)) (ty := .int) (C := RX3) (T := TX3) (N := 18) hx hb hts ziX3 tyX3 tyX3_ok nmX3 hown hK hP hD hS 0 rfl rfl 9 (by decide) zw1 (fun _ h9 => h9) rfl (by decide +kernel) rfl rfl (Nat.le_of_ble_eq_true rfl) dX3_insert_132 (fun H locs hP hD hS => ?_)
          have hP : va_P (dC, dI) vwCl (wM cI cZ md y45 ybd yro yrow ymk yrm yst ypc (upd ybux82 (Int32.toNatClampNeg x3_2) p1) (ybn + 1) ymg ysp yjn ymd ybg ymm yup yun) H := hP
          have hD : va_D A (wM cI cZ md y45 ybd yro yrow ymk yrm yst ypc (upd ybux82 (Int32.toNatClampNeg x3_2) p1) (ybn + 1) ymg ysp yjn ymd ybg ymm yup yun) := hD
          refine lv_aload_n hx hb dX3_insert_135 rfl (lv_at hl 1 rfl) ?_
          refine va_get (D := (dC, dI)) (ci := 3) (v := .int (ybn + 1)) (C := RX3) (T := TX3) (N := 18) hx hb hts ziX3 hown hK hP 0 rfl rfl 9 (by decide) zw1 (fun _ h9 => h9) rfl dX3_insert_136 ?_
          refine lv_aload_n hx hb dX3_insert_139 rfl (lv_at hl 1 rfl) ?_
          refine va_get (D := (dC, dI)) (ci := 3) (v := .int yro) (C := RX3) (T := TX3) (N := 18) hx hb hts ziX3 hown hK hP 0 rfl rfl 2 (by decide) zw3 (fun _ h9 => h9) rfl dX3_insert_140 ?_
          refine lv_icmp_ne (tgt := 150) hx hb dX3_insert_143 (by decide) (fun c_143 => ?_) (fun c_143 => ?_)
          · have hm := it_f hm c_143
            refine lv_aload_n hx hb dX3_insert_150 rfl (lv_at hl 1 rfl) ?_
            refine va_get (D := (dC, dI)) (ci := 3) (v := .int (ybn + 1)) (C := RX3) (T := TX3) (N := 18) hx hb hts ziX3 hown hK hP 0 rfl rfl 9 (by decide) zw1 (fun _ h9 => h9) rfl dX3_insert_151 ?_
            cases o2 hm
            exact W.iret hx hb hr (fun t ht hW => ⟨⟨_, (), rfl, rfl, by rw [ht]; exact hP, va_K.moved hW.alike hK, hD⟩, hS.F ht⟩) hS.2.2 dX3_insert_154
          · have hm := it_t hm c_143
            refine lv_aload_n hx hb dX3_insert_146 rfl (lv_at hl 1 rfl) ?_
            obtain ⟨⟨yrow147, ymk147, yrm147, yst147, ypc147, ybn147, ymg147, ysp147, yjn147, ymd147, ybg147, ymm147, yup147, yun147⟩, h_147, hm⟩ := ob hm
            refine z_callWv (wc := (wM cI cZ md y45 ybd yro yrow ymk yrm yst ypc (upd ybux82 (Int32.toNatClampNeg x3_2) p1) (ybn + 1) ymg ysp yjn ymd ybg ymm yup yun)) (w1 := (wM cI cZ md y45 ybd yro yrow147 ymk147 yrm147 yst147 ypc147 (upd ybux82 (Int32.toNatClampNeg x3_2) p1) ybn147 ymg147 ysp147 yjn147 ymd147 ybg147 ymm147 yup147 yun147)) (ws := (wM cI cZ md y45 ybd yro yrow ymk yrm yst ypc (upd ybux82 (Int32.toNatClampNeg x3_2) p1) (ybn + 1) ymg ysp yjn ymd ybg ymm yup yun)) (ws' := (wM cI cZ md y45 ybd yro yrow147 ymk147 yrm147 yst147 ypc147 (upd ybux82 (Int32.toNatClampNeg x3_2) p1) ybn147 ymg147 ysp147 yjn147 ymd147 ybg147 ymm147 yup147 yun147)) [0, 1, 2, 3, 4, 5, 6] [] 7 (As := []) (rest := []) (ci := 3) (q := (RX3, TX3, 18)) ⟨hx, hb, hml, hown, hts⟩ (c_X3_mergesAll l dC dI cI cZ md y45 ybd yro yrow ymk yrm yst ypc (upd ybux82 (Int32.toNatClampNeg x3_2) p1) (ybn + 1) ymg ysp yjn ymd ybg ymm yup yun F H.size yrow147 ymk147 yrm147 yst147 ypc147 ybn147 ymg147 ysp147 yjn147 ymd147 ybg147 ymm147 yup147 yun147 h_147) (cwV 0 hts gX3_insert_X3_mergesAll rfl rfl rfl kv_X3_mergesAll ⟨Nat.le_of_ble_eq_true rfl, Nat.le_of_ble_eq_true rfl⟩) hK hP hD hS hA hP hD rfl rfl (by decide) rfl rfl (by decide) rfl rfl rfl rfl rfl hl.1 rfl (Nat.le_of_ble_eq_true rfl) dX3_insert_147 ⟨Nat.zero_le _, Nat.zero_le _⟩ (fun H locs hP hD hS => ?_)
            refine lv_aload_n hx hb dX3_insert_150 rfl (lv_at hl 1 rfl) ?_
            refine va_get (D := (dC, dI)) (ci := 3) (v := .int ybn147) (C := RX3) (T := TX3) (N := 18) hx hb hts ziX3 hown hK hP 0 rfl rfl 9 (by decide) zw1 (fun _ h9 => h9) rfl dX3_insert_151 ?_
            cases o2 hm
            exact W.iret hx hb hr (fun t ht hW => ⟨⟨_, (), rfl, rfl, by rw [ht]; exact hP, va_K.moved hW.alike hK, hD⟩, hS.F ht⟩) hS.2.2 dX3_insert_154
        have L_82 : ∀ (n : Nat) (x3 : Int32) (ybul82 : Nat → Int32), X3_insert_L82 p1 n x3 ybul82 = some z_82 → ∀ (H : Heap) (locs : List Loc), va_P (dC, dI) vwCl (wM cI cZ md y45 ybd yro yrow ymk yrm yst ypc ybul82 ybn ymg ysp yjn ymd ybg ymm yup yun) H → va_D A (wM cI cZ md y45 ybd yro yrow ymk yrm yst ypc ybul82 ybn ymg ysp yjn ymd ybg ymm yup yun) → va_S A s.heap H locs → ∀ (ls : Array Slot), lv_has ls 4 [(3, .int x3), (0, .ref (md 0)), (1, .int p1)] → W p l e (headSpec wsX3_insert ({ frames := 3, cells := 0, slots := 0, locals := 81 } : Room)).room s m ([.ref (md 0), .int p1] : List Value).toArray below meth c H locs 0 0 (MQ below (zQi (dC, dI) (wM cI cZ md u_yth ybd yro u_yrow u_ymk u_yrm u_yst u_ypc u_ybu u_ybn u_ymg u_ysp u_yjn u_ymd u_ybg u_ymm u_yup u_yun) [(cI, .int), (cZ, .boolean)] A r) ([.ref (md 0), .int p1] : List Value).toArray s 0 0 A) (F0 m 82 ls []) := by
          intro n
          induction n with
          | zero => intro x3 ybul82 hm; cases hm
          | succ n ih_82 =>
            intro x3 ybul82 hm H locs hP hD hS ls hl
            refine lv_iload_n hx hb dX3_insert_82 rfl (lv_at hl 0 rfl) ?_
            refine lv_if_le (tgt := 118) hx hb dX3_insert_83 (by decide) (fun c_83 => ?_) (fun c_83 => ?_)
            · have hm := it_t hm c_83
              exact K_82 x3 ybul82 (o2 hm) _ _ hP hD hS _ (lv_sub hl [0, 1, 2] rfl)
            · have hm := it_f hm c_83
              refine lv_aload_n hx hb dX3_insert_86 rfl (lv_at hl 1 rfl) ?_
              refine va_get (D := (dC, dI)) (ci := 3) (v := .ref (md 4)) (C := RX3) (T := TX3) (N := 18) hx hb hts ziX3 hown hK hP 0 rfl rfl 8 (by decide) zw2 (fun _ h9 => h9) rfl dX3_insert_87 ?_
              refine lv_iload_n hx hb dX3_insert_90 rfl (lv_at hl 0 rfl) ?_
              refine lv_iconst (v := 1) hx hb dX3_insert_91 (by decide) ?_
              refine lv_isub hx hb dX3_insert_92 ?_
              obtain ⟨c_93, hm⟩ := ck hm
              refine va_iald hx hb hK hP 4 0 rfl rfl c_93 dX3_insert_93 ?_
              refine lv_iload_n hx hb dX3_insert_94 rfl (lv_at hl 2 rfl) ?_
              refine lv_icmp_le (tgt := 118) hx hb dX3_insert_95 (by decide) (fun c_95 => ?_) (fun c_95 => ?_)
              · have hm := it_t hm c_95
                exact K_82 x3 ybul82 (o2 hm) _ _ hP hD hS _ (lv_sub hl [0, 1, 2] rfl)
              · have hm := it_f hm c_95
                refine lv_aload_n hx hb dX3_insert_98 rfl (lv_at hl 1 rfl) ?_
                refine va_get (D := (dC, dI)) (ci := 3) (v := .ref (md 4)) (C := RX3) (T := TX3) (N := 18) hx hb hts ziX3 hown hK hP 0 rfl rfl 8 (by decide) zw2 (fun _ h9 => h9) rfl dX3_insert_99 ?_
                refine lv_iload_n hx hb dX3_insert_102 rfl (lv_at hl 0 rfl) ?_
                refine lv_aload_n hx hb dX3_insert_103 rfl (lv_at hl 1 rfl) ?_
                refine va_get (D := (dC, dI)) (ci := 3) (v := .ref (md 4)) (C := RX3) (T := TX3) (N := 18) hx hb hts ziX3 hown hK hP 0 rfl rfl 8 (by decide) zw2 (fun _ h9 => h9) rfl dX3_insert_104 ?_
                refine lv_iload_n hx hb dX3_insert_107 rfl (lv_at hl 0 rfl) ?_
                refine lv_iconst (v := 1) hx hb dX3_insert_108 (by decide) ?_
                refine lv_isub hx hb dX3_insert_109 ?_
                obtain ⟨c_110, hm⟩ := ck hm
                refine va_iald hx hb hK hP 4 0 rfl rfl c_110 dX3_insert_110 ?_
                obtain ⟨c_111, hm⟩ := ck hm
                refine va_iast hx hb hK hP hD hS 4 0 rfl rfl c_111 dX3_insert_111 (fun H locs hP hD hS => ?_)
                have hP : va_P (dC, dI) vwCl (wM cI cZ md y45 ybd yro yrow ymk yrm yst ypc (upd ybul82 (Int32.toNatClampNeg x3) (ybul82 (Int32.toNatClampNeg (x3 - 1)))) ybn ymg ysp yjn ymd ybg ymm yup yun) H := hP
                have hD : va_D A (wM cI cZ md y45 ybd yro yrow ymk yrm yst ypc (upd ybul82 (Int32.toNatClampNeg x3) (ybul82 (Int32.toNatClampNeg (x3 - 1)))) ybn ymg ysp yjn ymd ybg ymm yup yun) := hD
                obtain ⟨x3_1, e_x3_1⟩ : ∃ y : Int32, y = x3 + (-1) := ⟨_, rfl⟩
                have hm := bnd_e hm e_x3_1
                refine lv_iinc (v := x3_1) (lv' := [(3, .int x3_1), (0, .ref (md 0)), (1, .int p1)]) hx hb dX3_insert_112 hl (k := 0) rfl (by rw [e_x3_1]; rfl) (by decide) rfl (fun ls hl => ?_)
                refine lv_goto (tgt := 82) hx hb dX3_insert_115 (by decide) ?_
                exact ih_82 x3_1 (upd ybul82 (Int32.toNatClampNeg x3) (ybul82 (Int32.toNatClampNeg (x3 - 1)))) hm _ _ hP hD hS _ (lv_sub hl [0, 1, 2] rfl)
        exact L_82 F ybn ybu hq_82 _ _ hP hD hS _ (lv_sub hl [0, 2, 3] rfl)
      · have hm := it_f hm c_58
        refine lv_aload_n hx hb dX3_insert_61 rfl (lv_at hl 1 rfl) ?_
        refine va_get (D := (dC, dI)) (ci := 3) (v := .ref (md 2)) (C := RX3) (T := TX3) (N := 18) hx hb hts ziX3 hown hK hP 0 rfl rfl 4 (by decide) zw4 (fun _ h9 => h9) rfl dX3_insert_62 ?_
        refine lv_aload_n hx hb dX3_insert_65 rfl (lv_at hl 1 rfl) ?_
        refine lv_iload_n hx hb dX3_insert_66 rfl (lv_at hl 2 rfl) ?_
        obtain ⟨r67, h_67, hm⟩ := ob hm
        refine z_callRi (As := [.int p1]) (rest := [.ref (md 2)]) (ci := 3) (q := (RX3, TX3, 18)) ⟨hx, hb, hml, hown, hts⟩ (c_X3_placeOf l dC dI cI cZ md y45 ybd yro yrow ymk yrm yst ypc ybu ybn ymg ysp yjn ymd ybg ymm yup yun F p1 r67 h_67) (cwV 1 hts gX3_insert_X3_placeOf rfl rfl rfl kv_X3_placeOf ⟨Nat.le_of_ble_eq_true rfl, Nat.le_of_ble_eq_true rfl⟩) hK hP rfl rfl rfl rfl hl.1 rfl (Nat.le_of_ble_eq_true rfl) dX3_insert_67 ⟨Nat.zero_le _, Nat.zero_le _⟩ ?_
        refine lv_iconst (v := 0) hx hb dX3_insert_70 (by decide) ?_
        obtain ⟨c_71, hm⟩ := ck hm
        refine va_zast hx hb hK hP hD hS 2 1 rfl rfl c_71 dX3_insert_71 (fun H locs hP hD hS => ?_)
        have hP : va_P (dC, dI) vwCl (wM cI cZ md y45 ybd yro yrow (upd ymk (Int32.toNatClampNeg r67) 0) yrm yst ypc ybu ybn ymg ysp yjn ymd ybg ymm yup yun) H := hP
        have hD : va_D A (wM cI cZ md y45 ybd yro yrow (upd ymk (Int32.toNatClampNeg r67) 0) yrm yst ypc ybu ybn ymg ysp yjn ymd ybg ymm yup yun) := hD
        refine lv_aload_n hx hb dX3_insert_72 rfl (lv_at hl 1 rfl) ?_
        refine va_get (D := (dC, dI)) (ci := 3) (v := .int ybn) (C := RX3) (T := TX3) (N := 18) hx hb hts ziX3 hown hK hP 0 rfl rfl 9 (by decide) zw1 (fun _ h9 => h9) rfl dX3_insert_73 ?_
        cases o2 hm
        exact W.iret hx hb hr (fun t ht hW => ⟨⟨_, (), rfl, rfl, by rw [ht]; exact hP, va_K.moved hW.alike hK, hD⟩, hS.F ht⟩) hS.2.2 dX3_insert_76
    · have hm := it_f hm c_52
      refine lv_iconst (v := 0) hx hb dX3_insert_55 (by decide) ?_
      cases o2 hm
      exact W.iret hx hb hr (fun t ht hW => ⟨⟨_, (), rfl, rfl, by rw [ht]; exact hP, va_K.moved hW.alike hK, hD⟩, hS.F ht⟩) hS.2.2 dX3_insert_56
  have hm := hq_45
  refine lv_if_ne (tgt := 18) hx hb dX3_insert_11 (by decide) (fun c_11 => ?_) (fun c_11 => ?_)
  · have hm := it_f hm c_11
    refine lv_aload_n hx hb dX3_insert_18 rfl (lv_at hl 1 rfl) ?_
    refine lv_iload_n hx hb dX3_insert_19 rfl (lv_at hl 2 rfl) ?_
    obtain ⟨r20, h_20, hm⟩ := ob hm
    refine z_callRi (As := [.int p1]) (rest := [.ref (md 0)]) (ci := 3) (q := (RX3, TX3, 18)) ⟨hx, hb, hml, hown, hts⟩ (c_X3_isThere l dC dI cI cZ md yth ybd yro yrow ymk yrm yst ypc ybu ybn ymg ysp yjn ymd ybg ymm yup yun F p1 r20 h_20) (cwV 1 hts gX3_insert_X3_isThere rfl rfl rfl kv_X3_isThere ⟨Nat.le_of_ble_eq_true rfl, Nat.le_of_ble_eq_true rfl⟩) hK hP rfl rfl rfl rfl hl.1 rfl (Nat.le_of_ble_eq_true rfl) dX3_insert_20 ⟨Nat.zero_le _, Nat.zero_le _⟩ ?_
    refine lv_if_ne (tgt := 40) hx hb dX3_insert_23 (by decide) (fun c_23 => ?_) (fun c_23 => ?_)
    · have hm := it_f hm c_23
      refine lv_iconst (v := 2) hx hb dX3_insert_40 (by decide) ?_
      refine lv_goto (tgt := 45) hx hb dX3_insert_41 (by decide) ?_
      exact J_45 2 (o2 hm)
    · have hm := it_t hm c_23
      refine lv_aload_n hx hb dX3_insert_26 rfl (lv_at hl 1 rfl) ?_
      obtain ⟨r27, h_27, hm⟩ := ob hm
      refine z_callRi (As := []) (rest := [.ref (md 0)]) (ci := 3) (q := (RX3, TX3, 18)) ⟨hx, hb, hml, hown, hts⟩ (c_X3_many l dC dI cI cZ md yth ybd yro yrow ymk yrm yst ypc ybu ybn ymg ysp yjn ymd ybg ymm yup yun F r27 h_27) (cwV 0 hts gX3_insert_X3_many rfl rfl rfl kv_X3_many ⟨Nat.le_of_ble_eq_true rfl, Nat.le_of_ble_eq_true rfl⟩) hK hP rfl rfl rfl rfl hl.1 rfl (Nat.le_of_ble_eq_true rfl) dX3_insert_27 ⟨Nat.zero_le _, Nat.zero_le _⟩ ?_
      refine lv_sipush (v := 256) hx hb dX3_insert_30 (by decide) ?_
      refine lv_icmp_ne (tgt := 44) hx hb dX3_insert_33 (by decide) (fun c_33 => ?_) (fun c_33 => ?_)
      · have hm := it_f hm c_33
        refine lv_iconst (v := 0) hx hb dX3_insert_44 (by decide) ?_
        exact J_45 0 (o2 hm)
      · have hm := it_t hm c_33
        refine lv_iload_n hx hb dX3_insert_36 rfl (lv_at hl 0 rfl) ?_
        refine lv_if_ne (tgt := 44) hx hb dX3_insert_37 (by decide) (fun c_37 => ?_) (fun c_37 => ?_)
        · have hm := it_f hm c_37
          refine lv_iconst (v := 0) hx hb dX3_insert_44 (by decide) ?_
          exact J_45 0 (o2 hm)
        · have hm := it_t hm c_37
          refine lv_iconst (v := 2) hx hb dX3_insert_40 (by decide) ?_
          refine lv_goto (tgt := 45) hx hb dX3_insert_41 (by decide) ?_
          exact J_45 2 (o2 hm)
  · have hm := it_t hm c_11
    refine lv_iconst (v := 1) hx hb dX3_insert_14 (by decide) ?_
    refine lv_goto (tgt := 45) hx hb dX3_insert_15 (by decide) ?_
    exact J_45 1 (o2 hm)
set_option maxHeartbeats 4000000 in
set_option maxRecDepth 100000 in
theorem c_X3_below (l : Launch) (dC : Nat → ClassId) (dI : Nat → Nat → Nat) (cI : ClassId) (cZ : ClassId) (md : Nat → Nat) (yth : Int32) (ybd : Int32) (yro : Int32) (yrow : Nat → Int32) (ymk : Nat → Int32) (yrm : Int32) (yst : Nat → Int32) (ypc : Int32) (ybu : Nat → Int32) (ybn : Int32) (ymg : Int32) (ysp : Int32) (yjn : Int32) (ymd : Nat → Int32) (ybg : Nat → Int32) (ymm : Int32) (yup : Int64) (yun : Int64) (F : Nat) (p1 : Int64) (r : Int32) (hm : X3_below F yrow ymk yrm ybu ybn p1 = some r) : Met l yX3_below wsX3_below ({ frames := 0, cells := 0, slots := 0, locals := 0 }) (va_Pc [.ref (md 0), .long p1] (zR (dC, dI) (wM cI cZ md yth ybd yro yrow ymk yrm yst ypc ybu ybn ymg ysp yjn ymd ybg ymm yup yun) [(cI, .int), (cZ, .boolean)])) (vp_Si (fun v => v = r)) 0 0 (fun _ => False) := by
  refine Met.ofW (cc := cX3_below) (maxL := 5) (ret := (some .int)) (by decide) rfl ?_
  intro p e s m args below meth c s₁ B hml hv
  obtain ⟨rfl, hP, hK⟩ := hv
  have hx := B.exec
  have hb := B.bytes
  have hr := B.returns
  have hts := atoms_spec (ws := wsX3_below) B.pre
  have hown : s.vm.findClass RX3 = some m.cls := findClass_of_methodNamed B.named
  have hlocks := B.notSynchronized
  have hl := lv_entry ([.ref (md 0), .long p1]) (n := 5) (Nat.le_of_ble_eq_true rfl)
  rw [lg_entry_eq]
  generalize (lg_sl ([.ref (md 0), .long p1]) ++ List.replicate (5 - (lg_sl ([.ref (md 0), .long p1])).length) Slot.unset).toArray = ls at hl ⊢
  have hl : lv_has ls 5 [(0, .ref (md 0)), (1, .long p1)] := hl
  have zw0 := hts (.fieldLink RX3 51 "LearnedLedgeModel" "rowMany" "I") (by decide +kernel)
  have zw1 := hts (.fieldLink RX3 20 "LearnedLedgeModel" "isMarked" "[Z") (by decide +kernel)
  have zw2 := hts (.fieldLink RX3 16 "LearnedLedgeModel" "row" "[I") (by decide +kernel)
  have zw3 := hts (.fieldLink RX3 69 "LearnedLedgeModel" "buffered" "I") (by decide +kernel)
  have zw4 := hts (.fieldLink RX3 27 "LearnedLedgeModel" "buffer" "[I") (by decide +kernel)
  have ziX3 : ∀ w ∈ u_ws RX3 TX3 18, w ∈ wsX3_below := by decide +kernel
  refine lv_iconst (v := 0) hx hb dX3_below_0 (by decide) ?_
  refine lv_istore_n (lv' := [(3, .int 0), (0, .ref (md 0)), (1, .long p1)]) hx hb dX3_below_1 rfl hl (by decide) rfl (fun ls hl => ?_)
  refine lv_iconst (v := 0) hx hb dX3_below_2 (by decide) ?_
  refine lv_istore (lv' := [(4, .int 0), (3, .int 0), (0, .ref (md 0)), (1, .long p1)]) hx hb dX3_below_3 hl (by decide) rfl (fun ls hl => ?_)
  obtain ⟨z_5, hq_5, hm⟩ := ob hm
  have K_5 : ∀ (x3_4 : Int32), z_5 = x3_4 → ∀ (ls : Array Slot), lv_has ls 5 [(3, .int x3_4), (0, .ref (md 0)), (1, .long p1)] → W p l e (headSpec wsX3_below ({ frames := 0, cells := 0, slots := 0, locals := 0 } : Room)).room s m ([.ref (md 0), .long p1] : List Value).toArray below meth c s.heap [] 0 0 (MQ below (vp_Si (fun v => v = r)) ([.ref (md 0), .long p1] : List Value).toArray s 0 0 (fun _ => False)) (F0 m 51 ls []) := by
    intro x3_4 ez ls hl
    rw [ez] at hm
    refine lv_iconst (v := 0) hx hb dX3_below_51 (by decide) ?_
    refine lv_istore (lv' := [(4, .int 0), (3, .int x3_4), (0, .ref (md 0)), (1, .long p1)]) hx hb dX3_below_52 hl (by decide) rfl (fun ls hl => ?_)
    obtain ⟨z_54, hq_54, hm⟩ := ob hm
    have K_54 : ∀ (x3_8 : Int32), z_54 = x3_8 → ∀ (ls : Array Slot), lv_has ls 5 [(3, .int x3_8)] → W p l e (headSpec wsX3_below ({ frames := 0, cells := 0, slots := 0, locals := 0 } : Room)).room s m ([.ref (md 0), .long p1] : List Value).toArray below meth c s.heap [] 0 0 (MQ below (vp_Si (fun v => v = r)) ([.ref (md 0), .long p1] : List Value).toArray s 0 0 (fun _ => False)) (F0 m 90 ls []) := by
      intro x3_8 ez ls hl
      rw [ez] at hm
      refine lv_iload_n hx hb dX3_below_90 rfl (lv_at hl 0 rfl) ?_
      exact W.iret hx hb hr (fun t ht hW => ⟨_, rfl, (o2 hm).symm, ht⟩) (fun q h => absurd h List.not_mem_nil) dX3_below_91
    have L_54 : ∀ (n : Nat) (x4_4 : Int32) (x3_5 : Int32), X3_below_L54 p1 ybu ybn n x4_4 x3_5 = some z_54 → ∀ (ls : Array Slot), lv_has ls 5 [(4, .int x4_4), (3, .int x3_5), (0, .ref (md 0)), (1, .long p1)] → W p l e (headSpec wsX3_below ({ frames := 0, cells := 0, slots := 0, locals := 0 } : Room)).room s m ([.ref (md 0), .long p1] : List Value).toArray below meth c s.heap [] 0 0 (MQ below (vp_Si (fun v => v = r)) ([.ref (md 0), .long p1] : List Value).toArray s 0 0 (fun _ => False)) (F0 m 54 ls []) := by
      intro n
      induction n with
      | zero => intro x4_4 x3_5 hm; cases hm
      | succ n ih_54 =>
        intro x4_4 x3_5 hm ls hl
        refine lv_iload hx hb dX3_below_54 (lv_at hl 0 rfl) ?_
        refine lv_aload_n hx hb dX3_below_56 rfl (lv_at hl 2 rfl) ?_
        refine va_get (D := (dC, dI)) (ci := 3) (v := .int ybn) (C := RX3) (T := TX3) (N := 18) hx hb hts ziX3 hown hK hP 0 rfl rfl 9 (by decide) zw3 (fun _ h9 => h9) rfl dX3_below_57 ?_
        refine lv_icmp_ge (tgt := 90) hx hb dX3_below_60 (by decide) (fun c_60 => ?_) (fun c_60 => ?_)
        · have hm := it_t hm c_60
          exact K_54 x3_5 (o2 hm) _ (lv_sub hl [1] rfl)
        · have hm := it_f hm c_60
          refine lv_iload_n hx hb dX3_below_63 rfl (lv_at hl 1 rfl) ?_
          refine lv_aload_n hx hb dX3_below_64 rfl (lv_at hl 2 rfl) ?_
          refine va_get (D := (dC, dI)) (ci := 3) (v := .ref (md 4)) (C := RX3) (T := TX3) (N := 18) hx hb hts ziX3 hown hK hP 0 rfl rfl 8 (by decide) zw4 (fun _ h9 => h9) rfl dX3_below_65 ?_
          refine lv_iload hx hb dX3_below_68 (lv_at hl 0 rfl) ?_
          obtain ⟨c_70, hm⟩ := ck hm
          refine va_iald hx hb hK hP 4 0 rfl rfl c_70 dX3_below_70 ?_
          refine lv_i2l hx hb dX3_below_71 rfl ?_
          refine lv_lload_n hx hb dX3_below_72 rfl (lv_at hl 3 rfl) ?_
          refine W.lcmp hx hb dX3_below_73 ?_
          refine lv_if_ge (tgt := 81) hx hb dX3_below_74 (by decide) (fun c_74 => ?_) (fun c_74 => ?_)
          · have c_74 : p1 ≤ (Int32.toInt64 (ybu (Int32.toNatClampNeg x4_4))) := (lg_cmp_ge _ _).mp c_74
            have hm := it_t hm c_74
            refine lv_iconst (v := 0) hx hb dX3_below_81 (by decide) ?_
            refine lv_iadd hx hb dX3_below_82 ?_
            refine lv_topi (fun x3_6 e_x3_6 => ?_)
            have hm := bnd_e hm e_x3_6
            refine lv_istore_n (lv' := [(3, .int x3_6), (4, .int x4_4), (0, .ref (md 0)), (1, .long p1)]) hx hb dX3_below_83 rfl hl (by decide) rfl (fun ls hl => ?_)
            obtain ⟨x4_5, e_x4_5⟩ : ∃ y : Int32, y = x4_4 + 1 := ⟨_, rfl⟩
            have hm := bnd_e hm e_x4_5
            refine lv_iinc (v := x4_5) (lv' := [(4, .int x4_5), (3, .int x3_6), (0, .ref (md 0)), (1, .long p1)]) hx hb dX3_below_84 hl (k := 1) rfl (by rw [e_x4_5]; rfl) (by decide) rfl (fun ls hl => ?_)
            refine lv_goto (tgt := 54) hx hb dX3_below_87 (by decide) ?_
            exact ih_54 x4_5 x3_6 hm _ (lv_sub hl [0, 1, 2, 3] rfl)
          · have c_74 : ¬ (p1 ≤ (Int32.toInt64 (ybu (Int32.toNatClampNeg x4_4)))) := fun h => c_74 ((lg_cmp_ge _ _).mpr h)
            have hm := it_f hm c_74
            refine lv_iconst (v := 1) hx hb dX3_below_77 (by decide) ?_
            refine lv_goto (tgt := 82) hx hb dX3_below_78 (by decide) ?_
            refine lv_iadd hx hb dX3_below_82 ?_
            refine lv_topi (fun x3_7 e_x3_7 => ?_)
            have hm := bnd_e hm e_x3_7
            refine lv_istore_n (lv' := [(3, .int x3_7), (4, .int x4_4), (0, .ref (md 0)), (1, .long p1)]) hx hb dX3_below_83 rfl hl (by decide) rfl (fun ls hl => ?_)
            obtain ⟨x4_6, e_x4_6⟩ : ∃ y : Int32, y = x4_4 + 1 := ⟨_, rfl⟩
            have hm := bnd_e hm e_x4_6
            refine lv_iinc (v := x4_6) (lv' := [(4, .int x4_6), (3, .int x3_7), (0, .ref (md 0)), (1, .long p1)]) hx hb dX3_below_84 hl (k := 1) rfl (by rw [e_x4_6]; rfl) (by decide) rfl (fun ls hl => ?_)
            refine lv_goto (tgt := 54) hx hb dX3_below_87 (by decide) ?_
            exact ih_54 x4_6 x3_7 hm _ (lv_sub hl [0, 1, 2, 3] rfl)
    exact L_54 F 0 x3_4 hq_54 _ (lv_sub hl [0, 1, 2, 3] rfl)
  have L_5 : ∀ (n : Nat) (x4 : Int32) (x3 : Int32), X3_below_L5 p1 yrow ymk yrm n x4 x3 = some z_5 → ∀ (ls : Array Slot), lv_has ls 5 [(4, .int x4), (3, .int x3), (0, .ref (md 0)), (1, .long p1)] → W p l e (headSpec wsX3_below ({ frames := 0, cells := 0, slots := 0, locals := 0 } : Room)).room s m ([.ref (md 0), .long p1] : List Value).toArray below meth c s.heap [] 0 0 (MQ below (vp_Si (fun v => v = r)) ([.ref (md 0), .long p1] : List Value).toArray s 0 0 (fun _ => False)) (F0 m 5 ls []) := by
    intro n
    induction n with
    | zero => intro x4 x3 hm; cases hm
    | succ n ih_5 =>
      intro x4 x3 hm ls hl
      refine lv_iload hx hb dX3_below_5 (lv_at hl 0 rfl) ?_
      refine lv_aload_n hx hb dX3_below_7 rfl (lv_at hl 2 rfl) ?_
      refine va_get (D := (dC, dI)) (ci := 3) (v := .int yrm) (C := RX3) (T := TX3) (N := 18) hx hb hts ziX3 hown hK hP 0 rfl rfl 5 (by decide) zw0 (fun _ h9 => h9) rfl dX3_below_8 ?_
      refine lv_icmp_ge (tgt := 51) hx hb dX3_below_11 (by decide) (fun c_11 => ?_) (fun c_11 => ?_)
      · have hm := it_t hm c_11
        exact K_5 x3 (o2 hm) _ (lv_sub hl [1, 2, 3] rfl)
      · have hm := it_f hm c_11
        refine lv_iload_n hx hb dX3_below_14 rfl (lv_at hl 1 rfl) ?_
        refine lv_aload_n hx hb dX3_below_15 rfl (lv_at hl 2 rfl) ?_
        refine va_get (D := (dC, dI)) (ci := 3) (v := .ref (md 2)) (C := RX3) (T := TX3) (N := 18) hx hb hts ziX3 hown hK hP 0 rfl rfl 4 (by decide) zw1 (fun _ h9 => h9) rfl dX3_below_16 ?_
        refine lv_iload hx hb dX3_below_19 (lv_at hl 0 rfl) ?_
        obtain ⟨c_21, hm⟩ := ck hm
        refine va_zald hx hb hK hP 2 1 rfl rfl c_21 dX3_below_21 ?_
        refine lv_if_ne (tgt := 42) hx hb dX3_below_22 (by decide) (fun c_22 => ?_) (fun c_22 => ?_)
        · have hm := it_f hm c_22
          refine lv_iconst (v := 0) hx hb dX3_below_42 (by decide) ?_
          refine lv_iadd hx hb dX3_below_43 ?_
          refine lv_topi (fun x3_1 e_x3_1 => ?_)
          have hm := bnd_e hm e_x3_1
          refine lv_istore_n (lv' := [(3, .int x3_1), (4, .int x4), (0, .ref (md 0)), (1, .long p1)]) hx hb dX3_below_44 rfl hl (by decide) rfl (fun ls hl => ?_)
          obtain ⟨x4_1, e_x4_1⟩ : ∃ y : Int32, y = x4 + 1 := ⟨_, rfl⟩
          have hm := bnd_e hm e_x4_1
          refine lv_iinc (v := x4_1) (lv' := [(4, .int x4_1), (3, .int x3_1), (0, .ref (md 0)), (1, .long p1)]) hx hb dX3_below_45 hl (k := 1) rfl (by rw [e_x4_1]; rfl) (by decide) rfl (fun ls hl => ?_)
          refine lv_goto (tgt := 5) hx hb dX3_below_48 (by decide) ?_
          exact ih_5 x4_1 x3_1 hm _ (lv_sub hl [0, 1, 2, 3] rfl)
        · have hm := it_t hm c_22
          refine lv_aload_n hx hb dX3_below_25 rfl (lv_at hl 2 rfl) ?_
          refine va_get (D := (dC, dI)) (ci := 3) (v := .ref (md 1)) (C := RX3) (T := TX3) (N := 18) hx hb hts ziX3 hown hK hP 0 rfl rfl 3 (by decide) zw2 (fun _ h9 => h9) rfl dX3_below_26 ?_
          refine lv_iload hx hb dX3_below_29 (lv_at hl 0 rfl) ?_
          obtain ⟨c_31, hm⟩ := ck hm
          refine va_iald hx hb hK hP 1 0 rfl rfl c_31 dX3_below_31 ?_
          refine lv_i2l hx hb dX3_below_32 rfl ?_
          refine lv_lload_n hx hb dX3_below_33 rfl (lv_at hl 3 rfl) ?_
          refine W.lcmp hx hb dX3_below_34 ?_
          refine lv_if_ge (tgt := 42) hx hb dX3_below_35 (by decide) (fun c_35 => ?_) (fun c_35 => ?_)
          · have c_35 : p1 ≤ (Int32.toInt64 (yrow (Int32.toNatClampNeg x4))) := (lg_cmp_ge _ _).mp c_35
            have hm := it_t hm c_35
            refine lv_iconst (v := 0) hx hb dX3_below_42 (by decide) ?_
            refine lv_iadd hx hb dX3_below_43 ?_
            refine lv_topi (fun x3_2 e_x3_2 => ?_)
            have hm := bnd_e hm e_x3_2
            refine lv_istore_n (lv' := [(3, .int x3_2), (4, .int x4), (0, .ref (md 0)), (1, .long p1)]) hx hb dX3_below_44 rfl hl (by decide) rfl (fun ls hl => ?_)
            obtain ⟨x4_2, e_x4_2⟩ : ∃ y : Int32, y = x4 + 1 := ⟨_, rfl⟩
            have hm := bnd_e hm e_x4_2
            refine lv_iinc (v := x4_2) (lv' := [(4, .int x4_2), (3, .int x3_2), (0, .ref (md 0)), (1, .long p1)]) hx hb dX3_below_45 hl (k := 1) rfl (by rw [e_x4_2]; rfl) (by decide) rfl (fun ls hl => ?_)
            refine lv_goto (tgt := 5) hx hb dX3_below_48 (by decide) ?_
            exact ih_5 x4_2 x3_2 hm _ (lv_sub hl [0, 1, 2, 3] rfl)
          · have c_35 : ¬ (p1 ≤ (Int32.toInt64 (yrow (Int32.toNatClampNeg x4)))) := fun h => c_35 ((lg_cmp_ge _ _).mpr h)
            have hm := it_f hm c_35
            refine lv_iconst (v := 1) hx hb dX3_below_38 (by decide) ?_
            refine lv_goto (tgt := 43) hx hb dX3_below_39 (by decide) ?_
            refine lv_iadd hx hb dX3_below_43 ?_
            refine lv_topi (fun x3_3 e_x3_3 => ?_)
            have hm := bnd_e hm e_x3_3
            refine lv_istore_n (lv' := [(3, .int x3_3), (4, .int x4), (0, .ref (md 0)), (1, .long p1)]) hx hb dX3_below_44 rfl hl (by decide) rfl (fun ls hl => ?_)
            obtain ⟨x4_3, e_x4_3⟩ : ∃ y : Int32, y = x4 + 1 := ⟨_, rfl⟩
            have hm := bnd_e hm e_x4_3
            refine lv_iinc (v := x4_3) (lv' := [(4, .int x4_3), (3, .int x3_3), (0, .ref (md 0)), (1, .long p1)]) hx hb dX3_below_45 hl (k := 1) rfl (by rw [e_x4_3]; rfl) (by decide) rfl (fun ls hl => ?_)
            refine lv_goto (tgt := 5) hx hb dX3_below_48 (by decide) ?_
            exact ih_5 x4_3 x3_3 hm _ (lv_sub hl [0, 1, 2, 3] rfl)
  exact L_5 F 0 0 hq_5 _ (lv_sub hl [0, 1, 2, 3] rfl)
set_option maxHeartbeats 4000000 in
set_option maxRecDepth 100000 in
theorem c_X3_keys (l : Launch) (dC : Nat → ClassId) (dI : Nat → Nat → Nat) (cI : ClassId) (cZ : ClassId) (md : Nat → Nat) (yth : Int32) (ybd : Int32) (yro : Int32) (yrow : Nat → Int32) (ymk : Nat → Int32) (yrm : Int32) (yst : Nat → Int32) (ypc : Int32) (ybu : Nat → Int32) (ybn : Int32) (ymg : Int32) (ysp : Int32) (yjn : Int32) (ymd : Nat → Int32) (ybg : Nat → Int32) (ymm : Int32) (yup : Int64) (yun : Int64) (F : Nat) (r : Int32) (hm : X3_keys F yrow ymk yrm ybu ybn = some r) : Met l yX3_keys wsX3_keys ({ frames := 1, cells := 0, slots := 0, locals := 24 }) (va_Pc [.ref (md 0)] (zR (dC, dI) (wM cI cZ md yth ybd yro yrow ymk yrm yst ypc ybu ybn ymg ysp yjn ymd ybg ymm yup yun) [(cI, .int), (cZ, .boolean)])) (vp_Si (fun v => v = r)) 0 0 (fun _ => False) := by
  refine Met.ofW (cc := cX3_keys) (maxL := 1) (ret := (some .int)) (by decide) rfl ?_
  intro p e s m args below meth c s₁ B hml hv
  obtain ⟨rfl, hP, hK⟩ := hv
  have hx := B.exec
  have hb := B.bytes
  have hr := B.returns
  have hts := atoms_spec (ws := wsX3_keys) B.pre
  have hown : s.vm.findClass RX3 = some m.cls := findClass_of_methodNamed B.named
  have hlocks := B.notSynchronized
  have hl := lv_entry ([.ref (md 0)]) (n := 1) (Nat.le_of_ble_eq_true rfl)
  rw [lg_entry_eq]
  generalize (lg_sl ([.ref (md 0)]) ++ List.replicate (1 - (lg_sl ([.ref (md 0)])).length) Slot.unset).toArray = ls at hl ⊢
  have hl : lv_has ls 1 [(0, .ref (md 0))] := hl
  have zw0 := hts (.constantLong RX3 133 (1000001)) (by decide +kernel)
  refine lv_aload_n hx hb dX3_keys_0 rfl (lv_at hl 0 rfl) ?_
  refine lv_ldc2 hx hb hown zw0 dX3_keys_1 ?_
  obtain ⟨r4, h_4, hm⟩ := ob hm
  refine z_callRi (As := [.long 1000001]) (rest := []) (ci := 3) (q := (RX3, TX3, 18)) ⟨hx, hb, hml, hown, hts⟩ (c_X3_below l dC dI cI cZ md yth ybd yro yrow ymk yrm yst ypc ybu ybn ymg ysp yjn ymd ybg ymm yup yun F 1000001 r4 h_4) (cwV 1 hts gX3_keys_X3_below rfl rfl rfl kv_X3_below ⟨Nat.le_of_ble_eq_true rfl, Nat.le_of_ble_eq_true rfl⟩) hK hP rfl rfl rfl rfl hl.1 rfl (Nat.le_of_ble_eq_true rfl) dX3_keys_4 ⟨Nat.zero_le _, Nat.zero_le _⟩ ?_
  exact W.iret hx hb hr (fun t ht hW => ⟨_, rfl, (o2 hm).symm, ht⟩) (fun q h => absurd h List.not_mem_nil) dX3_keys_7
set_option maxHeartbeats 4000000 in
set_option maxRecDepth 100000 in
theorem c_X3_remove (l : Launch) (dC : Nat → ClassId) (dI : Nat → Nat → Nat) (cI : ClassId) (cZ : ClassId) (md : Nat → Nat) (yth : Int32) (ybd : Int32) (yro : Int32) (yrow : Nat → Int32) (ymk : Nat → Int32) (yrm : Int32) (yst : Nat → Int32) (ypc : Int32) (ybu : Nat → Int32) (ybn : Int32) (ymg : Int32) (ysp : Int32) (yjn : Int32) (ymd : Nat → Int32) (ybg : Nat → Int32) (ymm : Int32) (yup : Int64) (yun : Int64) (F : Nat) (p1 : Int32) (sz : Nat) (r : Int32) (u_yth : Int32) (u_ymk : Nat → Int32) (u_ybu : Nat → Int32) (u_ybn : Int32) (hm : X3_remove F yth yrow ymk yrm ybu ybn p1 = some (r, u_yth, u_ymk, u_ybu, u_ybn)) : Met l yX3_remove wsX3_remove ({ frames := 3, cells := 0, slots := 0, locals := 65 }) (va_Pc [.ref (md 0), .int p1] (zW (dC, dI) (wM cI cZ md yth ybd yro yrow ymk yrm yst ypc ybu ybn ymg ysp yjn ymd ybg ymm yup yun) [(cI, .int), (cZ, .boolean)] sz)) (zQi (dC, dI) (wM cI cZ md u_yth ybd yro yrow u_ymk yrm yst ypc u_ybu u_ybn ymg ysp yjn ymd ybg ymm yup yun) [(cI, .int), (cZ, .boolean)] (va_A (wM cI cZ md yth ybd yro yrow ymk yrm yst ypc ybu ybn ymg ysp yjn ymd ybg ymm yup yun) sz) r) 0 0 (va_A (wM cI cZ md yth ybd yro yrow ymk yrm yst ypc ybu ybn ymg ysp yjn ymd ybg ymm yup yun) sz) := by
  refine Met.ofW (cc := cX3_remove) (maxL := 4) (ret := (some .int)) (by decide) rfl ?_
  intro p e s m args below meth c s₁ B hml hv
  obtain ⟨rfl, hsz, hP, hK, hD0⟩ := hv
  have hx := B.exec
  have hb := B.bytes
  have hr := B.returns
  have hts := atoms_spec (ws := wsX3_remove) B.pre
  have hown : s.vm.findClass RX3 = some m.cls := findClass_of_methodNamed B.named
  have hlocks := B.notSynchronized
  subst hsz
  have hD := hD0.self (sz := s.heap.size)
  generalize hAe : va_A (wM cI cZ md yth ybd yro yrow ymk yrm yst ypc ybu ybn ymg ysp yjn ymd ybg ymm yup yun) s.heap.size = A at hD ⊢
  have hA : ∀ q : Nat, s.heap.size ≤ q → A q := fun q h => by rw [← hAe]; exact Or.inr h
  have hS : va_S A s.heap s.heap [] := va_S.rf
  generalize eL : ([] : List Loc) = locs at hS ⊢
  obtain ⟨H, eH⟩ : ∃ z : Heap, z = s.heap := ⟨_, rfl⟩
  have hP : va_P (dC, dI) vwCl (wM cI cZ md yth ybd yro yrow ymk yrm yst ypc ybu ybn ymg ysp yjn ymd ybg ymm yup yun) H := by rw [eH]; exact hP
  have hS : va_S A s.heap H locs := by rw [eH]; exact hS
  refine z_heap eH ?_
  have hl := lv_entry ([.ref (md 0), .int p1]) (n := 4) (Nat.le_of_ble_eq_true rfl)
  rw [lg_entry_eq]
  generalize (lg_sl ([.ref (md 0), .int p1]) ++ List.replicate (4 - (lg_sl ([.ref (md 0), .int p1])).length) Slot.unset).toArray = ls at hl ⊢
  have hl : lv_has ls 4 [(0, .ref (md 0)), (1, .int p1)] := hl
  have zw0 := hts (.fieldLink RX3 36 "LearnedLedgeModel" "thrown" "I") (by decide +kernel)
  have zw1 := hts (.fieldLink RX3 69 "LearnedLedgeModel" "buffered" "I") (by decide +kernel)
  have zw2 := hts (.fieldLink RX3 27 "LearnedLedgeModel" "buffer" "[I") (by decide +kernel)
  have zw3 := hts (.fieldLink RX3 20 "LearnedLedgeModel" "isMarked" "[Z") (by decide +kernel)
  have ziX3 : ∀ w ∈ u_ws RX3 TX3 18, w ∈ wsX3_remove := by decide +kernel
  refine lv_aload_n hx hb dX3_remove_0 rfl (lv_at hl 0 rfl) ?_
  refine lv_aload_n hx hb dX3_remove_1 rfl (lv_at hl 0 rfl) ?_
  refine lv_iload_n hx hb dX3_remove_2 rfl (lv_at hl 1 rfl) ?_
  obtain ⟨r3, h_3, hm⟩ := ob hm
  refine z_callRi (As := [.int p1]) (rest := [.ref (md 0)]) (ci := 3) (q := (RX3, TX3, 18)) ⟨hx, hb, hml, hown, hts⟩ (c_X3_isThere l dC dI cI cZ md yth ybd yro yrow ymk yrm yst ypc ybu ybn ymg ysp yjn ymd ybg ymm yup yun F p1 r3 h_3) (cwV 1 hts gX3_remove_X3_isThere rfl rfl rfl kv_X3_isThere ⟨Nat.le_of_ble_eq_true rfl, Nat.le_of_ble_eq_true rfl⟩) hK hP rfl rfl rfl rfl hl.1 rfl (Nat.le_of_ble_eq_true rfl) dX3_remove_3 ⟨Nat.zero_le _, Nat.zero_le _⟩ ?_
  obtain ⟨y14, e_y14⟩ : ∃ y : Int32, y = (if r3 = 0 then 1 else 0) := ⟨_, rfl⟩
  have hm := bnd_e hm e_y14
  have J_14 : W p l e (headSpec wsX3_remove ({ frames := 3, cells := 0, slots := 0, locals := 65 } : Room)).room s m ([.ref (md 0), .int p1] : List Value).toArray below meth c H locs 0 0 (MQ below (zQi (dC, dI) (wM cI cZ md u_yth ybd yro yrow u_ymk yrm yst ypc u_ybu u_ybn ymg ysp yjn ymd ybg ymm yup yun) [(cI, .int), (cZ, .boolean)] A r) ([.ref (md 0), .int p1] : List Value).toArray s 0 0 A) (F0 m 14 ls [.int y14, .ref (md 0)]) := by
    refine va_put (D := (dC, dI)) (ci := 3) (v := .int y14) (ty := .int) (C := RX3) (T := TX3) (N := 18) hx hb hts ziX3 tyX3 tyX3_ok nmX3 hown hK hP hD hS 0 rfl rfl 0 (by decide) zw0 (fun _ h9 => h9) rfl (by decide +kernel) rfl rfl (Nat.le_of_ble_eq_true rfl) dX3_remove_14 (fun H locs hP hD hS => ?_)
    have hP : va_P (dC, dI) vwCl (wM cI cZ md y14 ybd yro yrow ymk yrm yst ypc ybu ybn ymg ysp yjn ymd ybg ymm yup yun) H := hP
    have hD : va_D A (wM cI cZ md y14 ybd yro yrow ymk yrm yst ypc ybu ybn ymg ysp yjn ymd ybg ymm yup yun) := hD
    refine lv_aload_n hx hb dX3_remove_17 rfl (lv_at hl 0 rfl) ?_
    refine va_get (D := (dC, dI)) (ci := 3) (v := .int y14) (C := RX3) (T := TX3) (N := 18) hx hb hts ziX3 hown hK hP 0 rfl rfl 0 (by decide) zw0 (fun _ h9 => h9) rfl dX3_remove_18 ?_
    refine lv_if_le (tgt := 26) hx hb dX3_remove_21 (by decide) (fun c_21 => ?_) (fun c_21 => ?_)
    · have hm := it_t hm c_21
      refine lv_aload_n hx hb dX3_remove_26 rfl (lv_at hl 0 rfl) ?_
      refine lv_iload_n hx hb dX3_remove_27 rfl (lv_at hl 1 rfl) ?_
      obtain ⟨r28, h_28, hm⟩ := ob hm
      refine z_callRi (As := [.int p1]) (rest := []) (ci := 3) (q := (RX3, TX3, 18)) ⟨hx, hb, hml, hown, hts⟩ (c_X3_isBuffered l dC dI cI cZ md y14 ybd yro yrow ymk yrm yst ypc ybu ybn ymg ysp yjn ymd ybg ymm yup yun F p1 r28 h_28) (cwV 1 hts gX3_remove_X3_isBuffered rfl rfl rfl kv_X3_isBuffered ⟨Nat.le_of_ble_eq_true rfl, Nat.le_of_ble_eq_true rfl⟩) hK hP rfl rfl rfl rfl hl.1 rfl (Nat.le_of_ble_eq_true rfl) dX3_remove_28 ⟨Nat.zero_le _, Nat.zero_le _⟩ ?_
      refine lv_if_ne (tgt := 50) hx hb dX3_remove_31 (by decide) (fun c_31 => ?_) (fun c_31 => ?_)
      · have hm := it_f hm c_31
        refine lv_iconst (v := 0) hx hb dX3_remove_50 (by decide) ?_
        refine lv_istore_n (lv' := [(2, .int 0), (0, .ref (md 0)), (1, .int p1)]) hx hb dX3_remove_51 rfl hl (by decide) rfl (fun ls hl => ?_)
        refine lv_iconst (v := 0) hx hb dX3_remove_52 (by decide) ?_
        refine lv_istore_n (lv' := [(3, .int 0), (2, .int 0), (0, .ref (md 0)), (1, .int p1)]) hx hb dX3_remove_53 rfl hl (by decide) rfl (fun ls hl => ?_)
        obtain ⟨z_54, hq_54, hm⟩ := ob hm
        have K_54 : ∀ (x2_2 : Int32), ∀ (ybux54 : Nat → Int32), z_54 = (x2_2, ybux54) → ∀ (H : Heap) (locs : List Loc), va_P (dC, dI) vwCl (wM cI cZ md y14 ybd yro yrow ymk yrm yst ypc ybux54 ybn ymg ysp yjn ymd ybg ymm yup yun) H → va_D A (wM cI cZ md y14 ybd yro yrow ymk yrm yst ypc ybux54 ybn ymg ysp yjn ymd ybg ymm yup yun) → va_S A s.heap H locs → ∀ (ls : Array Slot), lv_has ls 4 [(2, .int x2_2), (0, .ref (md 0))] → W p l e (headSpec wsX3_remove ({ frames := 3, cells := 0, slots := 0, locals := 65 } : Room)).room s m ([.ref (md 0), .int p1] : List Value).toArray below meth c H locs 0 0 (MQ below (zQi (dC, dI) (wM cI cZ md u_yth ybd yro yrow u_ymk yrm yst ypc u_ybu u_ybn ymg ysp yjn ymd ybg ymm yup yun) [(cI, .int), (cZ, .boolean)] A r) ([.ref (md 0), .int p1] : List Value).toArray s 0 0 A) (F0 m 93 ls []) := by
          intro x2_2 ybux54 ez H locs hP hD hS ls hl
          rw [ez] at hm
          refine lv_aload_n hx hb dX3_remove_93 rfl (lv_at hl 1 rfl) ?_
          refine lv_iload_n hx hb dX3_remove_94 rfl (lv_at hl 0 rfl) ?_
          refine va_put (D := (dC, dI)) (ci := 3) (v := .int x2_2) (ty := .int) (C := RX3) (T := TX3) (N := 18) hx hb hts ziX3 tyX3 tyX3_ok nmX3 hown hK hP hD hS 0 rfl rfl 9 (by decide) zw1 (fun _ h9 => h9) rfl (by decide +kernel) rfl rfl (Nat.le_of_ble_eq_true rfl) dX3_remove_95 (fun H locs hP hD hS => ?_)
          have hP : va_P (dC, dI) vwCl (wM cI cZ md y14 ybd yro yrow ymk yrm yst ypc ybux54 x2_2 ymg ysp yjn ymd ybg ymm yup yun) H := hP
          have hD : va_D A (wM cI cZ md y14 ybd yro yrow ymk yrm yst ypc ybux54 x2_2 ymg ysp yjn ymd ybg ymm yup yun) := hD
          refine lv_aload_n hx hb dX3_remove_98 rfl (lv_at hl 1 rfl) ?_
          obtain ⟨r99, h_99, hm⟩ := ob hm
          refine z_callRi (As := []) (rest := []) (ci := 3) (q := (RX3, TX3, 18)) ⟨hx, hb, hml, hown, hts⟩ (c_X3_keys l dC dI cI cZ md y14 ybd yro yrow ymk yrm yst ypc ybux54 x2_2 ymg ysp yjn ymd ybg ymm yup yun F r99 h_99) (cwV 0 hts gX3_remove_X3_keys rfl rfl rfl kv_X3_keys ⟨Nat.le_of_ble_eq_true rfl, Nat.le_of_ble_eq_true rfl⟩) hK hP rfl rfl rfl rfl hl.1 rfl (Nat.le_of_ble_eq_true rfl) dX3_remove_99 ⟨Nat.zero_le _, Nat.zero_le _⟩ ?_
          cases o2 hm
          exact W.iret hx hb hr (fun t ht hW => ⟨⟨_, (), rfl, rfl, by rw [ht]; exact hP, va_K.moved hW.alike hK, hD⟩, hS.F ht⟩) hS.2.2 dX3_remove_102
        have L_54 : ∀ (n : Nat) (x3 : Int32) (x2 : Int32) (ybul54 : Nat → Int32), X3_remove_L54 p1 ybn n x3 x2 ybul54 = some z_54 → ∀ (H : Heap) (locs : List Loc), va_P (dC, dI) vwCl (wM cI cZ md y14 ybd yro yrow ymk yrm yst ypc ybul54 ybn ymg ysp yjn ymd ybg ymm yup yun) H → va_D A (wM cI cZ md y14 ybd yro yrow ymk yrm yst ypc ybul54 ybn ymg ysp yjn ymd ybg ymm yup yun) → va_S A s.heap H locs → ∀ (ls : Array Slot), lv_has ls 4 [(3, .int x3), (2, .int x2), (0, .ref (md 0)), (1, .int p1)] → W p l e (headSpec wsX3_remove ({ frames := 3, cells := 0, slots := 0, locals := 65 } : Room)).room s m ([.ref (md 0), .int p1] : List Value).toArray below meth c H locs 0 0 (MQ below (zQi (dC, dI) (wM cI cZ md u_yth ybd yro yrow u_ymk yrm yst ypc u_ybu u_ybn ymg ysp yjn ymd ybg ymm yup yun) [(cI, .int), (cZ, .boolean)] A r) ([.ref (md 0), .int p1] : List Value).toArray s 0 0 A) (F0 m 54 ls []) := by
          intro n
          induction n with
          | zero => intro x3 x2 ybul54 hm; cases hm
          | succ n ih_54 =>
            intro x3 x2 ybul54 hm H locs hP hD hS ls hl
            refine lv_iload_n hx hb dX3_remove_54 rfl (lv_at hl 0 rfl) ?_
            refine lv_aload_n hx hb dX3_remove_55 rfl (lv_at hl 2 rfl) ?_
            refine va_get (D := (dC, dI)) (ci := 3) (v := .int ybn) (C := RX3) (T := TX3) (N := 18) hx hb hts ziX3 hown hK hP 0 rfl rfl 9 (by decide) zw1 (fun _ h9 => h9) rfl dX3_remove_56 ?_
            refine lv_icmp_ge (tgt := 93) hx hb dX3_remove_59 (by decide) (fun c_59 => ?_) (fun c_59 => ?_)
            · have hm := it_t hm c_59
              exact K_54 x2 ybul54 (o2 hm) _ _ hP hD hS _ (lv_sub hl [1, 2] rfl)
            · have hm := it_f hm c_59
              refine lv_aload_n hx hb dX3_remove_62 rfl (lv_at hl 2 rfl) ?_
              refine va_get (D := (dC, dI)) (ci := 3) (v := .ref (md 4)) (C := RX3) (T := TX3) (N := 18) hx hb hts ziX3 hown hK hP 0 rfl rfl 8 (by decide) zw2 (fun _ h9 => h9) rfl dX3_remove_63 ?_
              refine lv_iload_n hx hb dX3_remove_66 rfl (lv_at hl 0 rfl) ?_
              obtain ⟨c_67, hm⟩ := ck hm
              refine va_iald hx hb hK hP 4 0 rfl rfl c_67 dX3_remove_67 ?_
              refine lv_iload_n hx hb dX3_remove_68 rfl (lv_at hl 3 rfl) ?_
              refine lv_icmp_eq (tgt := 87) hx hb dX3_remove_69 (by decide) (fun c_69 => ?_) (fun c_69 => ?_)
              · have hm := it_t hm c_69
                obtain ⟨x3_1, e_x3_1⟩ : ∃ y : Int32, y = x3 + 1 := ⟨_, rfl⟩
                have hm := bnd_e hm e_x3_1
                refine lv_iinc (v := x3_1) (lv' := [(3, .int x3_1), (2, .int x2), (0, .ref (md 0)), (1, .int p1)]) hx hb dX3_remove_87 hl (k := 0) rfl (by rw [e_x3_1]; rfl) (by decide) rfl (fun ls hl => ?_)
                refine lv_goto (tgt := 54) hx hb dX3_remove_90 (by decide) ?_
                exact ih_54 x3_1 x2 ybul54 hm _ _ hP hD hS _ (lv_sub hl [0, 1, 2, 3] rfl)
              · have hm := it_f hm c_69
                refine lv_aload_n hx hb dX3_remove_72 rfl (lv_at hl 2 rfl) ?_
                refine va_get (D := (dC, dI)) (ci := 3) (v := .ref (md 4)) (C := RX3) (T := TX3) (N := 18) hx hb hts ziX3 hown hK hP 0 rfl rfl 8 (by decide) zw2 (fun _ h9 => h9) rfl dX3_remove_73 ?_
                refine lv_iload_n hx hb dX3_remove_76 rfl (lv_at hl 1 rfl) ?_
                refine lv_aload_n hx hb dX3_remove_77 rfl (lv_at hl 2 rfl) ?_
                refine va_get (D := (dC, dI)) (ci := 3) (v := .ref (md 4)) (C := RX3) (T := TX3) (N := 18) hx hb hts ziX3 hown hK hP 0 rfl rfl 8 (by decide) zw2 (fun _ h9 => h9) rfl dX3_remove_78 ?_
                refine lv_iload_n hx hb dX3_remove_81 rfl (lv_at hl 0 rfl) ?_
                obtain ⟨c_82, hm⟩ := ck hm
                refine va_iald hx hb hK hP 4 0 rfl rfl c_82 dX3_remove_82 ?_
                obtain ⟨c_83, hm⟩ := ck hm
                refine va_iast hx hb hK hP hD hS 4 0 rfl rfl c_83 dX3_remove_83 (fun H locs hP hD hS => ?_)
                have hP : va_P (dC, dI) vwCl (wM cI cZ md y14 ybd yro yrow ymk yrm yst ypc (upd ybul54 (Int32.toNatClampNeg x2) (ybul54 (Int32.toNatClampNeg x3))) ybn ymg ysp yjn ymd ybg ymm yup yun) H := hP
                have hD : va_D A (wM cI cZ md y14 ybd yro yrow ymk yrm yst ypc (upd ybul54 (Int32.toNatClampNeg x2) (ybul54 (Int32.toNatClampNeg x3))) ybn ymg ysp yjn ymd ybg ymm yup yun) := hD
                obtain ⟨x2_1, e_x2_1⟩ : ∃ y : Int32, y = x2 + 1 := ⟨_, rfl⟩
                have hm := bnd_e hm e_x2_1
                refine lv_iinc (v := x2_1) (lv' := [(2, .int x2_1), (3, .int x3), (0, .ref (md 0)), (1, .int p1)]) hx hb dX3_remove_84 hl (k := 1) rfl (by rw [e_x2_1]; rfl) (by decide) rfl (fun ls hl => ?_)
                obtain ⟨x3_2, e_x3_2⟩ : ∃ y : Int32, y = x3 + 1 := ⟨_, rfl⟩
                have hm := bnd_e hm e_x3_2
                refine lv_iinc (v := x3_2) (lv' := [(3, .int x3_2), (2, .int x2_1), (0, .ref (md 0)), (1, .int p1)]) hx hb dX3_remove_87 hl (k := 1) rfl (by rw [e_x3_2]; rfl) (by decide) rfl (fun ls hl => ?_)
                refine lv_goto (tgt := 54) hx hb dX3_remove_90 (by decide) ?_
                exact ih_54 x3_2 x2_1 (upd ybul54 (Int32.toNatClampNeg x2) (ybul54 (Int32.toNatClampNeg x3))) hm _ _ hP hD hS _ (lv_sub hl [0, 1, 2, 3] rfl)
        exact L_54 F 0 0 ybu hq_54 _ _ hP hD hS _ (lv_sub hl [0, 1, 2, 3] rfl)
      · have hm := it_t hm c_31
        refine lv_aload_n hx hb dX3_remove_34 rfl (lv_at hl 0 rfl) ?_
        refine va_get (D := (dC, dI)) (ci := 3) (v := .ref (md 2)) (C := RX3) (T := TX3) (N := 18) hx hb hts ziX3 hown hK hP 0 rfl rfl 4 (by decide) zw3 (fun _ h9 => h9) rfl dX3_remove_35 ?_
        refine lv_aload_n hx hb dX3_remove_38 rfl (lv_at hl 0 rfl) ?_
        refine lv_iload_n hx hb dX3_remove_39 rfl (lv_at hl 1 rfl) ?_
        obtain ⟨r40, h_40, hm⟩ := ob hm
        refine z_callRi (As := [.int p1]) (rest := [.ref (md 2)]) (ci := 3) (q := (RX3, TX3, 18)) ⟨hx, hb, hml, hown, hts⟩ (c_X3_placeOf l dC dI cI cZ md y14 ybd yro yrow ymk yrm yst ypc ybu ybn ymg ysp yjn ymd ybg ymm yup yun F p1 r40 h_40) (cwV 1 hts gX3_remove_X3_placeOf rfl rfl rfl kv_X3_placeOf ⟨Nat.le_of_ble_eq_true rfl, Nat.le_of_ble_eq_true rfl⟩) hK hP rfl rfl rfl rfl hl.1 rfl (Nat.le_of_ble_eq_true rfl) dX3_remove_40 ⟨Nat.zero_le _, Nat.zero_le _⟩ ?_
        refine lv_iconst (v := 1) hx hb dX3_remove_43 (by decide) ?_
        obtain ⟨c_44, hm⟩ := ck hm
        refine va_zast hx hb hK hP hD hS 2 1 rfl rfl c_44 dX3_remove_44 (fun H locs hP hD hS => ?_)
        have hP : va_P (dC, dI) vwCl (wM cI cZ md y14 ybd yro yrow (upd ymk (Int32.toNatClampNeg r40) 1) yrm yst ypc ybu ybn ymg ysp yjn ymd ybg ymm yup yun) H := hP
        have hD : va_D A (wM cI cZ md y14 ybd yro yrow (upd ymk (Int32.toNatClampNeg r40) 1) yrm yst ypc ybu ybn ymg ysp yjn ymd ybg ymm yup yun) := hD
        refine lv_aload_n hx hb dX3_remove_45 rfl (lv_at hl 0 rfl) ?_
        obtain ⟨r46, h_46, hm⟩ := ob hm
        refine z_callRi (As := []) (rest := []) (ci := 3) (q := (RX3, TX3, 18)) ⟨hx, hb, hml, hown, hts⟩ (c_X3_keys l dC dI cI cZ md y14 ybd yro yrow (upd ymk (Int32.toNatClampNeg r40) 1) yrm yst ypc ybu ybn ymg ysp yjn ymd ybg ymm yup yun F r46 h_46) (cwV 0 hts gX3_remove_X3_keys rfl rfl rfl kv_X3_keys ⟨Nat.le_of_ble_eq_true rfl, Nat.le_of_ble_eq_true rfl⟩) hK hP rfl rfl rfl rfl hl.1 rfl (Nat.le_of_ble_eq_true rfl) dX3_remove_46 ⟨Nat.zero_le _, Nat.zero_le _⟩ ?_
        cases o2 hm
        exact W.iret hx hb hr (fun t ht hW => ⟨⟨_, (), rfl, rfl, by rw [ht]; exact hP, va_K.moved hW.alike hK, hD⟩, hS.F ht⟩) hS.2.2 dX3_remove_49
    · have hm := it_f hm c_21
      refine lv_iconst (v := 0) hx hb dX3_remove_24 (by decide) ?_
      cases o2 hm
      exact W.iret hx hb hr (fun t ht hW => ⟨⟨_, (), rfl, rfl, by rw [ht]; exact hP, va_K.moved hW.alike hK, hD⟩, hS.F ht⟩) hS.2.2 dX3_remove_25
  refine lv_if_eq (tgt := 13) hx hb dX3_remove_6 (by decide) (fun c_6 => ?_) (fun c_6 => ?_)
  · refine lv_iconst (v := 1) hx hb dX3_remove_13 (by decide) ?_
    have e9 : y14 = 1 := by rw [e_y14, if_pos c_6]
    rw [e9] at J_14
    exact J_14
  · refine lv_iconst (v := 0) hx hb dX3_remove_9 (by decide) ?_
    refine lv_goto (tgt := 14) hx hb dX3_remove_10 (by decide) ?_
    have e9 : y14 = 0 := by rw [e_y14, if_neg c_6]
    rw [e9] at J_14
    exact J_14
set_option maxHeartbeats 4000000 in
set_option maxRecDepth 100000 in
theorem c_X3_merge (l : Launch) (dC : Nat → ClassId) (dI : Nat → Nat → Nat) (cI : ClassId) (cZ : ClassId) (md : Nat → Nat) (yth : Int32) (ybd : Int32) (yro : Int32) (yrow : Nat → Int32) (ymk : Nat → Int32) (yrm : Int32) (yst : Nat → Int32) (ypc : Int32) (ybu : Nat → Int32) (ybn : Int32) (ymg : Int32) (ysp : Int32) (yjn : Int32) (ymd : Nat → Int32) (ybg : Nat → Int32) (ymm : Int32) (yup : Int64) (yun : Int64) (F : Nat) (sz : Nat) (r : Int32) (u_yth : Int32) (u_yrow : Nat → Int32) (u_ymk : Nat → Int32) (u_yrm : Int32) (u_yst : Nat → Int32) (u_ypc : Int32) (u_ybn : Int32) (u_ymg : Int32) (u_ysp : Int32) (u_yjn : Int32) (u_ymd : Nat → Int32) (u_ybg : Nat → Int32) (u_ymm : Int32) (u_yup : Int64) (u_yun : Int64) (hm : X3_merge F yth ybd yrow ymk yrm yst ypc ybu ybn ymg ysp yjn ymd ybg ymm yup yun = some (r, u_yth, u_yrow, u_ymk, u_yrm, u_yst, u_ypc, u_ybn, u_ymg, u_ysp, u_yjn, u_ymd, u_ybg, u_ymm, u_yup, u_yun)) : Met l yX3_merge wsX3_merge ({ frames := 3, cells := 0, slots := 0, locals := 81 }) (va_Pc [.ref (md 0)] (zW (dC, dI) (wM cI cZ md yth ybd yro yrow ymk yrm yst ypc ybu ybn ymg ysp yjn ymd ybg ymm yup yun) [(cI, .int), (cZ, .boolean)] sz)) (zQi (dC, dI) (wM cI cZ md u_yth ybd yro u_yrow u_ymk u_yrm u_yst u_ypc ybu u_ybn u_ymg u_ysp u_yjn u_ymd u_ybg u_ymm u_yup u_yun) [(cI, .int), (cZ, .boolean)] (va_A (wM cI cZ md yth ybd yro yrow ymk yrm yst ypc ybu ybn ymg ysp yjn ymd ybg ymm yup yun) sz) r) 0 0 (va_A (wM cI cZ md yth ybd yro yrow ymk yrm yst ypc ybu ybn ymg ysp yjn ymd ybg ymm yup yun) sz) := by
  refine Met.ofW (cc := cX3_merge) (maxL := 1) (ret := (some .int)) (by decide) rfl ?_
  intro p e s m args below meth c s₁ B hml hv
  obtain ⟨rfl, hsz, hP, hK, hD0⟩ := hv
  have hx := B.exec
  have hb := B.bytes
  have hr := B.returns
  have hts := atoms_spec (ws := wsX3_merge) B.pre
  have hown : s.vm.findClass RX3 = some m.cls := findClass_of_methodNamed B.named
  have hlocks := B.notSynchronized
  subst hsz
  have hD := hD0.self (sz := s.heap.size)
  generalize hAe : va_A (wM cI cZ md yth ybd yro yrow ymk yrm yst ypc ybu ybn ymg ysp yjn ymd ybg ymm yup yun) s.heap.size = A at hD ⊢
  have hA : ∀ q : Nat, s.heap.size ≤ q → A q := fun q h => by rw [← hAe]; exact Or.inr h
  have hS : va_S A s.heap s.heap [] := va_S.rf
  generalize eL : ([] : List Loc) = locs at hS ⊢
  obtain ⟨H, eH⟩ : ∃ z : Heap, z = s.heap := ⟨_, rfl⟩
  have hP : va_P (dC, dI) vwCl (wM cI cZ md yth ybd yro yrow ymk yrm yst ypc ybu ybn ymg ysp yjn ymd ybg ymm yup yun) H := by rw [eH]; exact hP
  have hS : va_S A s.heap H locs := by rw [eH]; exact hS
  refine z_heap eH ?_
  have hl := lv_entry ([.ref (md 0)]) (n := 1) (Nat.le_of_ble_eq_true rfl)
  rw [lg_entry_eq]
  generalize (lg_sl ([.ref (md 0)]) ++ List.replicate (1 - (lg_sl ([.ref (md 0)])).length) Slot.unset).toArray = ls at hl ⊢
  have hl : lv_has ls 1 [(0, .ref (md 0))] := hl
  have zw0 := hts (.fieldLink RX3 36 "LearnedLedgeModel" "thrown" "I") (by decide +kernel)
  have zw1 := hts (.fieldLink RX3 48 "LearnedLedgeModel" "pieces" "I") (by decide +kernel)
  have ziX3 : ∀ w ∈ u_ws RX3 TX3 18, w ∈ wsX3_merge := by decide +kernel
  refine lv_aload_n hx hb dX3_merge_0 rfl (lv_at hl 0 rfl) ?_
  refine lv_iconst (v := 0) hx hb dX3_merge_1 (by decide) ?_
  refine va_put (D := (dC, dI)) (ci := 3) (v := .int 0) (ty := .int) (C := RX3) (T := TX3) (N := 18) hx hb hts ziX3 tyX3 tyX3_ok nmX3 hown hK hP hD hS 0 rfl rfl 0 (by decide) zw0 (fun _ h9 => h9) rfl (by decide +kernel) rfl rfl (Nat.le_of_ble_eq_true rfl) dX3_merge_2 (fun H locs hP hD hS => ?_)
  have hP : va_P (dC, dI) vwCl (wM cI cZ md 0 ybd yro yrow ymk yrm yst ypc ybu ybn ymg ysp yjn ymd ybg ymm yup yun) H := hP
  have hD : va_D A (wM cI cZ md 0 ybd yro yrow ymk yrm yst ypc ybu ybn ymg ysp yjn ymd ybg ymm yup yun) := hD
  refine lv_aload_n hx hb dX3_merge_5 rfl (lv_at hl 0 rfl) ?_
  obtain ⟨⟨yrow6, ymk6, yrm6, yst6, ypc6, ybn6, ymg6, ysp6, yjn6, ymd6, ybg6, ymm6, yup6, yun6⟩, h_6, hm⟩ := ob hm
  refine z_callWv (wc := (wM cI cZ md 0 ybd yro yrow ymk yrm yst ypc ybu ybn ymg ysp yjn ymd ybg ymm yup yun)) (w1 := (wM cI cZ md 0 ybd yro yrow6 ymk6 yrm6 yst6 ypc6 ybu ybn6 ymg6 ysp6 yjn6 ymd6 ybg6 ymm6 yup6 yun6)) (ws := (wM cI cZ md 0 ybd yro yrow ymk yrm yst ypc ybu ybn ymg ysp yjn ymd ybg ymm yup yun)) (ws' := (wM cI cZ md 0 ybd yro yrow6 ymk6 yrm6 yst6 ypc6 ybu ybn6 ymg6 ysp6 yjn6 ymd6 ybg6 ymm6 yup6 yun6)) [0, 1, 2, 3, 4, 5, 6] [] 7 (As := []) (rest := []) (ci := 3) (q := (RX3, TX3, 18)) ⟨hx, hb, hml, hown, hts⟩ (c_X3_mergesAll l dC dI cI cZ md 0 ybd yro yrow ymk yrm yst ypc ybu ybn ymg ysp yjn ymd ybg ymm yup yun F H.size yrow6 ymk6 yrm6 yst6 ypc6 ybn6 ymg6 ysp6 yjn6 ymd6 ybg6 ymm6 yup6 yun6 h_6) (cwV 0 hts gX3_merge_X3_mergesAll rfl rfl rfl kv_X3_mergesAll ⟨Nat.le_of_ble_eq_true rfl, Nat.le_of_ble_eq_true rfl⟩) hK hP hD hS hA hP hD rfl rfl (by decide) rfl rfl (by decide) rfl rfl rfl rfl rfl hl.1 rfl (Nat.le_of_ble_eq_true rfl) dX3_merge_6 ⟨Nat.zero_le _, Nat.zero_le _⟩ (fun H locs hP hD hS => ?_)
  refine lv_aload_n hx hb dX3_merge_9 rfl (lv_at hl 0 rfl) ?_
  refine va_get (D := (dC, dI)) (ci := 3) (v := .int ypc6) (C := RX3) (T := TX3) (N := 18) hx hb hts ziX3 hown hK hP 0 rfl rfl 7 (by decide) zw1 (fun _ h9 => h9) rfl dX3_merge_10 ?_
  cases o2 hm
  exact W.iret hx hb hr (fun t ht hW => ⟨⟨_, (), rfl, rfl, by rw [ht]; exact hP, va_K.moved hW.alike hK, hD⟩, hS.F ht⟩) hS.2.2 dX3_merge_13
set_option maxHeartbeats 4000000 in
set_option maxRecDepth 100000 in
theorem c_X3_rebuild (l : Launch) (dC : Nat → ClassId) (dI : Nat → Nat → Nat) (cI : ClassId) (cZ : ClassId) (md : Nat → Nat) (yth : Int32) (ybd : Int32) (yro : Int32) (yrow : Nat → Int32) (ymk : Nat → Int32) (yrm : Int32) (yst : Nat → Int32) (ypc : Int32) (ybu : Nat → Int32) (ybn : Int32) (ymg : Int32) (ysp : Int32) (yjn : Int32) (ymd : Nat → Int32) (ybg : Nat → Int32) (ymm : Int32) (yup : Int64) (yun : Int64) (F : Nat) (p1 : Int32) (p2 : Int32) (sz : Nat) (r : Int32) (u_yth : Int32) (u_ybd : Int32) (u_yro : Int32) (u_yrow : Nat → Int32) (u_ymk : Nat → Int32) (u_yrm : Int32) (u_yst : Nat → Int32) (u_ypc : Int32) (u_ybn : Int32) (u_ymd : Nat → Int32) (u_ybg : Nat → Int32) (u_ymm : Int32) (u_yup : Int64) (u_yun : Int64) (hm : X3_rebuild F yth ybd yro yrow ymk yrm yst ypc ybu ybn ymd ybg ymm yup yun p1 p2 = some (r, u_yth, u_ybd, u_yro, u_yrow, u_ymk, u_yrm, u_yst, u_ypc, u_ybn, u_ymd, u_ybg, u_ymm, u_yup, u_yun)) : Met l yX3_rebuild wsX3_rebuild ({ frames := 2, cells := 0, slots := 0, locals := 56 }) (va_Pc [.ref (md 0), .int p1, .int p2] (zW (dC, dI) (wM cI cZ md yth ybd yro yrow ymk yrm yst ypc ybu ybn ymg ysp yjn ymd ybg ymm yup yun) [(cI, .int), (cZ, .boolean)] sz)) (zQi (dC, dI) (wM cI cZ md u_yth u_ybd u_yro u_yrow u_ymk u_yrm u_yst u_ypc ybu u_ybn ymg ysp yjn u_ymd u_ybg u_ymm u_yup u_yun) [(cI, .int), (cZ, .boolean)] (va_A (wM cI cZ md yth ybd yro yrow ymk yrm yst ypc ybu ybn ymg ysp yjn ymd ybg ymm yup yun) sz) r) 0 0 (va_A (wM cI cZ md yth ybd yro yrow ymk yrm yst ypc ybu ybn ymg ysp yjn ymd ybg ymm yup yun) sz) := by
  refine Met.ofW (cc := cX3_rebuild) (maxL := 4) (ret := (some .int)) (by decide) rfl ?_
  intro p e s m args below meth c s₁ B hml hv
  obtain ⟨rfl, hsz, hP, hK, hD0⟩ := hv
  have hx := B.exec
  have hb := B.bytes
  have hr := B.returns
  have hts := atoms_spec (ws := wsX3_rebuild) B.pre
  have hown : s.vm.findClass RX3 = some m.cls := findClass_of_methodNamed B.named
  have hlocks := B.notSynchronized
  subst hsz
  have hD := hD0.self (sz := s.heap.size)
  generalize hAe : va_A (wM cI cZ md yth ybd yro yrow ymk yrm yst ypc ybu ybn ymg ysp yjn ymd ybg ymm yup yun) s.heap.size = A at hD ⊢
  have hA : ∀ q : Nat, s.heap.size ≤ q → A q := fun q h => by rw [← hAe]; exact Or.inr h
  have hS : va_S A s.heap s.heap [] := va_S.rf
  generalize eL : ([] : List Loc) = locs at hS ⊢
  obtain ⟨H, eH⟩ : ∃ z : Heap, z = s.heap := ⟨_, rfl⟩
  have hP : va_P (dC, dI) vwCl (wM cI cZ md yth ybd yro yrow ymk yrm yst ypc ybu ybn ymg ysp yjn ymd ybg ymm yup yun) H := by rw [eH]; exact hP
  have hS : va_S A s.heap H locs := by rw [eH]; exact hS
  refine z_heap eH ?_
  have hl := lv_entry ([.ref (md 0), .int p1, .int p2]) (n := 4) (Nat.le_of_ble_eq_true rfl)
  rw [lg_entry_eq]
  generalize (lg_sl ([.ref (md 0), .int p1, .int p2]) ++ List.replicate (4 - (lg_sl ([.ref (md 0), .int p1, .int p2])).length) Slot.unset).toArray = ls at hl ⊢
  have hl : lv_has ls 4 [(0, .ref (md 0)), (1, .int p1), (2, .int p2)] := hl
  have zw0 := hts (.fieldLink RX3 36 "LearnedLedgeModel" "thrown" "I") (by decide +kernel)
  have zw1 := hts (.fieldLink RX3 7 "LearnedLedgeModel" "bound" "I") (by decide +kernel)
  have zw2 := hts (.fieldLink RX3 13 "LearnedLedgeModel" "room" "I") (by decide +kernel)
  have zw3 := hts (.fieldLink RX3 102 "LearnedLedgeModel" "madeMany" "I") (by decide +kernel)
  have zw4 := hts (.fieldLink RX3 51 "LearnedLedgeModel" "rowMany" "I") (by decide +kernel)
  have zw5 := hts (.fieldLink RX3 20 "LearnedLedgeModel" "isMarked" "[Z") (by decide +kernel)
  have zw6 := hts (.fieldLink RX3 16 "LearnedLedgeModel" "row" "[I") (by decide +kernel)
  have zw7 := hts (.fieldLink RX3 69 "LearnedLedgeModel" "buffered" "I") (by decide +kernel)
  have zw8 := hts (.fieldLink RX3 27 "LearnedLedgeModel" "buffer" "[I") (by decide +kernel)
  have zw9 := hts (.fieldLink RX3 48 "LearnedLedgeModel" "pieces" "I") (by decide +kernel)
  have ziX3 : ∀ w ∈ u_ws RX3 TX3 18, w ∈ wsX3_rebuild := by decide +kernel
  refine lv_aload_n hx hb dX3_rebuild_0 rfl (lv_at hl 0 rfl) ?_
  refine lv_iload_n hx hb dX3_rebuild_1 rfl (lv_at hl 1 rfl) ?_
  obtain ⟨y27, e_y27⟩ : ∃ y : Int32, y = (if p1 < 0 then 1 else (if 20 < p1 then 1 else (if p2 < 1 then 1 else (if p2 ≤ 16 then 0 else 1)))) := ⟨_, rfl⟩
  have hm := bnd_e hm e_y27
  have J_27 : W p l e (headSpec wsX3_rebuild ({ frames := 2, cells := 0, slots := 0, locals := 56 } : Room)).room s m ([.ref (md 0), .int p1, .int p2] : List Value).toArray below meth c H locs 0 0 (MQ below (zQi (dC, dI) (wM cI cZ md u_yth u_ybd u_yro u_yrow u_ymk u_yrm u_yst u_ypc ybu u_ybn ymg ysp yjn u_ymd u_ybg u_ymm u_yup u_yun) [(cI, .int), (cZ, .boolean)] A r) ([.ref (md 0), .int p1, .int p2] : List Value).toArray s 0 0 A) (F0 m 27 ls [.int y27, .ref (md 0)]) := by
    refine va_put (D := (dC, dI)) (ci := 3) (v := .int y27) (ty := .int) (C := RX3) (T := TX3) (N := 18) hx hb hts ziX3 tyX3 tyX3_ok nmX3 hown hK hP hD hS 0 rfl rfl 0 (by decide) zw0 (fun _ h9 => h9) rfl (by decide +kernel) rfl rfl (Nat.le_of_ble_eq_true rfl) dX3_rebuild_27 (fun H locs hP hD hS => ?_)
    have hP : va_P (dC, dI) vwCl (wM cI cZ md y27 ybd yro yrow ymk yrm yst ypc ybu ybn ymg ysp yjn ymd ybg ymm yup yun) H := hP
    have hD : va_D A (wM cI cZ md y27 ybd yro yrow ymk yrm yst ypc ybu ybn ymg ysp yjn ymd ybg ymm yup yun) := hD
    refine lv_aload_n hx hb dX3_rebuild_30 rfl (lv_at hl 0 rfl) ?_
    refine va_get (D := (dC, dI)) (ci := 3) (v := .int y27) (C := RX3) (T := TX3) (N := 18) hx hb hts ziX3 hown hK hP 0 rfl rfl 0 (by decide) zw0 (fun _ h9 => h9) rfl dX3_rebuild_31 ?_
    refine lv_if_le (tgt := 39) hx hb dX3_rebuild_34 (by decide) (fun c_34 => ?_) (fun c_34 => ?_)
    · have hm := it_t hm c_34
      refine lv_aload_n hx hb dX3_rebuild_39 rfl (lv_at hl 0 rfl) ?_
      refine lv_iload_n hx hb dX3_rebuild_40 rfl (lv_at hl 1 rfl) ?_
      refine va_put (D := (dC, dI)) (ci := 3) (v := .int p1) (ty := .int) (C := RX3) (T := TX3) (N := 18) hx hb hts ziX3 tyX3 tyX3_ok nmX3 hown hK hP hD hS 0 rfl rfl 1 (by decide) zw1 (fun _ h9 => h9) rfl (by decide +kernel) rfl rfl (Nat.le_of_ble_eq_true rfl) dX3_rebuild_41 (fun H locs hP hD hS => ?_)
      have hP : va_P (dC, dI) vwCl (wM cI cZ md y27 p1 yro yrow ymk yrm yst ypc ybu ybn ymg ysp yjn ymd ybg ymm yup yun) H := hP
      have hD : va_D A (wM cI cZ md y27 p1 yro yrow ymk yrm yst ypc ybu ybn ymg ysp yjn ymd ybg ymm yup yun) := hD
      refine lv_aload_n hx hb dX3_rebuild_44 rfl (lv_at hl 0 rfl) ?_
      refine lv_iload_n hx hb dX3_rebuild_45 rfl (lv_at hl 2 rfl) ?_
      refine va_put (D := (dC, dI)) (ci := 3) (v := .int p2) (ty := .int) (C := RX3) (T := TX3) (N := 18) hx hb hts ziX3 tyX3 tyX3_ok nmX3 hown hK hP hD hS 0 rfl rfl 2 (by decide) zw2 (fun _ h9 => h9) rfl (by decide +kernel) rfl rfl (Nat.le_of_ble_eq_true rfl) dX3_rebuild_46 (fun H locs hP hD hS => ?_)
      have hP : va_P (dC, dI) vwCl (wM cI cZ md y27 p1 p2 yrow ymk yrm yst ypc ybu ybn ymg ysp yjn ymd ybg ymm yup yun) H := hP
      have hD : va_D A (wM cI cZ md y27 p1 p2 yrow ymk yrm yst ypc ybu ybn ymg ysp yjn ymd ybg ymm yup yun) := hD
      refine lv_aload_n hx hb dX3_rebuild_49 rfl (lv_at hl 0 rfl) ?_
      refine lv_iconst (v := 0) hx hb dX3_rebuild_50 (by decide) ?_
      refine va_put (D := (dC, dI)) (ci := 3) (v := .int 0) (ty := .int) (C := RX3) (T := TX3) (N := 18) hx hb hts ziX3 tyX3 tyX3_ok nmX3 hown hK hP hD hS 0 rfl rfl 15 (by decide) zw3 (fun _ h9 => h9) rfl (by decide +kernel) rfl rfl (Nat.le_of_ble_eq_true rfl) dX3_rebuild_51 (fun H locs hP hD hS => ?_)
      have hP : va_P (dC, dI) vwCl (wM cI cZ md y27 p1 p2 yrow ymk yrm yst ypc ybu ybn ymg ysp yjn ymd ybg 0 yup yun) H := hP
      have hD : va_D A (wM cI cZ md y27 p1 p2 yrow ymk yrm yst ypc ybu ybn ymg ysp yjn ymd ybg 0 yup yun) := hD
      refine lv_iconst (v := 0) hx hb dX3_rebuild_54 (by decide) ?_
      refine lv_istore_n (lv' := [(3, .int 0), (0, .ref (md 0)), (1, .int p1), (2, .int p2)]) hx hb dX3_rebuild_55 rfl hl (by decide) rfl (fun ls hl => ?_)
      obtain ⟨z_56, hq_56, hm⟩ := ob hm
      have K_56 : ∀ (ymdx56 : Nat → Int32), ∀ (ymmx56 : Int32), z_56 = (ymdx56, ymmx56) → ∀ (H : Heap) (locs : List Loc), va_P (dC, dI) vwCl (wM cI cZ md y27 p1 p2 yrow ymk yrm yst ypc ybu ybn ymg ysp yjn ymdx56 ybg ymmx56 yup yun) H → va_D A (wM cI cZ md y27 p1 p2 yrow ymk yrm yst ypc ybu ybn ymg ysp yjn ymdx56 ybg ymmx56 yup yun) → va_S A s.heap H locs → ∀ (ls : Array Slot), lv_has ls 4 [(0, .ref (md 0))] → W p l e (headSpec wsX3_rebuild ({ frames := 2, cells := 0, slots := 0, locals := 56 } : Room)).room s m ([.ref (md 0), .int p1, .int p2] : List Value).toArray below meth c H locs 0 0 (MQ below (zQi (dC, dI) (wM cI cZ md u_yth u_ybd u_yro u_yrow u_ymk u_yrm u_yst u_ypc ybu u_ybn ymg ysp yjn u_ymd u_ybg u_ymm u_yup u_yun) [(cI, .int), (cZ, .boolean)] A r) ([.ref (md 0), .int p1, .int p2] : List Value).toArray s 0 0 A) (F0 m 89 ls []) := by
        intro ymdx56 ymmx56 ez H locs hP hD hS ls hl
        rw [ez] at hm
        refine lv_iconst (v := 0) hx hb dX3_rebuild_89 (by decide) ?_
        refine lv_istore_n (lv' := [(3, .int 0), (0, .ref (md 0))]) hx hb dX3_rebuild_90 rfl hl (by decide) rfl (fun ls hl => ?_)
        obtain ⟨z_91, hq_91, hm⟩ := ob hm
        have K_91 : ∀ (ymdx91 : Nat → Int32), ∀ (ymmx91 : Int32), z_91 = (ymdx91, ymmx91) → ∀ (H : Heap) (locs : List Loc), va_P (dC, dI) vwCl (wM cI cZ md y27 p1 p2 yrow ymk yrm yst ypc ybu ybn ymg ysp yjn ymdx91 ybg ymmx91 yup yun) H → va_D A (wM cI cZ md y27 p1 p2 yrow ymk yrm yst ypc ybu ybn ymg ysp yjn ymdx91 ybg ymmx91 yup yun) → va_S A s.heap H locs → ∀ (ls : Array Slot), lv_has ls 4 [(0, .ref (md 0))] → W p l e (headSpec wsX3_rebuild ({ frames := 2, cells := 0, slots := 0, locals := 56 } : Room)).room s m ([.ref (md 0), .int p1, .int p2] : List Value).toArray below meth c H locs 0 0 (MQ below (zQi (dC, dI) (wM cI cZ md u_yth u_ybd u_yro u_yrow u_ymk u_yrm u_yst u_ypc ybu u_ybn ymg ysp yjn u_ymd u_ybg u_ymm u_yup u_yun) [(cI, .int), (cZ, .boolean)] A r) ([.ref (md 0), .int p1, .int p2] : List Value).toArray s 0 0 A) (F0 m 115 ls []) := by
          intro ymdx91 ymmx91 ez H locs hP hD hS ls hl
          rw [ez] at hm
          refine lv_aload_n hx hb dX3_rebuild_115 rfl (lv_at hl 0 rfl) ?_
          refine lv_aload_n hx hb dX3_rebuild_116 rfl (lv_at hl 0 rfl) ?_
          refine lv_iconst (v := 0) hx hb dX3_rebuild_117 (by decide) ?_
          refine lv_iconst (v := 0) hx hb dX3_rebuild_118 (by decide) ?_
          obtain ⟨⟨r119, ybg119, yup119, yun119⟩, h_119, hm⟩ := ob hm
          refine z_callWi (wc := (wM cI cZ md y27 p1 p2 yrow ymk yrm yst ypc ybu ybn ymg ysp yjn ymdx91 ybg ymmx91 yup yun)) (w1 := (wM cI cZ md y27 p1 p2 yrow ymk yrm yst ypc ybu ybn ymg ysp yjn ymdx91 ybg119 ymmx91 yup119 yun119)) (ws := (wM cI cZ md y27 p1 p2 yrow ymk yrm yst ypc ybu ybn ymg ysp yjn ymdx91 ybg ymmx91 yup yun)) (ws' := (wM cI cZ md y27 p1 p2 yrow ymk yrm yst ypc ybu ybn ymg ysp yjn ymdx91 ybg119 ymmx91 yup119 yun119)) [0, 1, 2, 3, 4, 5, 6] [] 7 (As := [.int 0, .int 0]) (rest := [.ref (md 0)]) (ci := 3) (q := (RX3, TX3, 18)) ⟨hx, hb, hml, hown, hts⟩ (c_X3_cuts l dC dI cI cZ md y27 p1 p2 yrow ymk yrm yst ypc ybu ybn ymg ysp yjn ymdx91 ybg ymmx91 yup yun F 0 0 H.size r119 ybg119 yup119 yun119 h_119) (cwV 2 hts gX3_rebuild_X3_cuts rfl rfl rfl kv_X3_cuts ⟨Nat.le_of_ble_eq_true rfl, Nat.le_of_ble_eq_true rfl⟩) hK hP hD hS hA hP hD rfl rfl (by decide) rfl rfl (by decide) rfl rfl rfl rfl rfl hl.1 rfl (Nat.le_of_ble_eq_true rfl) dX3_rebuild_119 ⟨Nat.zero_le _, Nat.zero_le _⟩ (fun H locs hP hD hS => ?_)
          obtain ⟨⟨yrow122, ymk122, yrm122, yst122, ypc122, ybn122⟩, h_122, hm⟩ := ob hm
          refine z_callWv (wc := (wM cI cZ md y27 p1 p2 yrow ymk yrm yst ypc ybu ybn ymg ysp yjn ymdx91 ybg119 ymmx91 yup119 yun119)) (w1 := (wM cI cZ md y27 p1 p2 yrow122 ymk122 yrm122 yst122 ypc122 ybu ybn122 ymg ysp yjn ymdx91 ybg119 ymmx91 yup119 yun119)) (ws := (wM cI cZ md y27 p1 p2 yrow ymk yrm yst ypc ybu ybn ymg ysp yjn ymdx91 ybg119 ymmx91 yup119 yun119)) (ws' := (wM cI cZ md y27 p1 p2 yrow122 ymk122 yrm122 yst122 ypc122 ybu ybn122 ymg ysp yjn ymdx91 ybg119 ymmx91 yup119 yun119)) [0, 1, 2, 3, 4, 5, 6] [] 7 (As := [.int r119]) (rest := []) (ci := 3) (q := (RX3, TX3, 18)) ⟨hx, hb, hml, hown, hts⟩ (c_X3_becomes l dC dI cI cZ md y27 p1 p2 yrow ymk yrm yst ypc ybu ybn ymg ysp yjn ymdx91 ybg119 ymmx91 yup119 yun119 F r119 H.size yrow122 ymk122 yrm122 yst122 ypc122 ybn122 h_122) (cwV 1 hts gX3_rebuild_X3_becomes rfl rfl rfl kv_X3_becomes ⟨Nat.le_of_ble_eq_true rfl, Nat.le_of_ble_eq_true rfl⟩) hK hP hD hS hA hP hD rfl rfl (by decide) rfl rfl (by decide) rfl rfl rfl rfl rfl hl.1 rfl (Nat.le_of_ble_eq_true rfl) dX3_rebuild_122 ⟨Nat.zero_le _, Nat.zero_le _⟩ (fun H locs hP hD hS => ?_)
          refine lv_aload_n hx hb dX3_rebuild_125 rfl (lv_at hl 0 rfl) ?_
          refine va_get (D := (dC, dI)) (ci := 3) (v := .int ypc122) (C := RX3) (T := TX3) (N := 18) hx hb hts ziX3 hown hK hP 0 rfl rfl 7 (by decide) zw9 (fun _ h9 => h9) rfl dX3_rebuild_126 ?_
          cases o2 hm
          exact W.iret hx hb hr (fun t ht hW => ⟨⟨_, (), rfl, rfl, by rw [ht]; exact hP, va_K.moved hW.alike hK, hD⟩, hS.F ht⟩) hS.2.2 dX3_rebuild_129
        have L_91 : ∀ (n : Nat) (x3_3 : Int32) (ymdl91 : Nat → Int32) (ymml91 : Int32), X3_rebuild_L91 ybu ybn F n x3_3 ymdl91 ymml91 = some z_91 → ∀ (H : Heap) (locs : List Loc), va_P (dC, dI) vwCl (wM cI cZ md y27 p1 p2 yrow ymk yrm yst ypc ybu ybn ymg ysp yjn ymdl91 ybg ymml91 yup yun) H → va_D A (wM cI cZ md y27 p1 p2 yrow ymk yrm yst ypc ybu ybn ymg ysp yjn ymdl91 ybg ymml91 yup yun) → va_S A s.heap H locs → ∀ (ls : Array Slot), lv_has ls 4 [(3, .int x3_3), (0, .ref (md 0))] → W p l e (headSpec wsX3_rebuild ({ frames := 2, cells := 0, slots := 0, locals := 56 } : Room)).room s m ([.ref (md 0), .int p1, .int p2] : List Value).toArray below meth c H locs 0 0 (MQ below (zQi (dC, dI) (wM cI cZ md u_yth u_ybd u_yro u_yrow u_ymk u_yrm u_yst u_ypc ybu u_ybn ymg ysp yjn u_ymd u_ybg u_ymm u_yup u_yun) [(cI, .int), (cZ, .boolean)] A r) ([.ref (md 0), .int p1, .int p2] : List Value).toArray s 0 0 A) (F0 m 91 ls []) := by
          intro n
          induction n with
          | zero => intro x3_3 ymdl91 ymml91 hm; cases hm
          | succ n ih_91 =>
            intro x3_3 ymdl91 ymml91 hm H locs hP hD hS ls hl
            refine lv_iload_n hx hb dX3_rebuild_91 rfl (lv_at hl 0 rfl) ?_
            refine lv_aload_n hx hb dX3_rebuild_92 rfl (lv_at hl 1 rfl) ?_
            refine va_get (D := (dC, dI)) (ci := 3) (v := .int ybn) (C := RX3) (T := TX3) (N := 18) hx hb hts ziX3 hown hK hP 0 rfl rfl 9 (by decide) zw7 (fun _ h9 => h9) rfl dX3_rebuild_93 ?_
            refine lv_icmp_ge (tgt := 115) hx hb dX3_rebuild_96 (by decide) (fun c_96 => ?_) (fun c_96 => ?_)
            · have hm := it_t hm c_96
              exact K_91 ymdl91 ymml91 (o2 hm) _ _ hP hD hS _ (lv_sub hl [1] rfl)
            · have hm := it_f hm c_96
              refine lv_aload_n hx hb dX3_rebuild_99 rfl (lv_at hl 1 rfl) ?_
              refine lv_aload_n hx hb dX3_rebuild_100 rfl (lv_at hl 1 rfl) ?_
              refine va_get (D := (dC, dI)) (ci := 3) (v := .ref (md 4)) (C := RX3) (T := TX3) (N := 18) hx hb hts ziX3 hown hK hP 0 rfl rfl 8 (by decide) zw8 (fun _ h9 => h9) rfl dX3_rebuild_101 ?_
              refine lv_iload_n hx hb dX3_rebuild_104 rfl (lv_at hl 0 rfl) ?_
              obtain ⟨c_105, hm⟩ := ck hm
              refine va_iald hx hb hK hP 4 0 rfl rfl c_105 dX3_rebuild_105 ?_
              obtain ⟨⟨ymd106, ymm106⟩, h_106, hm⟩ := ob hm
              refine z_callWv (wc := (wM cI cZ md y27 p1 p2 yrow ymk yrm yst ypc ybu ybn ymg ysp yjn ymdl91 ybg ymml91 yup yun)) (w1 := (wM cI cZ md y27 p1 p2 yrow ymk yrm yst ypc ybu ybn ymg ysp yjn ymd106 ybg ymm106 yup yun)) (ws := (wM cI cZ md y27 p1 p2 yrow ymk yrm yst ypc ybu ybn ymg ysp yjn ymdl91 ybg ymml91 yup yun)) (ws' := (wM cI cZ md y27 p1 p2 yrow ymk yrm yst ypc ybu ybn ymg ysp yjn ymd106 ybg ymm106 yup yun)) [0, 1, 2, 3, 4, 5, 6] [] 7 (As := [.int (ybu (Int32.toNatClampNeg x3_3))]) (rest := []) (ci := 3) (q := (RX3, TX3, 18)) ⟨hx, hb, hml, hown, hts⟩ (c_X3_makes l dC dI cI cZ md y27 p1 p2 yrow ymk yrm yst ypc ybu ybn ymg ysp yjn ymdl91 ybg ymml91 yup yun F (ybu (Int32.toNatClampNeg x3_3)) H.size ymd106 ymm106 h_106) (cwV 1 hts gX3_rebuild_X3_makes rfl rfl rfl kv_X3_makes ⟨Nat.le_of_ble_eq_true rfl, Nat.le_of_ble_eq_true rfl⟩) hK hP hD hS hA hP hD rfl rfl (by decide) rfl rfl (by decide) rfl rfl rfl rfl rfl hl.1 rfl (Nat.le_of_ble_eq_true rfl) dX3_rebuild_106 ⟨Nat.zero_le _, Nat.zero_le _⟩ (fun H locs hP hD hS => ?_)
              obtain ⟨x3_4, e_x3_4⟩ : ∃ y : Int32, y = x3_3 + 1 := ⟨_, rfl⟩
              have hm := bnd_e hm e_x3_4
              refine lv_iinc (v := x3_4) (lv' := [(3, .int x3_4), (0, .ref (md 0))]) hx hb dX3_rebuild_109 hl (k := 0) rfl (by rw [e_x3_4]; rfl) (by decide) rfl (fun ls hl => ?_)
              refine lv_goto (tgt := 91) hx hb dX3_rebuild_112 (by decide) ?_
              exact ih_91 x3_4 ymd106 ymm106 hm _ _ hP hD hS _ (lv_sub hl [0, 1] rfl)
        exact L_91 F 0 ymdx56 ymmx56 hq_91 _ _ hP hD hS _ (lv_sub hl [0, 1] rfl)
      have L_56 : ∀ (n : Nat) (x3 : Int32) (ymdl56 : Nat → Int32) (ymml56 : Int32), X3_rebuild_L56 yrow ymk yrm F n x3 ymdl56 ymml56 = some z_56 → ∀ (H : Heap) (locs : List Loc), va_P (dC, dI) vwCl (wM cI cZ md y27 p1 p2 yrow ymk yrm yst ypc ybu ybn ymg ysp yjn ymdl56 ybg ymml56 yup yun) H → va_D A (wM cI cZ md y27 p1 p2 yrow ymk yrm yst ypc ybu ybn ymg ysp yjn ymdl56 ybg ymml56 yup yun) → va_S A s.heap H locs → ∀ (ls : Array Slot), lv_has ls 4 [(3, .int x3), (0, .ref (md 0))] → W p l e (headSpec wsX3_rebuild ({ frames := 2, cells := 0, slots := 0, locals := 56 } : Room)).room s m ([.ref (md 0), .int p1, .int p2] : List Value).toArray below meth c H locs 0 0 (MQ below (zQi (dC, dI) (wM cI cZ md u_yth u_ybd u_yro u_yrow u_ymk u_yrm u_yst u_ypc ybu u_ybn ymg ysp yjn u_ymd u_ybg u_ymm u_yup u_yun) [(cI, .int), (cZ, .boolean)] A r) ([.ref (md 0), .int p1, .int p2] : List Value).toArray s 0 0 A) (F0 m 56 ls []) := by
        intro n
        induction n with
        | zero => intro x3 ymdl56 ymml56 hm; cases hm
        | succ n ih_56 =>
          intro x3 ymdl56 ymml56 hm H locs hP hD hS ls hl
          refine lv_iload_n hx hb dX3_rebuild_56 rfl (lv_at hl 0 rfl) ?_
          refine lv_aload_n hx hb dX3_rebuild_57 rfl (lv_at hl 1 rfl) ?_
          refine va_get (D := (dC, dI)) (ci := 3) (v := .int yrm) (C := RX3) (T := TX3) (N := 18) hx hb hts ziX3 hown hK hP 0 rfl rfl 5 (by decide) zw4 (fun _ h9 => h9) rfl dX3_rebuild_58 ?_
          refine lv_icmp_ge (tgt := 89) hx hb dX3_rebuild_61 (by decide) (fun c_61 => ?_) (fun c_61 => ?_)
          · have hm := it_t hm c_61
            exact K_56 ymdl56 ymml56 (o2 hm) _ _ hP hD hS _ (lv_sub hl [1] rfl)
          · have hm := it_f hm c_61
            refine lv_aload_n hx hb dX3_rebuild_64 rfl (lv_at hl 1 rfl) ?_
            refine va_get (D := (dC, dI)) (ci := 3) (v := .ref (md 2)) (C := RX3) (T := TX3) (N := 18) hx hb hts ziX3 hown hK hP 0 rfl rfl 4 (by decide) zw5 (fun _ h9 => h9) rfl dX3_rebuild_65 ?_
            refine lv_iload_n hx hb dX3_rebuild_68 rfl (lv_at hl 0 rfl) ?_
            obtain ⟨c_69, hm⟩ := ck hm
            refine va_zald hx hb hK hP 2 1 rfl rfl c_69 dX3_rebuild_69 ?_
            refine lv_if_ne (tgt := 83) hx hb dX3_rebuild_70 (by decide) (fun c_70 => ?_) (fun c_70 => ?_)
            · have hm := it_f hm c_70
              obtain ⟨x3_1, e_x3_1⟩ : ∃ y : Int32, y = x3 + 1 := ⟨_, rfl⟩
              have hm := bnd_e hm e_x3_1
              refine lv_iinc (v := x3_1) (lv' := [(3, .int x3_1), (0, .ref (md 0))]) hx hb dX3_rebuild_83 hl (k := 0) rfl (by rw [e_x3_1]; rfl) (by decide) rfl (fun ls hl => ?_)
              refine lv_goto (tgt := 56) hx hb dX3_rebuild_86 (by decide) ?_
              exact ih_56 x3_1 ymdl56 ymml56 hm _ _ hP hD hS _ (lv_sub hl [0, 1] rfl)
            · have hm := it_t hm c_70
              refine lv_aload_n hx hb dX3_rebuild_73 rfl (lv_at hl 1 rfl) ?_
              refine lv_aload_n hx hb dX3_rebuild_74 rfl (lv_at hl 1 rfl) ?_
              refine va_get (D := (dC, dI)) (ci := 3) (v := .ref (md 1)) (C := RX3) (T := TX3) (N := 18) hx hb hts ziX3 hown hK hP 0 rfl rfl 3 (by decide) zw6 (fun _ h9 => h9) rfl dX3_rebuild_75 ?_
              refine lv_iload_n hx hb dX3_rebuild_78 rfl (lv_at hl 0 rfl) ?_
              obtain ⟨c_79, hm⟩ := ck hm
              refine va_iald hx hb hK hP 1 0 rfl rfl c_79 dX3_rebuild_79 ?_
              obtain ⟨⟨ymd80, ymm80⟩, h_80, hm⟩ := ob hm
              refine z_callWv (wc := (wM cI cZ md y27 p1 p2 yrow ymk yrm yst ypc ybu ybn ymg ysp yjn ymdl56 ybg ymml56 yup yun)) (w1 := (wM cI cZ md y27 p1 p2 yrow ymk yrm yst ypc ybu ybn ymg ysp yjn ymd80 ybg ymm80 yup yun)) (ws := (wM cI cZ md y27 p1 p2 yrow ymk yrm yst ypc ybu ybn ymg ysp yjn ymdl56 ybg ymml56 yup yun)) (ws' := (wM cI cZ md y27 p1 p2 yrow ymk yrm yst ypc ybu ybn ymg ysp yjn ymd80 ybg ymm80 yup yun)) [0, 1, 2, 3, 4, 5, 6] [] 7 (As := [.int (yrow (Int32.toNatClampNeg x3))]) (rest := []) (ci := 3) (q := (RX3, TX3, 18)) ⟨hx, hb, hml, hown, hts⟩ (c_X3_makes l dC dI cI cZ md y27 p1 p2 yrow ymk yrm yst ypc ybu ybn ymg ysp yjn ymdl56 ybg ymml56 yup yun F (yrow (Int32.toNatClampNeg x3)) H.size ymd80 ymm80 h_80) (cwV 1 hts gX3_rebuild_X3_makes rfl rfl rfl kv_X3_makes ⟨Nat.le_of_ble_eq_true rfl, Nat.le_of_ble_eq_true rfl⟩) hK hP hD hS hA hP hD rfl rfl (by decide) rfl rfl (by decide) rfl rfl rfl rfl rfl hl.1 rfl (Nat.le_of_ble_eq_true rfl) dX3_rebuild_80 ⟨Nat.zero_le _, Nat.zero_le _⟩ (fun H locs hP hD hS => ?_)
              obtain ⟨x3_2, e_x3_2⟩ : ∃ y : Int32, y = x3 + 1 := ⟨_, rfl⟩
              have hm := bnd_e hm e_x3_2
              refine lv_iinc (v := x3_2) (lv' := [(3, .int x3_2), (0, .ref (md 0))]) hx hb dX3_rebuild_83 hl (k := 0) rfl (by rw [e_x3_2]; rfl) (by decide) rfl (fun ls hl => ?_)
              refine lv_goto (tgt := 56) hx hb dX3_rebuild_86 (by decide) ?_
              exact ih_56 x3_2 ymd80 ymm80 hm _ _ hP hD hS _ (lv_sub hl [0, 1] rfl)
      exact L_56 F 0 ymd 0 hq_56 _ _ hP hD hS _ (lv_sub hl [0, 1] rfl)
    · have hm := it_f hm c_34
      refine lv_iconst (v := 0) hx hb dX3_rebuild_37 (by decide) ?_
      cases o2 hm
      exact W.iret hx hb hr (fun t ht hW => ⟨⟨_, (), rfl, rfl, by rw [ht]; exact hP, va_K.moved hW.alike hK, hD⟩, hS.F ht⟩) hS.2.2 dX3_rebuild_38
  refine lv_if_lt (tgt := 22) hx hb dX3_rebuild_2 (by decide) (fun c_2 => ?_) (fun c_2 => ?_)
  · refine lv_iconst (v := 1) hx hb dX3_rebuild_22 (by decide) ?_
    refine lv_goto (tgt := 27) hx hb dX3_rebuild_23 (by decide) ?_
    have e9 : y27 = 1 := by rw [e_y27, if_pos c_2]
    rw [e9] at J_27
    exact J_27
  · refine lv_iload_n hx hb dX3_rebuild_5 rfl (lv_at hl 1 rfl) ?_
    refine lv_bipush (v := 20) hx hb dX3_rebuild_6 (by decide) ?_
    refine lv_icmp_gt (tgt := 22) hx hb dX3_rebuild_8 (by decide) (fun c_8 => ?_) (fun c_8 => ?_)
    · refine lv_iconst (v := 1) hx hb dX3_rebuild_22 (by decide) ?_
      refine lv_goto (tgt := 27) hx hb dX3_rebuild_23 (by decide) ?_
      have e9 : y27 = 1 := by rw [e_y27, if_neg c_2, if_pos c_8]
      rw [e9] at J_27
      exact J_27
    · refine lv_iload_n hx hb dX3_rebuild_11 rfl (lv_at hl 2 rfl) ?_
      refine lv_iconst (v := 1) hx hb dX3_rebuild_12 (by decide) ?_
      refine lv_icmp_lt (tgt := 22) hx hb dX3_rebuild_13 (by decide) (fun c_13 => ?_) (fun c_13 => ?_)
      · refine lv_iconst (v := 1) hx hb dX3_rebuild_22 (by decide) ?_
        refine lv_goto (tgt := 27) hx hb dX3_rebuild_23 (by decide) ?_
        have e9 : y27 = 1 := by rw [e_y27, if_neg c_2, if_neg c_8, if_pos c_13]
        rw [e9] at J_27
        exact J_27
      · refine lv_iload_n hx hb dX3_rebuild_16 rfl (lv_at hl 2 rfl) ?_
        refine lv_bipush (v := 16) hx hb dX3_rebuild_17 (by decide) ?_
        refine lv_icmp_le (tgt := 26) hx hb dX3_rebuild_19 (by decide) (fun c_19 => ?_) (fun c_19 => ?_)
        · refine lv_iconst (v := 0) hx hb dX3_rebuild_26 (by decide) ?_
          have e9 : y27 = 0 := by rw [e_y27, if_neg c_2, if_neg c_8, if_neg c_13, if_pos c_19]
          rw [e9] at J_27
          exact J_27
        · refine lv_iconst (v := 1) hx hb dX3_rebuild_22 (by decide) ?_
          refine lv_goto (tgt := 27) hx hb dX3_rebuild_23 (by decide) ?_
          have e9 : y27 = 1 := by rw [e_y27, if_neg c_2, if_neg c_8, if_neg c_13, if_neg c_19]
          rw [e9] at J_27
          exact J_27
set_option maxHeartbeats 4000000 in
set_option maxRecDepth 100000 in
theorem c_X3_size (l : Launch) (dC : Nat → ClassId) (dI : Nat → Nat → Nat) (cI : ClassId) (cZ : ClassId) (md : Nat → Nat) (yth : Int32) (ybd : Int32) (yro : Int32) (yrow : Nat → Int32) (ymk : Nat → Int32) (yrm : Int32) (yst : Nat → Int32) (ypc : Int32) (ybu : Nat → Int32) (ybn : Int32) (ymg : Int32) (ysp : Int32) (yjn : Int32) (ymd : Nat → Int32) (ybg : Nat → Int32) (ymm : Int32) (yup : Int64) (yun : Int64) (F : Nat) (sz : Nat) (r : Int32) (u_yth : Int32) (hm : X3_size F yth yrow ymk yrm ybu ybn = some (r, u_yth)) : Met l yX3_size wsX3_size ({ frames := 2, cells := 0, slots := 0, locals := 44 }) (va_Pc [.ref (md 0)] (zW (dC, dI) (wM cI cZ md yth ybd yro yrow ymk yrm yst ypc ybu ybn ymg ysp yjn ymd ybg ymm yup yun) [(cI, .int), (cZ, .boolean)] sz)) (zQi (dC, dI) (wM cI cZ md u_yth ybd yro yrow ymk yrm yst ypc ybu ybn ymg ysp yjn ymd ybg ymm yup yun) [(cI, .int), (cZ, .boolean)] (va_A (wM cI cZ md yth ybd yro yrow ymk yrm yst ypc ybu ybn ymg ysp yjn ymd ybg ymm yup yun) sz) r) 0 0 (va_A (wM cI cZ md yth ybd yro yrow ymk yrm yst ypc ybu ybn ymg ysp yjn ymd ybg ymm yup yun) sz) := by
  refine Met.ofW (cc := cX3_size) (maxL := 1) (ret := (some .int)) (by decide) rfl ?_
  intro p e s m args below meth c s₁ B hml hv
  obtain ⟨rfl, hsz, hP, hK, hD0⟩ := hv
  have hx := B.exec
  have hb := B.bytes
  have hr := B.returns
  have hts := atoms_spec (ws := wsX3_size) B.pre
  have hown : s.vm.findClass RX3 = some m.cls := findClass_of_methodNamed B.named
  have hlocks := B.notSynchronized
  subst hsz
  have hD := hD0.self (sz := s.heap.size)
  generalize hAe : va_A (wM cI cZ md yth ybd yro yrow ymk yrm yst ypc ybu ybn ymg ysp yjn ymd ybg ymm yup yun) s.heap.size = A at hD ⊢
  have hA : ∀ q : Nat, s.heap.size ≤ q → A q := fun q h => by rw [← hAe]; exact Or.inr h
  have hS : va_S A s.heap s.heap [] := va_S.rf
  generalize eL : ([] : List Loc) = locs at hS ⊢
  obtain ⟨H, eH⟩ : ∃ z : Heap, z = s.heap := ⟨_, rfl⟩
  have hP : va_P (dC, dI) vwCl (wM cI cZ md yth ybd yro yrow ymk yrm yst ypc ybu ybn ymg ysp yjn ymd ybg ymm yup yun) H := by rw [eH]; exact hP
  have hS : va_S A s.heap H locs := by rw [eH]; exact hS
  refine z_heap eH ?_
  have hl := lv_entry ([.ref (md 0)]) (n := 1) (Nat.le_of_ble_eq_true rfl)
  rw [lg_entry_eq]
  generalize (lg_sl ([.ref (md 0)]) ++ List.replicate (1 - (lg_sl ([.ref (md 0)])).length) Slot.unset).toArray = ls at hl ⊢
  have hl : lv_has ls 1 [(0, .ref (md 0))] := hl
  have zw0 := hts (.fieldLink RX3 36 "LearnedLedgeModel" "thrown" "I") (by decide +kernel)
  have ziX3 : ∀ w ∈ u_ws RX3 TX3 18, w ∈ wsX3_size := by decide +kernel
  refine lv_aload_n hx hb dX3_size_0 rfl (lv_at hl 0 rfl) ?_
  refine lv_iconst (v := 0) hx hb dX3_size_1 (by decide) ?_
  refine va_put (D := (dC, dI)) (ci := 3) (v := .int 0) (ty := .int) (C := RX3) (T := TX3) (N := 18) hx hb hts ziX3 tyX3 tyX3_ok nmX3 hown hK hP hD hS 0 rfl rfl 0 (by decide) zw0 (fun _ h9 => h9) rfl (by decide +kernel) rfl rfl (Nat.le_of_ble_eq_true rfl) dX3_size_2 (fun H locs hP hD hS => ?_)
  have hP : va_P (dC, dI) vwCl (wM cI cZ md 0 ybd yro yrow ymk yrm yst ypc ybu ybn ymg ysp yjn ymd ybg ymm yup yun) H := hP
  have hD : va_D A (wM cI cZ md 0 ybd yro yrow ymk yrm yst ypc ybu ybn ymg ysp yjn ymd ybg ymm yup yun) := hD
  refine lv_aload_n hx hb dX3_size_5 rfl (lv_at hl 0 rfl) ?_
  obtain ⟨r6, h_6, hm⟩ := ob hm
  refine z_callRi (As := []) (rest := []) (ci := 3) (q := (RX3, TX3, 18)) ⟨hx, hb, hml, hown, hts⟩ (c_X3_keys l dC dI cI cZ md 0 ybd yro yrow ymk yrm yst ypc ybu ybn ymg ysp yjn ymd ybg ymm yup yun F r6 h_6) (cwV 0 hts gX3_size_X3_keys rfl rfl rfl kv_X3_keys ⟨Nat.le_of_ble_eq_true rfl, Nat.le_of_ble_eq_true rfl⟩) hK hP rfl rfl rfl rfl hl.1 rfl (Nat.le_of_ble_eq_true rfl) dX3_size_6 ⟨Nat.zero_le _, Nat.zero_le _⟩ ?_
  cases o2 hm
  exact W.iret hx hb hr (fun t ht hW => ⟨⟨_, (), rfl, rfl, by rw [ht]; exact hP, va_K.moved hW.alike hK, hD⟩, hS.F ht⟩) hS.2.2 dX3_size_9
set_option maxHeartbeats 4000000 in
set_option maxRecDepth 100000 in
theorem c_X3_contains (l : Launch) (dC : Nat → ClassId) (dI : Nat → Nat → Nat) (cI : ClassId) (cZ : ClassId) (md : Nat → Nat) (yth : Int32) (ybd : Int32) (yro : Int32) (yrow : Nat → Int32) (ymk : Nat → Int32) (yrm : Int32) (yst : Nat → Int32) (ypc : Int32) (ybu : Nat → Int32) (ybn : Int32) (ymg : Int32) (ysp : Int32) (yjn : Int32) (ymd : Nat → Int32) (ybg : Nat → Int32) (ymm : Int32) (yup : Int64) (yun : Int64) (F : Nat) (p1 : Int32) (sz : Nat) (r : Int32) (u_yth : Int32) (hm : X3_contains F yth yrow ymk yrm ybu ybn p1 = some (r, u_yth)) : Met l yX3_contains wsX3_contains ({ frames := 3, cells := 0, slots := 0, locals := 65 }) (va_Pc [.ref (md 0), .int p1] (zW (dC, dI) (wM cI cZ md yth ybd yro yrow ymk yrm yst ypc ybu ybn ymg ysp yjn ymd ybg ymm yup yun) [(cI, .int), (cZ, .boolean)] sz)) (zQi (dC, dI) (wM cI cZ md u_yth ybd yro yrow ymk yrm yst ypc ybu ybn ymg ysp yjn ymd ybg ymm yup yun) [(cI, .int), (cZ, .boolean)] (va_A (wM cI cZ md yth ybd yro yrow ymk yrm yst ypc ybu ybn ymg ysp yjn ymd ybg ymm yup yun) sz) r) 0 0 (va_A (wM cI cZ md yth ybd yro yrow ymk yrm yst ypc ybu ybn ymg ysp yjn ymd ybg ymm yup yun) sz) := by
  refine Met.ofW (cc := cX3_contains) (maxL := 2) (ret := (some .boolean)) (by decide) rfl ?_
  intro p e s m args below meth c s₁ B hml hv
  obtain ⟨rfl, hsz, hP, hK, hD0⟩ := hv
  have hx := B.exec
  have hb := B.bytes
  have hr := B.returns
  have hts := atoms_spec (ws := wsX3_contains) B.pre
  have hown : s.vm.findClass RX3 = some m.cls := findClass_of_methodNamed B.named
  have hlocks := B.notSynchronized
  subst hsz
  have hD := hD0.self (sz := s.heap.size)
  generalize hAe : va_A (wM cI cZ md yth ybd yro yrow ymk yrm yst ypc ybu ybn ymg ysp yjn ymd ybg ymm yup yun) s.heap.size = A at hD ⊢
  have hA : ∀ q : Nat, s.heap.size ≤ q → A q := fun q h => by rw [← hAe]; exact Or.inr h
  have hS : va_S A s.heap s.heap [] := va_S.rf
  generalize eL : ([] : List Loc) = locs at hS ⊢
  obtain ⟨H, eH⟩ : ∃ z : Heap, z = s.heap := ⟨_, rfl⟩
  have hP : va_P (dC, dI) vwCl (wM cI cZ md yth ybd yro yrow ymk yrm yst ypc ybu ybn ymg ysp yjn ymd ybg ymm yup yun) H := by rw [eH]; exact hP
  have hS : va_S A s.heap H locs := by rw [eH]; exact hS
  refine z_heap eH ?_
  have hl := lv_entry ([.ref (md 0), .int p1]) (n := 2) (Nat.le_of_ble_eq_true rfl)
  rw [lg_entry_eq]
  generalize (lg_sl ([.ref (md 0), .int p1]) ++ List.replicate (2 - (lg_sl ([.ref (md 0), .int p1])).length) Slot.unset).toArray = ls at hl ⊢
  have hl : lv_has ls 2 [(0, .ref (md 0)), (1, .int p1)] := hl
  have zw0 := hts (.fieldLink RX3 36 "LearnedLedgeModel" "thrown" "I") (by decide +kernel)
  have ziX3 : ∀ w ∈ u_ws RX3 TX3 18, w ∈ wsX3_contains := by decide +kernel
  refine lv_aload_n hx hb dX3_contains_0 rfl (lv_at hl 0 rfl) ?_
  refine lv_iconst (v := 0) hx hb dX3_contains_1 (by decide) ?_
  refine va_put (D := (dC, dI)) (ci := 3) (v := .int 0) (ty := .int) (C := RX3) (T := TX3) (N := 18) hx hb hts ziX3 tyX3 tyX3_ok nmX3 hown hK hP hD hS 0 rfl rfl 0 (by decide) zw0 (fun _ h9 => h9) rfl (by decide +kernel) rfl rfl (Nat.le_of_ble_eq_true rfl) dX3_contains_2 (fun H locs hP hD hS => ?_)
  have hP : va_P (dC, dI) vwCl (wM cI cZ md 0 ybd yro yrow ymk yrm yst ypc ybu ybn ymg ysp yjn ymd ybg ymm yup yun) H := hP
  have hD : va_D A (wM cI cZ md 0 ybd yro yrow ymk yrm yst ypc ybu ybn ymg ysp yjn ymd ybg ymm yup yun) := hD
  refine lv_aload_n hx hb dX3_contains_5 rfl (lv_at hl 0 rfl) ?_
  refine lv_iload_n hx hb dX3_contains_6 rfl (lv_at hl 1 rfl) ?_
  obtain ⟨r7, h_7, hm⟩ := ob hm
  refine z_callRi (As := [.int p1]) (rest := []) (ci := 3) (q := (RX3, TX3, 18)) ⟨hx, hb, hml, hown, hts⟩ (c_X3_isThere l dC dI cI cZ md 0 ybd yro yrow ymk yrm yst ypc ybu ybn ymg ysp yjn ymd ybg ymm yup yun F p1 r7 h_7) (cwV 1 hts gX3_contains_X3_isThere rfl rfl rfl kv_X3_isThere ⟨Nat.le_of_ble_eq_true rfl, Nat.le_of_ble_eq_true rfl⟩) hK hP rfl rfl rfl rfl hl.1 rfl (Nat.le_of_ble_eq_true rfl) dX3_contains_7 ⟨Nat.zero_le _, Nat.zero_le _⟩ ?_
  obtain ⟨c_10, hm⟩ := ck hm
  cases o2 hm
  exact W.zret hx hb hr (nar_b c_10) (fun t ht hW => ⟨⟨_, (), rfl, rfl, by rw [ht]; exact hP, va_K.moved hW.alike hK, hD⟩, hS.F ht⟩) hS.2.2 dX3_contains_10
set_option maxHeartbeats 4000000 in
set_option maxRecDepth 100000 in
theorem c_X3_rank (l : Launch) (dC : Nat → ClassId) (dI : Nat → Nat → Nat) (cI : ClassId) (cZ : ClassId) (md : Nat → Nat) (yth : Int32) (ybd : Int32) (yro : Int32) (yrow : Nat → Int32) (ymk : Nat → Int32) (yrm : Int32) (yst : Nat → Int32) (ypc : Int32) (ybu : Nat → Int32) (ybn : Int32) (ymg : Int32) (ysp : Int32) (yjn : Int32) (ymd : Nat → Int32) (ybg : Nat → Int32) (ymm : Int32) (yup : Int64) (yun : Int64) (F : Nat) (p1 : Int32) (sz : Nat) (r : Int32) (u_yth : Int32) (hm : X3_rank F yth yrow ymk yrm ybu ybn p1 = some (r, u_yth)) : Met l yX3_rank wsX3_rank ({ frames := 1, cells := 0, slots := 0, locals := 24 }) (va_Pc [.ref (md 0), .int p1] (zW (dC, dI) (wM cI cZ md yth ybd yro yrow ymk yrm yst ypc ybu ybn ymg ysp yjn ymd ybg ymm yup yun) [(cI, .int), (cZ, .boolean)] sz)) (zQi (dC, dI) (wM cI cZ md u_yth ybd yro yrow ymk yrm yst ypc ybu ybn ymg ysp yjn ymd ybg ymm yup yun) [(cI, .int), (cZ, .boolean)] (va_A (wM cI cZ md yth ybd yro yrow ymk yrm yst ypc ybu ybn ymg ysp yjn ymd ybg ymm yup yun) sz) r) 0 0 (va_A (wM cI cZ md yth ybd yro yrow ymk yrm yst ypc ybu ybn ymg ysp yjn ymd ybg ymm yup yun) sz) := by
  refine Met.ofW (cc := cX3_rank) (maxL := 2) (ret := (some .int)) (by decide) rfl ?_
  intro p e s m args below meth c s₁ B hml hv
  obtain ⟨rfl, hsz, hP, hK, hD0⟩ := hv
  have hx := B.exec
  have hb := B.bytes
  have hr := B.returns
  have hts := atoms_spec (ws := wsX3_rank) B.pre
  have hown : s.vm.findClass RX3 = some m.cls := findClass_of_methodNamed B.named
  have hlocks := B.notSynchronized
  subst hsz
  have hD := hD0.self (sz := s.heap.size)
  generalize hAe : va_A (wM cI cZ md yth ybd yro yrow ymk yrm yst ypc ybu ybn ymg ysp yjn ymd ybg ymm yup yun) s.heap.size = A at hD ⊢
  have hA : ∀ q : Nat, s.heap.size ≤ q → A q := fun q h => by rw [← hAe]; exact Or.inr h
  have hS : va_S A s.heap s.heap [] := va_S.rf
  generalize eL : ([] : List Loc) = locs at hS ⊢
  obtain ⟨H, eH⟩ : ∃ z : Heap, z = s.heap := ⟨_, rfl⟩
  have hP : va_P (dC, dI) vwCl (wM cI cZ md yth ybd yro yrow ymk yrm yst ypc ybu ybn ymg ysp yjn ymd ybg ymm yup yun) H := by rw [eH]; exact hP
  have hS : va_S A s.heap H locs := by rw [eH]; exact hS
  refine z_heap eH ?_
  have hl := lv_entry ([.ref (md 0), .int p1]) (n := 2) (Nat.le_of_ble_eq_true rfl)
  rw [lg_entry_eq]
  generalize (lg_sl ([.ref (md 0), .int p1]) ++ List.replicate (2 - (lg_sl ([.ref (md 0), .int p1])).length) Slot.unset).toArray = ls at hl ⊢
  have hl : lv_has ls 2 [(0, .ref (md 0)), (1, .int p1)] := hl
  have zw0 := hts (.fieldLink RX3 36 "LearnedLedgeModel" "thrown" "I") (by decide +kernel)
  have ziX3 : ∀ w ∈ u_ws RX3 TX3 18, w ∈ wsX3_rank := by decide +kernel
  refine lv_aload_n hx hb dX3_rank_0 rfl (lv_at hl 0 rfl) ?_
  refine lv_iconst (v := 0) hx hb dX3_rank_1 (by decide) ?_
  refine va_put (D := (dC, dI)) (ci := 3) (v := .int 0) (ty := .int) (C := RX3) (T := TX3) (N := 18) hx hb hts ziX3 tyX3 tyX3_ok nmX3 hown hK hP hD hS 0 rfl rfl 0 (by decide) zw0 (fun _ h9 => h9) rfl (by decide +kernel) rfl rfl (Nat.le_of_ble_eq_true rfl) dX3_rank_2 (fun H locs hP hD hS => ?_)
  have hP : va_P (dC, dI) vwCl (wM cI cZ md 0 ybd yro yrow ymk yrm yst ypc ybu ybn ymg ysp yjn ymd ybg ymm yup yun) H := hP
  have hD : va_D A (wM cI cZ md 0 ybd yro yrow ymk yrm yst ypc ybu ybn ymg ysp yjn ymd ybg ymm yup yun) := hD
  refine lv_aload_n hx hb dX3_rank_5 rfl (lv_at hl 0 rfl) ?_
  refine lv_iload_n hx hb dX3_rank_6 rfl (lv_at hl 1 rfl) ?_
  refine lv_i2l hx hb dX3_rank_7 rfl ?_
  obtain ⟨r8, h_8, hm⟩ := ob hm
  refine z_callRi (As := [.long (Int32.toInt64 p1)]) (rest := []) (ci := 3) (q := (RX3, TX3, 18)) ⟨hx, hb, hml, hown, hts⟩ (c_X3_below l dC dI cI cZ md 0 ybd yro yrow ymk yrm yst ypc ybu ybn ymg ysp yjn ymd ybg ymm yup yun F (Int32.toInt64 p1) r8 h_8) (cwV 1 hts gX3_rank_X3_below rfl rfl rfl kv_X3_below ⟨Nat.le_of_ble_eq_true rfl, Nat.le_of_ble_eq_true rfl⟩) hK hP rfl rfl rfl rfl hl.1 rfl (Nat.le_of_ble_eq_true rfl) dX3_rank_8 ⟨Nat.zero_le _, Nat.zero_le _⟩ ?_
  cases o2 hm
  exact W.iret hx hb hr (fun t ht hW => ⟨⟨_, (), rfl, rfl, by rw [ht]; exact hP, va_K.moved hW.alike hK, hD⟩, hS.F ht⟩) hS.2.2 dX3_rank_11
set_option maxHeartbeats 4000000 in
set_option maxRecDepth 100000 in
theorem c_X3_behindSo (l : Launch) (dC : Nat → ClassId) (dI : Nat → Nat → Nat) (cI : ClassId) (cZ : ClassId) (md : Nat → Nat) (yth : Int32) (ybd : Int32) (yro : Int32) (yrow : Nat → Int32) (ymk : Nat → Int32) (yrm : Int32) (yst : Nat → Int32) (ypc : Int32) (ybu : Nat → Int32) (ybn : Int32) (ymg : Int32) (ysp : Int32) (yjn : Int32) (ymd : Nat → Int32) (ybg : Nat → Int32) (ymm : Int32) (yup : Int64) (yun : Int64) (F : Nat) (p1 : Int32) (r : Int32) (hm : X3_behindSo F yrow ymk yrm ybu ybn p1 = some r) : Met l yX3_behindSo wsX3_behindSo ({ frames := 1, cells := 0, slots := 0, locals := 24 }) (va_Pc [.ref (md 0), .int p1] (zR (dC, dI) (wM cI cZ md yth ybd yro yrow ymk yrm yst ypc ybu ybn ymg ysp yjn ymd ybg ymm yup yun) [(cI, .int), (cZ, .boolean)])) (vp_Si (fun v => v = r)) 0 0 (fun _ => False) := by
  refine Met.ofW (cc := cX3_behindSo) (maxL := 4) (ret := (some .int)) (by decide) rfl ?_
  intro p e s m args below meth c s₁ B hml hv
  obtain ⟨rfl, hP, hK⟩ := hv
  have hx := B.exec
  have hb := B.bytes
  have hr := B.returns
  have hts := atoms_spec (ws := wsX3_behindSo) B.pre
  have hown : s.vm.findClass RX3 = some m.cls := findClass_of_methodNamed B.named
  have hlocks := B.notSynchronized
  have hl := lv_entry ([.ref (md 0), .int p1]) (n := 4) (Nat.le_of_ble_eq_true rfl)
  rw [lg_entry_eq]
  generalize (lg_sl ([.ref (md 0), .int p1]) ++ List.replicate (4 - (lg_sl ([.ref (md 0), .int p1])).length) Slot.unset).toArray = ls at hl ⊢
  have hl : lv_has ls 4 [(0, .ref (md 0)), (1, .int p1)] := hl
  have zw0 := hts (.fieldLink RX3 51 "LearnedLedgeModel" "rowMany" "I") (by decide +kernel)
  have zw1 := hts (.fieldLink RX3 20 "LearnedLedgeModel" "isMarked" "[Z") (by decide +kernel)
  have zw2 := hts (.fieldLink RX3 16 "LearnedLedgeModel" "row" "[I") (by decide +kernel)
  have zw3 := hts (.fieldLink RX3 69 "LearnedLedgeModel" "buffered" "I") (by decide +kernel)
  have zw4 := hts (.fieldLink RX3 27 "LearnedLedgeModel" "buffer" "[I") (by decide +kernel)
  have ziX3 : ∀ w ∈ u_ws RX3 TX3 18, w ∈ wsX3_behindSo := by decide +kernel
  refine lv_iconst (v := 0) hx hb dX3_behindSo_0 (by decide) ?_
  refine lv_istore_n (lv' := [(2, .int 0), (0, .ref (md 0)), (1, .int p1)]) hx hb dX3_behindSo_1 rfl hl (by decide) rfl (fun ls hl => ?_)
  refine lv_iconst (v := 0) hx hb dX3_behindSo_2 (by decide) ?_
  refine lv_istore_n (lv' := [(3, .int 0), (2, .int 0), (0, .ref (md 0)), (1, .int p1)]) hx hb dX3_behindSo_3 rfl hl (by decide) rfl (fun ls hl => ?_)
  obtain ⟨z_4, hq_4, hm⟩ := ob hm
  have K_4 : ∀ (x2_2 : Int32), z_4 = x2_2 → ∀ (ls : Array Slot), lv_has ls 4 [(2, .int x2_2), (0, .ref (md 0)), (1, .int p1)] → W p l e (headSpec wsX3_behindSo ({ frames := 1, cells := 0, slots := 0, locals := 24 } : Room)).room s m ([.ref (md 0), .int p1] : List Value).toArray below meth c s.heap [] 0 0 (MQ below (vp_Si (fun v => v = r)) ([.ref (md 0), .int p1] : List Value).toArray s 0 0 (fun _ => False)) (F0 m 53 ls []) := by
    intro x2_2 ez ls hl
    rw [ez] at hm
    refine lv_iconst (v := 0) hx hb dX3_behindSo_53 (by decide) ?_
    refine lv_istore_n (lv' := [(3, .int 0), (2, .int x2_2), (0, .ref (md 0)), (1, .int p1)]) hx hb dX3_behindSo_54 rfl hl (by decide) rfl (fun ls hl => ?_)
    obtain ⟨z_55, hq_55, hm⟩ := ob hm
    have K_55 : ∀ (x2_5 : Int32), z_55 = x2_5 → ∀ (ls : Array Slot), lv_has ls 4 [(2, .int x2_5)] → W p l e (headSpec wsX3_behindSo ({ frames := 1, cells := 0, slots := 0, locals := 24 } : Room)).room s m ([.ref (md 0), .int p1] : List Value).toArray below meth c s.heap [] 0 0 (MQ below (vp_Si (fun v => v = r)) ([.ref (md 0), .int p1] : List Value).toArray s 0 0 (fun _ => False)) (F0 m 95 ls []) := by
      intro x2_5 ez ls hl
      rw [ez] at hm
      refine lv_iload_n hx hb dX3_behindSo_95 rfl (lv_at hl 0 rfl) ?_
      exact W.iret hx hb hr (fun t ht hW => ⟨_, rfl, (o2 hm).symm, ht⟩) (fun q h => absurd h List.not_mem_nil) dX3_behindSo_96
    have L_55 : ∀ (n : Nat) (x3_4 : Int32) (x2_3 : Int32), X3_behindSo_L55 p1 yrow ymk yrm ybu ybn F n x3_4 x2_3 = some z_55 → ∀ (ls : Array Slot), lv_has ls 4 [(3, .int x3_4), (2, .int x2_3), (0, .ref (md 0)), (1, .int p1)] → W p l e (headSpec wsX3_behindSo ({ frames := 1, cells := 0, slots := 0, locals := 24 } : Room)).room s m ([.ref (md 0), .int p1] : List Value).toArray below meth c s.heap [] 0 0 (MQ below (vp_Si (fun v => v = r)) ([.ref (md 0), .int p1] : List Value).toArray s 0 0 (fun _ => False)) (F0 m 55 ls []) := by
      intro n
      induction n with
      | zero => intro x3_4 x2_3 hm; cases hm
      | succ n ih_55 =>
        intro x3_4 x2_3 hm ls hl
        refine lv_iload_n hx hb dX3_behindSo_55 rfl (lv_at hl 0 rfl) ?_
        refine lv_aload_n hx hb dX3_behindSo_56 rfl (lv_at hl 2 rfl) ?_
        refine va_get (D := (dC, dI)) (ci := 3) (v := .int ybn) (C := RX3) (T := TX3) (N := 18) hx hb hts ziX3 hown hK hP 0 rfl rfl 9 (by decide) zw3 (fun _ h9 => h9) rfl dX3_behindSo_57 ?_
        refine lv_icmp_ge (tgt := 95) hx hb dX3_behindSo_60 (by decide) (fun c_60 => ?_) (fun c_60 => ?_)
        · have hm := it_t hm c_60
          exact K_55 x2_3 (o2 hm) _ (lv_sub hl [1] rfl)
        · have hm := it_f hm c_60
          refine lv_aload_n hx hb dX3_behindSo_63 rfl (lv_at hl 2 rfl) ?_
          refine lv_aload_n hx hb dX3_behindSo_64 rfl (lv_at hl 2 rfl) ?_
          refine va_get (D := (dC, dI)) (ci := 3) (v := .ref (md 4)) (C := RX3) (T := TX3) (N := 18) hx hb hts ziX3 hown hK hP 0 rfl rfl 8 (by decide) zw4 (fun _ h9 => h9) rfl dX3_behindSo_65 ?_
          refine lv_iload_n hx hb dX3_behindSo_68 rfl (lv_at hl 0 rfl) ?_
          obtain ⟨c_69, hm⟩ := ck hm
          refine va_iald hx hb hK hP 4 0 rfl rfl c_69 dX3_behindSo_69 ?_
          refine lv_i2l hx hb dX3_behindSo_70 rfl ?_
          obtain ⟨r71, h_71, hm⟩ := ob hm
          refine z_callRi (As := [.long (Int32.toInt64 (ybu (Int32.toNatClampNeg x3_4)))]) (rest := []) (ci := 3) (q := (RX3, TX3, 18)) ⟨hx, hb, hml, hown, hts⟩ (c_X3_below l dC dI cI cZ md yth ybd yro yrow ymk yrm yst ypc ybu ybn ymg ysp yjn ymd ybg ymm yup yun F (Int32.toInt64 (ybu (Int32.toNatClampNeg x3_4))) r71 h_71) (cwV 1 hts gX3_behindSo_X3_below rfl rfl rfl kv_X3_below ⟨Nat.le_of_ble_eq_true rfl, Nat.le_of_ble_eq_true rfl⟩) hK hP rfl rfl rfl rfl hl.1 rfl (Nat.le_of_ble_eq_true rfl) dX3_behindSo_71 ⟨Nat.zero_le _, Nat.zero_le _⟩ ?_
          refine lv_iload_n hx hb dX3_behindSo_74 rfl (lv_at hl 3 rfl) ?_
          refine lv_icmp_ne (tgt := 87) hx hb dX3_behindSo_75 (by decide) (fun c_75 => ?_) (fun c_75 => ?_)
          · have hm := it_f hm c_75
            refine lv_iload_n hx hb dX3_behindSo_87 rfl (lv_at hl 1 rfl) ?_
            refine lv_istore_n (lv' := [(2, .int x2_3), (3, .int x3_4), (0, .ref (md 0)), (1, .int p1)]) hx hb dX3_behindSo_88 rfl hl (by decide) rfl (fun ls hl => ?_)
            obtain ⟨x3_5, e_x3_5⟩ : ∃ y : Int32, y = x3_4 + 1 := ⟨_, rfl⟩
            have hm := bnd_e hm e_x3_5
            refine lv_iinc (v := x3_5) (lv' := [(3, .int x3_5), (2, .int x2_3), (0, .ref (md 0)), (1, .int p1)]) hx hb dX3_behindSo_89 hl (k := 1) rfl (by rw [e_x3_5]; rfl) (by decide) rfl (fun ls hl => ?_)
            refine lv_goto (tgt := 55) hx hb dX3_behindSo_92 (by decide) ?_
            exact ih_55 x3_5 x2_3 hm _ (lv_sub hl [0, 1, 2, 3] rfl)
          · have hm := it_t hm c_75
            refine lv_aload_n hx hb dX3_behindSo_78 rfl (lv_at hl 2 rfl) ?_
            refine va_get (D := (dC, dI)) (ci := 3) (v := .ref (md 4)) (C := RX3) (T := TX3) (N := 18) hx hb hts ziX3 hown hK hP 0 rfl rfl 8 (by decide) zw4 (fun _ h9 => h9) rfl dX3_behindSo_79 ?_
            refine lv_iload_n hx hb dX3_behindSo_82 rfl (lv_at hl 0 rfl) ?_
            obtain ⟨c_83, hm⟩ := ck hm
            refine va_iald hx hb hK hP 4 0 rfl rfl c_83 dX3_behindSo_83 ?_
            refine lv_goto (tgt := 88) hx hb dX3_behindSo_84 (by decide) ?_
            refine lv_topi (fun x2_4 e_x2_4 => ?_)
            have hm := bnd_e hm e_x2_4
            refine lv_istore_n (lv' := [(2, .int x2_4), (3, .int x3_4), (0, .ref (md 0)), (1, .int p1)]) hx hb dX3_behindSo_88 rfl hl (by decide) rfl (fun ls hl => ?_)
            obtain ⟨x3_6, e_x3_6⟩ : ∃ y : Int32, y = x3_4 + 1 := ⟨_, rfl⟩
            have hm := bnd_e hm e_x3_6
            refine lv_iinc (v := x3_6) (lv' := [(3, .int x3_6), (2, .int x2_4), (0, .ref (md 0)), (1, .int p1)]) hx hb dX3_behindSo_89 hl (k := 1) rfl (by rw [e_x3_6]; rfl) (by decide) rfl (fun ls hl => ?_)
            refine lv_goto (tgt := 55) hx hb dX3_behindSo_92 (by decide) ?_
            exact ih_55 x3_6 x2_4 hm _ (lv_sub hl [0, 1, 2, 3] rfl)
    exact L_55 F 0 x2_2 hq_55 _ (lv_sub hl [0, 1, 2, 3] rfl)
  have L_4 : ∀ (n : Nat) (x3 : Int32) (x2 : Int32), X3_behindSo_L4 p1 yrow ymk yrm ybu ybn F n x3 x2 = some z_4 → ∀ (ls : Array Slot), lv_has ls 4 [(3, .int x3), (2, .int x2), (0, .ref (md 0)), (1, .int p1)] → W p l e (headSpec wsX3_behindSo ({ frames := 1, cells := 0, slots := 0, locals := 24 } : Room)).room s m ([.ref (md 0), .int p1] : List Value).toArray below meth c s.heap [] 0 0 (MQ below (vp_Si (fun v => v = r)) ([.ref (md 0), .int p1] : List Value).toArray s 0 0 (fun _ => False)) (F0 m 4 ls []) := by
    intro n
    induction n with
    | zero => intro x3 x2 hm; cases hm
    | succ n ih_4 =>
      intro x3 x2 hm ls hl
      refine lv_iload_n hx hb dX3_behindSo_4 rfl (lv_at hl 0 rfl) ?_
      refine lv_aload_n hx hb dX3_behindSo_5 rfl (lv_at hl 2 rfl) ?_
      refine va_get (D := (dC, dI)) (ci := 3) (v := .int yrm) (C := RX3) (T := TX3) (N := 18) hx hb hts ziX3 hown hK hP 0 rfl rfl 5 (by decide) zw0 (fun _ h9 => h9) rfl dX3_behindSo_6 ?_
      refine lv_icmp_ge (tgt := 53) hx hb dX3_behindSo_9 (by decide) (fun c_9 => ?_) (fun c_9 => ?_)
      · have hm := it_t hm c_9
        exact K_4 x2 (o2 hm) _ (lv_sub hl [1, 2, 3] rfl)
      · have hm := it_f hm c_9
        refine lv_aload_n hx hb dX3_behindSo_12 rfl (lv_at hl 2 rfl) ?_
        refine va_get (D := (dC, dI)) (ci := 3) (v := .ref (md 2)) (C := RX3) (T := TX3) (N := 18) hx hb hts ziX3 hown hK hP 0 rfl rfl 4 (by decide) zw1 (fun _ h9 => h9) rfl dX3_behindSo_13 ?_
        refine lv_iload_n hx hb dX3_behindSo_16 rfl (lv_at hl 0 rfl) ?_
        obtain ⟨c_17, hm⟩ := ck hm
        refine va_zald hx hb hK hP 2 1 rfl rfl c_17 dX3_behindSo_17 ?_
        refine lv_if_ne (tgt := 45) hx hb dX3_behindSo_18 (by decide) (fun c_18 => ?_) (fun c_18 => ?_)
        · have hm := it_f hm c_18
          refine lv_iload_n hx hb dX3_behindSo_45 rfl (lv_at hl 1 rfl) ?_
          refine lv_istore_n (lv' := [(2, .int x2), (3, .int x3), (0, .ref (md 0)), (1, .int p1)]) hx hb dX3_behindSo_46 rfl hl (by decide) rfl (fun ls hl => ?_)
          obtain ⟨x3_1, e_x3_1⟩ : ∃ y : Int32, y = x3 + 1 := ⟨_, rfl⟩
          have hm := bnd_e hm e_x3_1
          refine lv_iinc (v := x3_1) (lv' := [(3, .int x3_1), (2, .int x2), (0, .ref (md 0)), (1, .int p1)]) hx hb dX3_behindSo_47 hl (k := 1) rfl (by rw [e_x3_1]; rfl) (by decide) rfl (fun ls hl => ?_)
          refine lv_goto (tgt := 4) hx hb dX3_behindSo_50 (by decide) ?_
          exact ih_4 x3_1 x2 hm _ (lv_sub hl [0, 1, 2, 3] rfl)
        · have hm := it_t hm c_18
          refine lv_aload_n hx hb dX3_behindSo_21 rfl (lv_at hl 2 rfl) ?_
          refine lv_aload_n hx hb dX3_behindSo_22 rfl (lv_at hl 2 rfl) ?_
          refine va_get (D := (dC, dI)) (ci := 3) (v := .ref (md 1)) (C := RX3) (T := TX3) (N := 18) hx hb hts ziX3 hown hK hP 0 rfl rfl 3 (by decide) zw2 (fun _ h9 => h9) rfl dX3_behindSo_23 ?_
          refine lv_iload_n hx hb dX3_behindSo_26 rfl (lv_at hl 0 rfl) ?_
          obtain ⟨c_27, hm⟩ := ck hm
          refine va_iald hx hb hK hP 1 0 rfl rfl c_27 dX3_behindSo_27 ?_
          refine lv_i2l hx hb dX3_behindSo_28 rfl ?_
          obtain ⟨r29, h_29, hm⟩ := ob hm
          refine z_callRi (As := [.long (Int32.toInt64 (yrow (Int32.toNatClampNeg x3)))]) (rest := []) (ci := 3) (q := (RX3, TX3, 18)) ⟨hx, hb, hml, hown, hts⟩ (c_X3_below l dC dI cI cZ md yth ybd yro yrow ymk yrm yst ypc ybu ybn ymg ysp yjn ymd ybg ymm yup yun F (Int32.toInt64 (yrow (Int32.toNatClampNeg x3))) r29 h_29) (cwV 1 hts gX3_behindSo_X3_below rfl rfl rfl kv_X3_below ⟨Nat.le_of_ble_eq_true rfl, Nat.le_of_ble_eq_true rfl⟩) hK hP rfl rfl rfl rfl hl.1 rfl (Nat.le_of_ble_eq_true rfl) dX3_behindSo_29 ⟨Nat.zero_le _, Nat.zero_le _⟩ ?_
          refine lv_iload_n hx hb dX3_behindSo_32 rfl (lv_at hl 3 rfl) ?_
          refine lv_icmp_ne (tgt := 45) hx hb dX3_behindSo_33 (by decide) (fun c_33 => ?_) (fun c_33 => ?_)
          · have hm := it_f hm c_33
            refine lv_iload_n hx hb dX3_behindSo_45 rfl (lv_at hl 1 rfl) ?_
            refine lv_istore_n (lv' := [(2, .int x2), (3, .int x3), (0, .ref (md 0)), (1, .int p1)]) hx hb dX3_behindSo_46 rfl hl (by decide) rfl (fun ls hl => ?_)
            obtain ⟨x3_2, e_x3_2⟩ : ∃ y : Int32, y = x3 + 1 := ⟨_, rfl⟩
            have hm := bnd_e hm e_x3_2
            refine lv_iinc (v := x3_2) (lv' := [(3, .int x3_2), (2, .int x2), (0, .ref (md 0)), (1, .int p1)]) hx hb dX3_behindSo_47 hl (k := 1) rfl (by rw [e_x3_2]; rfl) (by decide) rfl (fun ls hl => ?_)
            refine lv_goto (tgt := 4) hx hb dX3_behindSo_50 (by decide) ?_
            exact ih_4 x3_2 x2 hm _ (lv_sub hl [0, 1, 2, 3] rfl)
          · have hm := it_t hm c_33
            refine lv_aload_n hx hb dX3_behindSo_36 rfl (lv_at hl 2 rfl) ?_
            refine va_get (D := (dC, dI)) (ci := 3) (v := .ref (md 1)) (C := RX3) (T := TX3) (N := 18) hx hb hts ziX3 hown hK hP 0 rfl rfl 3 (by decide) zw2 (fun _ h9 => h9) rfl dX3_behindSo_37 ?_
            refine lv_iload_n hx hb dX3_behindSo_40 rfl (lv_at hl 0 rfl) ?_
            obtain ⟨c_41, hm⟩ := ck hm
            refine va_iald hx hb hK hP 1 0 rfl rfl c_41 dX3_behindSo_41 ?_
            refine lv_goto (tgt := 46) hx hb dX3_behindSo_42 (by decide) ?_
            refine lv_topi (fun x2_1 e_x2_1 => ?_)
            have hm := bnd_e hm e_x2_1
            refine lv_istore_n (lv' := [(2, .int x2_1), (3, .int x3), (0, .ref (md 0)), (1, .int p1)]) hx hb dX3_behindSo_46 rfl hl (by decide) rfl (fun ls hl => ?_)
            obtain ⟨x3_3, e_x3_3⟩ : ∃ y : Int32, y = x3 + 1 := ⟨_, rfl⟩
            have hm := bnd_e hm e_x3_3
            refine lv_iinc (v := x3_3) (lv' := [(3, .int x3_3), (2, .int x2_1), (0, .ref (md 0)), (1, .int p1)]) hx hb dX3_behindSo_47 hl (k := 1) rfl (by rw [e_x3_3]; rfl) (by decide) rfl (fun ls hl => ?_)
            refine lv_goto (tgt := 4) hx hb dX3_behindSo_50 (by decide) ?_
            exact ih_4 x3_3 x2_1 hm _ (lv_sub hl [0, 1, 2, 3] rfl)
  exact L_4 F 0 0 hq_4 _ (lv_sub hl [0, 1, 2, 3] rfl)
set_option maxHeartbeats 4000000 in
set_option maxRecDepth 100000 in
theorem c_X3_select (l : Launch) (dC : Nat → ClassId) (dI : Nat → Nat → Nat) (cI : ClassId) (cZ : ClassId) (md : Nat → Nat) (yth : Int32) (ybd : Int32) (yro : Int32) (yrow : Nat → Int32) (ymk : Nat → Int32) (yrm : Int32) (yst : Nat → Int32) (ypc : Int32) (ybu : Nat → Int32) (ybn : Int32) (ymg : Int32) (ysp : Int32) (yjn : Int32) (ymd : Nat → Int32) (ybg : Nat → Int32) (ymm : Int32) (yup : Int64) (yun : Int64) (F : Nat) (p1 : Int32) (sz : Nat) (r : Int32) (u_yth : Int32) (hm : X3_select F yth yrow ymk yrm ybu ybn p1 = some (r, u_yth)) : Met l yX3_select wsX3_select ({ frames := 2, cells := 0, slots := 0, locals := 47 }) (va_Pc [.ref (md 0), .int p1] (zW (dC, dI) (wM cI cZ md yth ybd yro yrow ymk yrm yst ypc ybu ybn ymg ysp yjn ymd ybg ymm yup yun) [(cI, .int), (cZ, .boolean)] sz)) (zQi (dC, dI) (wM cI cZ md u_yth ybd yro yrow ymk yrm yst ypc ybu ybn ymg ysp yjn ymd ybg ymm yup yun) [(cI, .int), (cZ, .boolean)] (va_A (wM cI cZ md yth ybd yro yrow ymk yrm yst ypc ybu ybn ymg ysp yjn ymd ybg ymm yup yun) sz) r) 0 0 (va_A (wM cI cZ md yth ybd yro yrow ymk yrm yst ypc ybu ybn ymg ysp yjn ymd ybg ymm yup yun) sz) := by
  refine Met.ofW (cc := cX3_select) (maxL := 2) (ret := (some .int)) (by decide) rfl ?_
  intro p e s m args below meth c s₁ B hml hv
  obtain ⟨rfl, hsz, hP, hK, hD0⟩ := hv
  have hx := B.exec
  have hb := B.bytes
  have hr := B.returns
  have hts := atoms_spec (ws := wsX3_select) B.pre
  have hown : s.vm.findClass RX3 = some m.cls := findClass_of_methodNamed B.named
  have hlocks := B.notSynchronized
  subst hsz
  have hD := hD0.self (sz := s.heap.size)
  generalize hAe : va_A (wM cI cZ md yth ybd yro yrow ymk yrm yst ypc ybu ybn ymg ysp yjn ymd ybg ymm yup yun) s.heap.size = A at hD ⊢
  have hA : ∀ q : Nat, s.heap.size ≤ q → A q := fun q h => by rw [← hAe]; exact Or.inr h
  have hS : va_S A s.heap s.heap [] := va_S.rf
  generalize eL : ([] : List Loc) = locs at hS ⊢
  obtain ⟨H, eH⟩ : ∃ z : Heap, z = s.heap := ⟨_, rfl⟩
  have hP : va_P (dC, dI) vwCl (wM cI cZ md yth ybd yro yrow ymk yrm yst ypc ybu ybn ymg ysp yjn ymd ybg ymm yup yun) H := by rw [eH]; exact hP
  have hS : va_S A s.heap H locs := by rw [eH]; exact hS
  refine z_heap eH ?_
  have hl := lv_entry ([.ref (md 0), .int p1]) (n := 2) (Nat.le_of_ble_eq_true rfl)
  rw [lg_entry_eq]
  generalize (lg_sl ([.ref (md 0), .int p1]) ++ List.replicate (2 - (lg_sl ([.ref (md 0), .int p1])).length) Slot.unset).toArray = ls at hl ⊢
  have hl : lv_has ls 2 [(0, .ref (md 0)), (1, .int p1)] := hl
  have zw0 := hts (.fieldLink RX3 36 "LearnedLedgeModel" "thrown" "I") (by decide +kernel)
  have ziX3 : ∀ w ∈ u_ws RX3 TX3 18, w ∈ wsX3_select := by decide +kernel
  refine lv_aload_n hx hb dX3_select_0 rfl (lv_at hl 0 rfl) ?_
  refine lv_iload_n hx hb dX3_select_1 rfl (lv_at hl 1 rfl) ?_
  obtain ⟨z_18, hq_18, hm⟩ := ob hm
  have J_18 : ∀ (y18 : Int32), z_18 = y18 → W p l e (headSpec wsX3_select ({ frames := 2, cells := 0, slots := 0, locals := 47 } : Room)).room s m ([.ref (md 0), .int p1] : List Value).toArray below meth c H locs 0 0 (MQ below (zQi (dC, dI) (wM cI cZ md u_yth ybd yro yrow ymk yrm yst ypc ybu ybn ymg ysp yjn ymd ybg ymm yup yun) [(cI, .int), (cZ, .boolean)] A r) ([.ref (md 0), .int p1] : List Value).toArray s 0 0 A) (F0 m 18 ls [.int y18, .ref (md 0)]) := by
    intro y18 ez
    rw [ez] at hm
    refine va_put (D := (dC, dI)) (ci := 3) (v := .int y18) (ty := .int) (C := RX3) (T := TX3) (N := 18) hx hb hts ziX3 tyX3 tyX3_ok nmX3 hown hK hP hD hS 0 rfl rfl 0 (by decide) zw0 (fun _ h9 => h9) rfl (by decide +kernel) rfl rfl (Nat.le_of_ble_eq_true rfl) dX3_select_18 (fun H locs hP hD hS => ?_)
    have hP : va_P (dC, dI) vwCl (wM cI cZ md y18 ybd yro yrow ymk yrm yst ypc ybu ybn ymg ysp yjn ymd ybg ymm yup yun) H := hP
    have hD : va_D A (wM cI cZ md y18 ybd yro yrow ymk yrm yst ypc ybu ybn ymg ysp yjn ymd ybg ymm yup yun) := hD
    refine lv_aload_n hx hb dX3_select_21 rfl (lv_at hl 0 rfl) ?_
    refine va_get (D := (dC, dI)) (ci := 3) (v := .int y18) (C := RX3) (T := TX3) (N := 18) hx hb hts ziX3 hown hK hP 0 rfl rfl 0 (by decide) zw0 (fun _ h9 => h9) rfl dX3_select_22 ?_
    refine lv_if_le (tgt := 32) hx hb dX3_select_25 (by decide) (fun c_25 => ?_) (fun c_25 => ?_)
    · have hm := it_t hm c_25
      refine lv_aload_n hx hb dX3_select_32 rfl (lv_at hl 0 rfl) ?_
      refine lv_iload_n hx hb dX3_select_33 rfl (lv_at hl 1 rfl) ?_
      obtain ⟨r34, h_34, hm⟩ := ob hm
      refine z_callRi (As := [.int p1]) (rest := []) (ci := 3) (q := (RX3, TX3, 18)) ⟨hx, hb, hml, hown, hts⟩ (c_X3_behindSo l dC dI cI cZ md y18 ybd yro yrow ymk yrm yst ypc ybu ybn ymg ysp yjn ymd ybg ymm yup yun F p1 r34 h_34) (cwV 1 hts gX3_select_X3_behindSo rfl rfl rfl kv_X3_behindSo ⟨Nat.le_of_ble_eq_true rfl, Nat.le_of_ble_eq_true rfl⟩) hK hP rfl rfl rfl rfl hl.1 rfl (Nat.le_of_ble_eq_true rfl) dX3_select_34 ⟨Nat.zero_le _, Nat.zero_le _⟩ ?_
      cases o2 hm
      exact W.iret hx hb hr (fun t ht hW => ⟨⟨_, (), rfl, rfl, by rw [ht]; exact hP, va_K.moved hW.alike hK, hD⟩, hS.F ht⟩) hS.2.2 dX3_select_37
    · have hm := it_f hm c_25
      refine lv_iconst (v := 0) hx hb dX3_select_28 (by decide) ?_
      refine lv_goto (tgt := 37) hx hb dX3_select_29 (by decide) ?_
      cases o2 hm
      exact W.iret hx hb hr (fun t ht hW => ⟨⟨_, (), rfl, rfl, by rw [ht]; exact hP, va_K.moved hW.alike hK, hD⟩, hS.F ht⟩) hS.2.2 dX3_select_37
  have hm := hq_18
  refine lv_if_lt (tgt := 17) hx hb dX3_select_2 (by decide) (fun c_2 => ?_) (fun c_2 => ?_)
  · have hm := it_t hm c_2
    refine lv_iconst (v := 1) hx hb dX3_select_17 (by decide) ?_
    exact J_18 1 (o2 hm)
  · have hm := it_f hm c_2
    refine lv_iload_n hx hb dX3_select_5 rfl (lv_at hl 1 rfl) ?_
    refine lv_aload_n hx hb dX3_select_6 rfl (lv_at hl 0 rfl) ?_
    obtain ⟨r7, h_7, hm⟩ := ob hm
    refine z_callRi (As := []) (rest := [.int p1, .ref (md 0)]) (ci := 3) (q := (RX3, TX3, 18)) ⟨hx, hb, hml, hown, hts⟩ (c_X3_keys l dC dI cI cZ md yth ybd yro yrow ymk yrm yst ypc ybu ybn ymg ysp yjn ymd ybg ymm yup yun F r7 h_7) (cwV 0 hts gX3_select_X3_keys rfl rfl rfl kv_X3_keys ⟨Nat.le_of_ble_eq_true rfl, Nat.le_of_ble_eq_true rfl⟩) hK hP rfl rfl rfl rfl hl.1 rfl (Nat.le_of_ble_eq_true rfl) dX3_select_7 ⟨Nat.zero_le _, Nat.zero_le _⟩ ?_
    refine lv_icmp_ge (tgt := 17) hx hb dX3_select_10 (by decide) (fun c_10 => ?_) (fun c_10 => ?_)
    · have hm := it_t hm c_10
      refine lv_iconst (v := 1) hx hb dX3_select_17 (by decide) ?_
      exact J_18 1 (o2 hm)
    · have hm := it_f hm c_10
      refine lv_iconst (v := 0) hx hb dX3_select_13 (by decide) ?_
      refine lv_goto (tgt := 18) hx hb dX3_select_14 (by decide) ?_
      exact J_18 0 (o2 hm)
set_option maxHeartbeats 4000000 in
set_option maxRecDepth 100000 in
theorem c_X3_ceiling (l : Launch) (dC : Nat → ClassId) (dI : Nat → Nat → Nat) (cI : ClassId) (cZ : ClassId) (md : Nat → Nat) (yth : Int32) (ybd : Int32) (yro : Int32) (yrow : Nat → Int32) (ymk : Nat → Int32) (yrm : Int32) (yst : Nat → Int32) (ypc : Int32) (ybu : Nat → Int32) (ybn : Int32) (ymg : Int32) (ysp : Int32) (yjn : Int32) (ymd : Nat → Int32) (ybg : Nat → Int32) (ymm : Int32) (yup : Int64) (yun : Int64) (F : Nat) (p1 : Int32) (sz : Nat) (r : Int32) (u_yth : Int32) (hm : X3_ceiling F yth yrow ymk yrm ybu ybn p1 = some (r, u_yth)) : Met l yX3_ceiling wsX3_ceiling ({ frames := 2, cells := 0, slots := 0, locals := 47 }) (va_Pc [.ref (md 0), .int p1] (zW (dC, dI) (wM cI cZ md yth ybd yro yrow ymk yrm yst ypc ybu ybn ymg ysp yjn ymd ybg ymm yup yun) [(cI, .int), (cZ, .boolean)] sz)) (zQi (dC, dI) (wM cI cZ md u_yth ybd yro yrow ymk yrm yst ypc ybu ybn ymg ysp yjn ymd ybg ymm yup yun) [(cI, .int), (cZ, .boolean)] (va_A (wM cI cZ md yth ybd yro yrow ymk yrm yst ypc ybu ybn ymg ysp yjn ymd ybg ymm yup yun) sz) r) 0 0 (va_A (wM cI cZ md yth ybd yro yrow ymk yrm yst ypc ybu ybn ymg ysp yjn ymd ybg ymm yup yun) sz) := by
  refine Met.ofW (cc := cX3_ceiling) (maxL := 3) (ret := (some .int)) (by decide) rfl ?_
  intro p e s m args below meth c s₁ B hml hv
  obtain ⟨rfl, hsz, hP, hK, hD0⟩ := hv
  have hx := B.exec
  have hb := B.bytes
  have hr := B.returns
  have hts := atoms_spec (ws := wsX3_ceiling) B.pre
  have hown : s.vm.findClass RX3 = some m.cls := findClass_of_methodNamed B.named
  have hlocks := B.notSynchronized
  subst hsz
  have hD := hD0.self (sz := s.heap.size)
  generalize hAe : va_A (wM cI cZ md yth ybd yro yrow ymk yrm yst ypc ybu ybn ymg ysp yjn ymd ybg ymm yup yun) s.heap.size = A at hD ⊢
  have hA : ∀ q : Nat, s.heap.size ≤ q → A q := fun q h => by rw [← hAe]; exact Or.inr h
  have hS : va_S A s.heap s.heap [] := va_S.rf
  generalize eL : ([] : List Loc) = locs at hS ⊢
  obtain ⟨H, eH⟩ : ∃ z : Heap, z = s.heap := ⟨_, rfl⟩
  have hP : va_P (dC, dI) vwCl (wM cI cZ md yth ybd yro yrow ymk yrm yst ypc ybu ybn ymg ysp yjn ymd ybg ymm yup yun) H := by rw [eH]; exact hP
  have hS : va_S A s.heap H locs := by rw [eH]; exact hS
  refine z_heap eH ?_
  have hl := lv_entry ([.ref (md 0), .int p1]) (n := 3) (Nat.le_of_ble_eq_true rfl)
  rw [lg_entry_eq]
  generalize (lg_sl ([.ref (md 0), .int p1]) ++ List.replicate (3 - (lg_sl ([.ref (md 0), .int p1])).length) Slot.unset).toArray = ls at hl ⊢
  have hl : lv_has ls 3 [(0, .ref (md 0)), (1, .int p1)] := hl
  have zw0 := hts (.fieldLink RX3 36 "LearnedLedgeModel" "thrown" "I") (by decide +kernel)
  have ziX3 : ∀ w ∈ u_ws RX3 TX3 18, w ∈ wsX3_ceiling := by decide +kernel
  refine lv_aload_n hx hb dX3_ceiling_0 rfl (lv_at hl 0 rfl) ?_
  refine lv_iload_n hx hb dX3_ceiling_1 rfl (lv_at hl 1 rfl) ?_
  refine lv_i2l hx hb dX3_ceiling_2 rfl ?_
  obtain ⟨r3, h_3, hm⟩ := ob hm
  refine z_callRi (As := [.long (Int32.toInt64 p1)]) (rest := []) (ci := 3) (q := (RX3, TX3, 18)) ⟨hx, hb, hml, hown, hts⟩ (c_X3_below l dC dI cI cZ md yth ybd yro yrow ymk yrm yst ypc ybu ybn ymg ysp yjn ymd ybg ymm yup yun F (Int32.toInt64 p1) r3 h_3) (cwV 1 hts gX3_ceiling_X3_below rfl rfl rfl kv_X3_below ⟨Nat.le_of_ble_eq_true rfl, Nat.le_of_ble_eq_true rfl⟩) hK hP rfl rfl rfl rfl hl.1 rfl (Nat.le_of_ble_eq_true rfl) dX3_ceiling_3 ⟨Nat.zero_le _, Nat.zero_le _⟩ ?_
  refine lv_istore_n (lv' := [(2, .int r3), (0, .ref (md 0)), (1, .int p1)]) hx hb dX3_ceiling_6 rfl hl (by decide) rfl (fun ls hl => ?_)
  refine lv_aload_n hx hb dX3_ceiling_7 rfl (lv_at hl 1 rfl) ?_
  refine lv_iload_n hx hb dX3_ceiling_8 rfl (lv_at hl 0 rfl) ?_
  refine lv_aload_n hx hb dX3_ceiling_9 rfl (lv_at hl 1 rfl) ?_
  obtain ⟨r10, h_10, hm⟩ := ob hm
  refine z_callRi (As := []) (rest := [.int r3, .ref (md 0)]) (ci := 3) (q := (RX3, TX3, 18)) ⟨hx, hb, hml, hown, hts⟩ (c_X3_keys l dC dI cI cZ md yth ybd yro yrow ymk yrm yst ypc ybu ybn ymg ysp yjn ymd ybg ymm yup yun F r10 h_10) (cwV 0 hts gX3_ceiling_X3_keys rfl rfl rfl kv_X3_keys ⟨Nat.le_of_ble_eq_true rfl, Nat.le_of_ble_eq_true rfl⟩) hK hP rfl rfl rfl rfl hl.1 rfl (Nat.le_of_ble_eq_true rfl) dX3_ceiling_10 ⟨Nat.zero_le _, Nat.zero_le _⟩ ?_
  obtain ⟨y21, e_y21⟩ : ∃ y : Int32, y = (if r10 ≤ r3 then 1 else 0) := ⟨_, rfl⟩
  have hm := bnd_e hm e_y21
  have J_21 : W p l e (headSpec wsX3_ceiling ({ frames := 2, cells := 0, slots := 0, locals := 47 } : Room)).room s m ([.ref (md 0), .int p1] : List Value).toArray below meth c H locs 0 0 (MQ below (zQi (dC, dI) (wM cI cZ md u_yth ybd yro yrow ymk yrm yst ypc ybu ybn ymg ysp yjn ymd ybg ymm yup yun) [(cI, .int), (cZ, .boolean)] A r) ([.ref (md 0), .int p1] : List Value).toArray s 0 0 A) (F0 m 21 ls [.int y21, .ref (md 0)]) := by
    refine va_put (D := (dC, dI)) (ci := 3) (v := .int y21) (ty := .int) (C := RX3) (T := TX3) (N := 18) hx hb hts ziX3 tyX3 tyX3_ok nmX3 hown hK hP hD hS 0 rfl rfl 0 (by decide) zw0 (fun _ h9 => h9) rfl (by decide +kernel) rfl rfl (Nat.le_of_ble_eq_true rfl) dX3_ceiling_21 (fun H locs hP hD hS => ?_)
    have hP : va_P (dC, dI) vwCl (wM cI cZ md y21 ybd yro yrow ymk yrm yst ypc ybu ybn ymg ysp yjn ymd ybg ymm yup yun) H := hP
    have hD : va_D A (wM cI cZ md y21 ybd yro yrow ymk yrm yst ypc ybu ybn ymg ysp yjn ymd ybg ymm yup yun) := hD
    refine lv_aload_n hx hb dX3_ceiling_24 rfl (lv_at hl 1 rfl) ?_
    refine va_get (D := (dC, dI)) (ci := 3) (v := .int y21) (C := RX3) (T := TX3) (N := 18) hx hb hts ziX3 hown hK hP 0 rfl rfl 0 (by decide) zw0 (fun _ h9 => h9) rfl dX3_ceiling_25 ?_
    refine lv_if_le (tgt := 35) hx hb dX3_ceiling_28 (by decide) (fun c_28 => ?_) (fun c_28 => ?_)
    · have hm := it_t hm c_28
      refine lv_aload_n hx hb dX3_ceiling_35 rfl (lv_at hl 1 rfl) ?_
      refine lv_iload_n hx hb dX3_ceiling_36 rfl (lv_at hl 0 rfl) ?_
      obtain ⟨r37, h_37, hm⟩ := ob hm
      refine z_callRi (As := [.int r3]) (rest := []) (ci := 3) (q := (RX3, TX3, 18)) ⟨hx, hb, hml, hown, hts⟩ (c_X3_behindSo l dC dI cI cZ md y21 ybd yro yrow ymk yrm yst ypc ybu ybn ymg ysp yjn ymd ybg ymm yup yun F r3 r37 h_37) (cwV 1 hts gX3_ceiling_X3_behindSo rfl rfl rfl kv_X3_behindSo ⟨Nat.le_of_ble_eq_true rfl, Nat.le_of_ble_eq_true rfl⟩) hK hP rfl rfl rfl rfl hl.1 rfl (Nat.le_of_ble_eq_true rfl) dX3_ceiling_37 ⟨Nat.zero_le _, Nat.zero_le _⟩ ?_
      cases o2 hm
      exact W.iret hx hb hr (fun t ht hW => ⟨⟨_, (), rfl, rfl, by rw [ht]; exact hP, va_K.moved hW.alike hK, hD⟩, hS.F ht⟩) hS.2.2 dX3_ceiling_40
    · have hm := it_f hm c_28
      refine lv_iconst (v := 0) hx hb dX3_ceiling_31 (by decide) ?_
      refine lv_goto (tgt := 40) hx hb dX3_ceiling_32 (by decide) ?_
      cases o2 hm
      exact W.iret hx hb hr (fun t ht hW => ⟨⟨_, (), rfl, rfl, by rw [ht]; exact hP, va_K.moved hW.alike hK, hD⟩, hS.F ht⟩) hS.2.2 dX3_ceiling_40
  refine lv_icmp_ge (tgt := 20) hx hb dX3_ceiling_13 (by decide) (fun c_13 => ?_) (fun c_13 => ?_)
  · refine lv_iconst (v := 1) hx hb dX3_ceiling_20 (by decide) ?_
    have e9 : y21 = 1 := by rw [e_y21, if_pos c_13]
    rw [e9] at J_21
    exact J_21
  · refine lv_iconst (v := 0) hx hb dX3_ceiling_16 (by decide) ?_
    refine lv_goto (tgt := 21) hx hb dX3_ceiling_17 (by decide) ?_
    have e9 : y21 = 0 := by rw [e_y21, if_neg c_13]
    rw [e9] at J_21
    exact J_21
set_option maxHeartbeats 4000000 in
set_option maxRecDepth 100000 in
theorem c_X3_count (l : Launch) (dC : Nat → ClassId) (dI : Nat → Nat → Nat) (cI : ClassId) (cZ : ClassId) (md : Nat → Nat) (yth : Int32) (ybd : Int32) (yro : Int32) (yrow : Nat → Int32) (ymk : Nat → Int32) (yrm : Int32) (yst : Nat → Int32) (ypc : Int32) (ybu : Nat → Int32) (ybn : Int32) (ymg : Int32) (ysp : Int32) (yjn : Int32) (ymd : Nat → Int32) (ybg : Nat → Int32) (ymm : Int32) (yup : Int64) (yun : Int64) (F : Nat) (p1 : Int32) (p2 : Int32) (sz : Nat) (r : Int32) (u_yth : Int32) (hm : X3_count F yth yrow ymk yrm ybu ybn p1 p2 = some (r, u_yth)) : Met l yX3_count wsX3_count ({ frames := 1, cells := 0, slots := 0, locals := 24 }) (va_Pc [.ref (md 0), .int p1, .int p2] (zW (dC, dI) (wM cI cZ md yth ybd yro yrow ymk yrm yst ypc ybu ybn ymg ysp yjn ymd ybg ymm yup yun) [(cI, .int), (cZ, .boolean)] sz)) (zQi (dC, dI) (wM cI cZ md u_yth ybd yro yrow ymk yrm yst ypc ybu ybn ymg ysp yjn ymd ybg ymm yup yun) [(cI, .int), (cZ, .boolean)] (va_A (wM cI cZ md yth ybd yro yrow ymk yrm yst ypc ybu ybn ymg ysp yjn ymd ybg ymm yup yun) sz) r) 0 0 (va_A (wM cI cZ md yth ybd yro yrow ymk yrm yst ypc ybu ybn ymg ysp yjn ymd ybg ymm yup yun) sz) := by
  refine Met.ofW (cc := cX3_count) (maxL := 3) (ret := (some .int)) (by decide) rfl ?_
  intro p e s m args below meth c s₁ B hml hv
  obtain ⟨rfl, hsz, hP, hK, hD0⟩ := hv
  have hx := B.exec
  have hb := B.bytes
  have hr := B.returns
  have hts := atoms_spec (ws := wsX3_count) B.pre
  have hown : s.vm.findClass RX3 = some m.cls := findClass_of_methodNamed B.named
  have hlocks := B.notSynchronized
  subst hsz
  have hD := hD0.self (sz := s.heap.size)
  generalize hAe : va_A (wM cI cZ md yth ybd yro yrow ymk yrm yst ypc ybu ybn ymg ysp yjn ymd ybg ymm yup yun) s.heap.size = A at hD ⊢
  have hA : ∀ q : Nat, s.heap.size ≤ q → A q := fun q h => by rw [← hAe]; exact Or.inr h
  have hS : va_S A s.heap s.heap [] := va_S.rf
  generalize eL : ([] : List Loc) = locs at hS ⊢
  obtain ⟨H, eH⟩ : ∃ z : Heap, z = s.heap := ⟨_, rfl⟩
  have hP : va_P (dC, dI) vwCl (wM cI cZ md yth ybd yro yrow ymk yrm yst ypc ybu ybn ymg ysp yjn ymd ybg ymm yup yun) H := by rw [eH]; exact hP
  have hS : va_S A s.heap H locs := by rw [eH]; exact hS
  refine z_heap eH ?_
  have hl := lv_entry ([.ref (md 0), .int p1, .int p2]) (n := 3) (Nat.le_of_ble_eq_true rfl)
  rw [lg_entry_eq]
  generalize (lg_sl ([.ref (md 0), .int p1, .int p2]) ++ List.replicate (3 - (lg_sl ([.ref (md 0), .int p1, .int p2])).length) Slot.unset).toArray = ls at hl ⊢
  have hl : lv_has ls 3 [(0, .ref (md 0)), (1, .int p1), (2, .int p2)] := hl
  have zw0 := hts (.fieldLink RX3 36 "LearnedLedgeModel" "thrown" "I") (by decide +kernel)
  have ziX3 : ∀ w ∈ u_ws RX3 TX3 18, w ∈ wsX3_count := by decide +kernel
  refine lv_aload_n hx hb dX3_count_0 rfl (lv_at hl 0 rfl) ?_
  refine lv_iconst (v := 0) hx hb dX3_count_1 (by decide) ?_
  refine va_put (D := (dC, dI)) (ci := 3) (v := .int 0) (ty := .int) (C := RX3) (T := TX3) (N := 18) hx hb hts ziX3 tyX3 tyX3_ok nmX3 hown hK hP hD hS 0 rfl rfl 0 (by decide) zw0 (fun _ h9 => h9) rfl (by decide +kernel) rfl rfl (Nat.le_of_ble_eq_true rfl) dX3_count_2 (fun H locs hP hD hS => ?_)
  have hP : va_P (dC, dI) vwCl (wM cI cZ md 0 ybd yro yrow ymk yrm yst ypc ybu ybn ymg ysp yjn ymd ybg ymm yup yun) H := hP
  have hD : va_D A (wM cI cZ md 0 ybd yro yrow ymk yrm yst ypc ybu ybn ymg ysp yjn ymd ybg ymm yup yun) := hD
  refine lv_iload_n hx hb dX3_count_5 rfl (lv_at hl 1 rfl) ?_
  refine lv_iload_n hx hb dX3_count_6 rfl (lv_at hl 2 rfl) ?_
  refine lv_icmp_le (tgt := 14) hx hb dX3_count_7 (by decide) (fun c_7 => ?_) (fun c_7 => ?_)
  · have hm := it_t hm c_7
    refine lv_aload_n hx hb dX3_count_14 rfl (lv_at hl 0 rfl) ?_
    refine lv_iload_n hx hb dX3_count_15 rfl (lv_at hl 2 rfl) ?_
    refine lv_i2l hx hb dX3_count_16 rfl ?_
    refine lv_lconst (v := 1) hx hb dX3_count_17 (by decide) ?_
    refine lv_ladd hx hb dX3_count_18 ?_
    obtain ⟨r19, h_19, hm⟩ := ob hm
    refine z_callRi (As := [.long ((Int32.toInt64 p2) + 1)]) (rest := []) (ci := 3) (q := (RX3, TX3, 18)) ⟨hx, hb, hml, hown, hts⟩ (c_X3_below l dC dI cI cZ md 0 ybd yro yrow ymk yrm yst ypc ybu ybn ymg ysp yjn ymd ybg ymm yup yun F ((Int32.toInt64 p2) + 1) r19 h_19) (cwV 1 hts gX3_count_X3_below rfl rfl rfl kv_X3_below ⟨Nat.le_of_ble_eq_true rfl, Nat.le_of_ble_eq_true rfl⟩) hK hP rfl rfl rfl rfl hl.1 rfl (Nat.le_of_ble_eq_true rfl) dX3_count_19 ⟨Nat.zero_le _, Nat.zero_le _⟩ ?_
    refine lv_aload_n hx hb dX3_count_22 rfl (lv_at hl 0 rfl) ?_
    refine lv_iload_n hx hb dX3_count_23 rfl (lv_at hl 1 rfl) ?_
    refine lv_i2l hx hb dX3_count_24 rfl ?_
    obtain ⟨r25, h_25, hm⟩ := ob hm
    refine z_callRi (As := [.long (Int32.toInt64 p1)]) (rest := [.int r19]) (ci := 3) (q := (RX3, TX3, 18)) ⟨hx, hb, hml, hown, hts⟩ (c_X3_below l dC dI cI cZ md 0 ybd yro yrow ymk yrm yst ypc ybu ybn ymg ysp yjn ymd ybg ymm yup yun F (Int32.toInt64 p1) r25 h_25) (cwV 1 hts gX3_count_X3_below rfl rfl rfl kv_X3_below ⟨Nat.le_of_ble_eq_true rfl, Nat.le_of_ble_eq_true rfl⟩) hK hP rfl rfl rfl rfl hl.1 rfl (Nat.le_of_ble_eq_true rfl) dX3_count_25 ⟨Nat.zero_le _, Nat.zero_le _⟩ ?_
    refine lv_isub hx hb dX3_count_28 ?_
    cases o2 hm
    exact W.iret hx hb hr (fun t ht hW => ⟨⟨_, (), rfl, rfl, by rw [ht]; exact hP, va_K.moved hW.alike hK, hD⟩, hS.F ht⟩) hS.2.2 dX3_count_29
  · have hm := it_f hm c_7
    refine lv_iconst (v := 0) hx hb dX3_count_10 (by decide) ?_
    refine lv_goto (tgt := 29) hx hb dX3_count_11 (by decide) ?_
    cases o2 hm
    exact W.iret hx hb hr (fun t ht hW => ⟨⟨_, (), rfl, rfl, by rw [ht]; exact hP, va_K.moved hW.alike hK, hD⟩, hS.F ht⟩) hS.2.2 dX3_count_29
set_option maxHeartbeats 4000000 in
set_option maxRecDepth 100000 in
theorem c_X3_place (l : Launch) (dC : Nat → ClassId) (dI : Nat → Nat → Nat) (cI : ClassId) (cZ : ClassId) (md : Nat → Nat) (yth : Int32) (ybd : Int32) (yro : Int32) (yrow : Nat → Int32) (ymk : Nat → Int32) (yrm : Int32) (yst : Nat → Int32) (ypc : Int32) (ybu : Nat → Int32) (ybn : Int32) (ymg : Int32) (ysp : Int32) (yjn : Int32) (ymd : Nat → Int32) (ybg : Nat → Int32) (ymm : Int32) (yup : Int64) (yun : Int64) (F : Nat) (p1 : Int32) (sz : Nat) (r : Int32) (u_yth : Int32) (hm : X3_place F yth yrow yrm p1 = some (r, u_yth)) : Met l yX3_place wsX3_place ({ frames := 1, cells := 0, slots := 0, locals := 22 }) (va_Pc [.ref (md 0), .int p1] (zW (dC, dI) (wM cI cZ md yth ybd yro yrow ymk yrm yst ypc ybu ybn ymg ysp yjn ymd ybg ymm yup yun) [(cI, .int), (cZ, .boolean)] sz)) (zQi (dC, dI) (wM cI cZ md u_yth ybd yro yrow ymk yrm yst ypc ybu ybn ymg ysp yjn ymd ybg ymm yup yun) [(cI, .int), (cZ, .boolean)] (va_A (wM cI cZ md yth ybd yro yrow ymk yrm yst ypc ybu ybn ymg ysp yjn ymd ybg ymm yup yun) sz) r) 0 0 (va_A (wM cI cZ md yth ybd yro yrow ymk yrm yst ypc ybu ybn ymg ysp yjn ymd ybg ymm yup yun) sz) := by
  refine Met.ofW (cc := cX3_place) (maxL := 2) (ret := (some .int)) (by decide) rfl ?_
  intro p e s m args below meth c s₁ B hml hv
  obtain ⟨rfl, hsz, hP, hK, hD0⟩ := hv
  have hx := B.exec
  have hb := B.bytes
  have hr := B.returns
  have hts := atoms_spec (ws := wsX3_place) B.pre
  have hown : s.vm.findClass RX3 = some m.cls := findClass_of_methodNamed B.named
  have hlocks := B.notSynchronized
  subst hsz
  have hD := hD0.self (sz := s.heap.size)
  generalize hAe : va_A (wM cI cZ md yth ybd yro yrow ymk yrm yst ypc ybu ybn ymg ysp yjn ymd ybg ymm yup yun) s.heap.size = A at hD ⊢
  have hA : ∀ q : Nat, s.heap.size ≤ q → A q := fun q h => by rw [← hAe]; exact Or.inr h
  have hS : va_S A s.heap s.heap [] := va_S.rf
  generalize eL : ([] : List Loc) = locs at hS ⊢
  obtain ⟨H, eH⟩ : ∃ z : Heap, z = s.heap := ⟨_, rfl⟩
  have hP : va_P (dC, dI) vwCl (wM cI cZ md yth ybd yro yrow ymk yrm yst ypc ybu ybn ymg ysp yjn ymd ybg ymm yup yun) H := by rw [eH]; exact hP
  have hS : va_S A s.heap H locs := by rw [eH]; exact hS
  refine z_heap eH ?_
  have hl := lv_entry ([.ref (md 0), .int p1]) (n := 2) (Nat.le_of_ble_eq_true rfl)
  rw [lg_entry_eq]
  generalize (lg_sl ([.ref (md 0), .int p1]) ++ List.replicate (2 - (lg_sl ([.ref (md 0), .int p1])).length) Slot.unset).toArray = ls at hl ⊢
  have hl : lv_has ls 2 [(0, .ref (md 0)), (1, .int p1)] := hl
  have zw0 := hts (.fieldLink RX3 36 "LearnedLedgeModel" "thrown" "I") (by decide +kernel)
  have ziX3 : ∀ w ∈ u_ws RX3 TX3 18, w ∈ wsX3_place := by decide +kernel
  refine lv_aload_n hx hb dX3_place_0 rfl (lv_at hl 0 rfl) ?_
  refine lv_iconst (v := 0) hx hb dX3_place_1 (by decide) ?_
  refine va_put (D := (dC, dI)) (ci := 3) (v := .int 0) (ty := .int) (C := RX3) (T := TX3) (N := 18) hx hb hts ziX3 tyX3 tyX3_ok nmX3 hown hK hP hD hS 0 rfl rfl 0 (by decide) zw0 (fun _ h9 => h9) rfl (by decide +kernel) rfl rfl (Nat.le_of_ble_eq_true rfl) dX3_place_2 (fun H locs hP hD hS => ?_)
  have hP : va_P (dC, dI) vwCl (wM cI cZ md 0 ybd yro yrow ymk yrm yst ypc ybu ybn ymg ysp yjn ymd ybg ymm yup yun) H := hP
  have hD : va_D A (wM cI cZ md 0 ybd yro yrow ymk yrm yst ypc ybu ybn ymg ysp yjn ymd ybg ymm yup yun) := hD
  refine lv_aload_n hx hb dX3_place_5 rfl (lv_at hl 0 rfl) ?_
  refine lv_iload_n hx hb dX3_place_6 rfl (lv_at hl 1 rfl) ?_
  obtain ⟨r7, h_7, hm⟩ := ob hm
  refine z_callRi (As := [.int p1]) (rest := []) (ci := 3) (q := (RX3, TX3, 18)) ⟨hx, hb, hml, hown, hts⟩ (c_X3_placeOf l dC dI cI cZ md 0 ybd yro yrow ymk yrm yst ypc ybu ybn ymg ysp yjn ymd ybg ymm yup yun F p1 r7 h_7) (cwV 1 hts gX3_place_X3_placeOf rfl rfl rfl kv_X3_placeOf ⟨Nat.le_of_ble_eq_true rfl, Nat.le_of_ble_eq_true rfl⟩) hK hP rfl rfl rfl rfl hl.1 rfl (Nat.le_of_ble_eq_true rfl) dX3_place_7 ⟨Nat.zero_le _, Nat.zero_le _⟩ ?_
  cases o2 hm
  exact W.iret hx hb hr (fun t ht hW => ⟨⟨_, (), rfl, rfl, by rw [ht]; exact hP, va_K.moved hW.alike hK, hD⟩, hS.F ht⟩) hS.2.2 dX3_place_10
set_option maxHeartbeats 4000000 in
set_option maxRecDepth 100000 in
theorem c_X3_guessOf (l : Launch) (dC : Nat → ClassId) (dI : Nat → Nat → Nat) (cI : ClassId) (cZ : ClassId) (md : Nat → Nat) (yth : Int32) (ybd : Int32) (yro : Int32) (yrow : Nat → Int32) (ymk : Nat → Int32) (yrm : Int32) (yst : Nat → Int32) (ypc : Int32) (ybu : Nat → Int32) (ybn : Int32) (ymg : Int32) (ysp : Int32) (yjn : Int32) (ymd : Nat → Int32) (ybg : Nat → Int32) (ymm : Int32) (yup : Int64) (yun : Int64) (F : Nat) (p1 : Int32) (p2 : Int32) (sz : Nat) (r : Int64) (u_yup : Int64) (u_yun : Int64) (hm : X3_guessOf F ybd yrow yrm yst ypc yup yun p1 p2 = some (r, u_yup, u_yun)) : Met l yX3_guessOf wsX3_guessOf ({ frames := 2, cells := 0, slots := 0, locals := 55 }) (va_Pc [.ref (md 0), .int p1, .int p2] (zW (dC, dI) (wM cI cZ md yth ybd yro yrow ymk yrm yst ypc ybu ybn ymg ysp yjn ymd ybg ymm yup yun) [(cI, .int), (cZ, .boolean)] sz)) (zQl (dC, dI) (wM cI cZ md yth ybd yro yrow ymk yrm yst ypc ybu ybn ymg ysp yjn ymd ybg ymm u_yup u_yun) [(cI, .int), (cZ, .boolean)] (va_A (wM cI cZ md yth ybd yro yrow ymk yrm yst ypc ybu ybn ymg ysp yjn ymd ybg ymm yup yun) sz) r) 0 0 (va_A (wM cI cZ md yth ybd yro yrow ymk yrm yst ypc ybu ybn ymg ysp yjn ymd ybg ymm yup yun) sz) := by
  refine Met.ofW (cc := cX3_guessOf) (maxL := 3) (ret := (some .long)) (by decide) rfl ?_
  intro p e s m args below meth c s₁ B hml hv
  obtain ⟨rfl, hsz, hP, hK, hD0⟩ := hv
  have hx := B.exec
  have hb := B.bytes
  have hr := B.returns
  have hts := atoms_spec (ws := wsX3_guessOf) B.pre
  have hown : s.vm.findClass RX3 = some m.cls := findClass_of_methodNamed B.named
  have hlocks := B.notSynchronized
  subst hsz
  have hD := hD0.self (sz := s.heap.size)
  generalize hAe : va_A (wM cI cZ md yth ybd yro yrow ymk yrm yst ypc ybu ybn ymg ysp yjn ymd ybg ymm yup yun) s.heap.size = A at hD ⊢
  have hA : ∀ q : Nat, s.heap.size ≤ q → A q := fun q h => by rw [← hAe]; exact Or.inr h
  have hS : va_S A s.heap s.heap [] := va_S.rf
  generalize eL : ([] : List Loc) = locs at hS ⊢
  obtain ⟨H, eH⟩ : ∃ z : Heap, z = s.heap := ⟨_, rfl⟩
  have hP : va_P (dC, dI) vwCl (wM cI cZ md yth ybd yro yrow ymk yrm yst ypc ybu ybn ymg ysp yjn ymd ybg ymm yup yun) H := by rw [eH]; exact hP
  have hS : va_S A s.heap H locs := by rw [eH]; exact hS
  refine z_heap eH ?_
  have hl := lv_entry ([.ref (md 0), .int p1, .int p2]) (n := 3) (Nat.le_of_ble_eq_true rfl)
  rw [lg_entry_eq]
  generalize (lg_sl ([.ref (md 0), .int p1, .int p2]) ++ List.replicate (3 - (lg_sl ([.ref (md 0), .int p1, .int p2])).length) Slot.unset).toArray = ls at hl ⊢
  have hl : lv_has ls 3 [(0, .ref (md 0)), (1, .int p1), (2, .int p2)] := hl
  have zw0 := hts (.fieldLink RX3 24 "LearnedLedgeModel" "start" "[I") (by decide +kernel)
  have zw1 := hts (.fieldLink RX3 41 "LearnedLedgeModel" "leastUp" "J") (by decide +kernel)
  have zw2 := hts (.fieldLink RX3 16 "LearnedLedgeModel" "row" "[I") (by decide +kernel)
  have zw3 := hts (.fieldLink RX3 45 "LearnedLedgeModel" "leastUnder" "J") (by decide +kernel)
  have ziX3 : ∀ w ∈ u_ws RX3 TX3 18, w ∈ wsX3_guessOf := by decide +kernel
  refine lv_aload_n hx hb dX3_guessOf_0 rfl (lv_at hl 0 rfl) ?_
  refine lv_iload_n hx hb dX3_guessOf_1 rfl (lv_at hl 2 rfl) ?_
  obtain ⟨⟨yup2, yun2⟩, h_2, hm⟩ := ob hm
  refine z_callWv (wc := (wM cI cZ md yth ybd yro yrow ymk yrm yst ypc ybu ybn ymg ysp yjn ymd ybg ymm yup yun)) (w1 := (wM cI cZ md yth ybd yro yrow ymk yrm yst ypc ybu ybn ymg ysp yjn ymd ybg ymm yup2 yun2)) (ws := (wM cI cZ md yth ybd yro yrow ymk yrm yst ypc ybu ybn ymg ysp yjn ymd ybg ymm yup yun)) (ws' := (wM cI cZ md yth ybd yro yrow ymk yrm yst ypc ybu ybn ymg ysp yjn ymd ybg ymm yup2 yun2)) [0, 1, 2, 3, 4, 5, 6] [] 7 (As := [.int p2]) (rest := []) (ci := 3) (q := (RX3, TX3, 18)) ⟨hx, hb, hml, hown, hts⟩ (c_X3_lays l dC dI cI cZ md yth ybd yro yrow ymk yrm yst ypc ybu ybn ymg ysp yjn ymd ybg ymm yup yun F p2 H.size yup2 yun2 h_2) (cwV 1 hts gX3_guessOf_X3_lays rfl rfl rfl kv_X3_lays ⟨Nat.le_of_ble_eq_true rfl, Nat.le_of_ble_eq_true rfl⟩) hK hP hD hS hA hP hD rfl rfl (by decide) rfl rfl (by decide) rfl rfl rfl rfl rfl hl.1 rfl (Nat.le_of_ble_eq_true rfl) dX3_guessOf_2 ⟨Nat.zero_le _, Nat.zero_le _⟩ (fun H locs hP hD hS => ?_)
  refine lv_aload_n hx hb dX3_guessOf_5 rfl (lv_at hl 0 rfl) ?_
  refine va_get (D := (dC, dI)) (ci := 3) (v := .ref (md 3)) (C := RX3) (T := TX3) (N := 18) hx hb hts ziX3 hown hK hP 0 rfl rfl 6 (by decide) zw0 (fun _ h9 => h9) rfl dX3_guessOf_6 ?_
  refine lv_iload_n hx hb dX3_guessOf_9 rfl (lv_at hl 2 rfl) ?_
  obtain ⟨c_10, hm⟩ := ck hm
  refine va_iald hx hb hK hP 3 0 rfl rfl c_10 dX3_guessOf_10 ?_
  refine lv_i2l hx hb dX3_guessOf_11 rfl ?_
  refine lv_aload_n hx hb dX3_guessOf_12 rfl (lv_at hl 0 rfl) ?_
  refine va_get (D := (dC, dI)) (ci := 3) (v := .long yup2) (C := RX3) (T := TX3) (N := 18) hx hb hts ziX3 hown hK hP 0 rfl rfl 16 (by decide) zw1 (fun _ h9 => h9) rfl dX3_guessOf_13 ?_
  refine lv_iload_n hx hb dX3_guessOf_16 rfl (lv_at hl 1 rfl) ?_
  refine lv_i2l hx hb dX3_guessOf_17 rfl ?_
  refine lv_aload_n hx hb dX3_guessOf_18 rfl (lv_at hl 0 rfl) ?_
  refine va_get (D := (dC, dI)) (ci := 3) (v := .ref (md 1)) (C := RX3) (T := TX3) (N := 18) hx hb hts ziX3 hown hK hP 0 rfl rfl 3 (by decide) zw2 (fun _ h9 => h9) rfl dX3_guessOf_19 ?_
  refine lv_aload_n hx hb dX3_guessOf_22 rfl (lv_at hl 0 rfl) ?_
  refine va_get (D := (dC, dI)) (ci := 3) (v := .ref (md 3)) (C := RX3) (T := TX3) (N := 18) hx hb hts ziX3 hown hK hP 0 rfl rfl 6 (by decide) zw0 (fun _ h9 => h9) rfl dX3_guessOf_23 ?_
  refine lv_iload_n hx hb dX3_guessOf_26 rfl (lv_at hl 2 rfl) ?_
  obtain ⟨c_27, hm⟩ := ck hm
  refine va_iald hx hb hK hP 3 0 rfl rfl c_27 dX3_guessOf_27 ?_
  obtain ⟨c_28, hm⟩ := ck hm
  refine va_iald hx hb hK hP 1 0 rfl rfl c_28 dX3_guessOf_28 ?_
  refine lv_i2l hx hb dX3_guessOf_29 rfl ?_
  refine lv_lsub hx hb dX3_guessOf_30 ?_
  refine lv_lmul hx hb dX3_guessOf_31 ?_
  refine lv_aload_n hx hb dX3_guessOf_32 rfl (lv_at hl 0 rfl) ?_
  refine va_get (D := (dC, dI)) (ci := 3) (v := .long yun2) (C := RX3) (T := TX3) (N := 18) hx hb hts ziX3 hown hK hP 0 rfl rfl 17 (by decide) zw3 (fun _ h9 => h9) rfl dX3_guessOf_33 ?_
  obtain ⟨c_36, hm⟩ := ck hm
  refine lv_ldiv hx hb dX3_guessOf_36 c_36 ?_
  refine lv_ladd hx hb dX3_guessOf_37 ?_
  cases o2 hm
  exact W.lret hx hb hr (fun t ht hW => ⟨⟨_, (), rfl, rfl, by rw [ht]; exact hP, va_K.moved hW.alike hK, hD⟩, hS.F ht⟩) hS.2.2 dX3_guessOf_38
set_option maxHeartbeats 4000000 in
set_option maxRecDepth 100000 in
theorem c_X3_guess (l : Launch) (dC : Nat → ClassId) (dI : Nat → Nat → Nat) (cI : ClassId) (cZ : ClassId) (md : Nat → Nat) (yth : Int32) (ybd : Int32) (yro : Int32) (yrow : Nat → Int32) (ymk : Nat → Int32) (yrm : Int32) (yst : Nat → Int32) (ypc : Int32) (ybu : Nat → Int32) (ybn : Int32) (ymg : Int32) (ysp : Int32) (yjn : Int32) (ymd : Nat → Int32) (ybg : Nat → Int32) (ymm : Int32) (yup : Int64) (yun : Int64) (F : Nat) (p1 : Int32) (sz : Nat) (r : Int64) (u_yth : Int32) (u_yup : Int64) (u_yun : Int64) (hm : X3_guess F yth ybd yrow yrm yst ypc yup yun p1 = some (r, u_yth, u_yup, u_yun)) : Met l yX3_guess wsX3_guess ({ frames := 3, cells := 0, slots := 0, locals := 77 }) (va_Pc [.ref (md 0), .int p1] (zW (dC, dI) (wM cI cZ md yth ybd yro yrow ymk yrm yst ypc ybu ybn ymg ysp yjn ymd ybg ymm yup yun) [(cI, .int), (cZ, .boolean)] sz)) (zQl (dC, dI) (wM cI cZ md u_yth ybd yro yrow ymk yrm yst ypc ybu ybn ymg ysp yjn ymd ybg ymm u_yup u_yun) [(cI, .int), (cZ, .boolean)] (va_A (wM cI cZ md yth ybd yro yrow ymk yrm yst ypc ybu ybn ymg ysp yjn ymd ybg ymm yup yun) sz) r) 0 0 (va_A (wM cI cZ md yth ybd yro yrow ymk yrm yst ypc ybu ybn ymg ysp yjn ymd ybg ymm yup yun) sz) := by
  refine Met.ofW (cc := cX3_guess) (maxL := 3) (ret := (some .long)) (by decide) rfl ?_
  intro p e s m args below meth c s₁ B hml hv
  obtain ⟨rfl, hsz, hP, hK, hD0⟩ := hv
  have hx := B.exec
  have hb := B.bytes
  have hr := B.returns
  have hts := atoms_spec (ws := wsX3_guess) B.pre
  have hown : s.vm.findClass RX3 = some m.cls := findClass_of_methodNamed B.named
  have hlocks := B.notSynchronized
  subst hsz
  have hD := hD0.self (sz := s.heap.size)
  generalize hAe : va_A (wM cI cZ md yth ybd yro yrow ymk yrm yst ypc ybu ybn ymg ysp yjn ymd ybg ymm yup yun) s.heap.size = A at hD ⊢
  have hA : ∀ q : Nat, s.heap.size ≤ q → A q := fun q h => by rw [← hAe]; exact Or.inr h
  have hS : va_S A s.heap s.heap [] := va_S.rf
  generalize eL : ([] : List Loc) = locs at hS ⊢
  obtain ⟨H, eH⟩ : ∃ z : Heap, z = s.heap := ⟨_, rfl⟩
  have hP : va_P (dC, dI) vwCl (wM cI cZ md yth ybd yro yrow ymk yrm yst ypc ybu ybn ymg ysp yjn ymd ybg ymm yup yun) H := by rw [eH]; exact hP
  have hS : va_S A s.heap H locs := by rw [eH]; exact hS
  refine z_heap eH ?_
  have hl := lv_entry ([.ref (md 0), .int p1]) (n := 3) (Nat.le_of_ble_eq_true rfl)
  rw [lg_entry_eq]
  generalize (lg_sl ([.ref (md 0), .int p1]) ++ List.replicate (3 - (lg_sl ([.ref (md 0), .int p1])).length) Slot.unset).toArray = ls at hl ⊢
  have hl : lv_has ls 3 [(0, .ref (md 0)), (1, .int p1)] := hl
  have zw0 := hts (.fieldLink RX3 36 "LearnedLedgeModel" "thrown" "I") (by decide +kernel)
  have zw1 := hts (.constantLong RX3 145 (-1)) (by decide +kernel)
  have ziX3 : ∀ w ∈ u_ws RX3 TX3 18, w ∈ wsX3_guess := by decide +kernel
  refine lv_aload_n hx hb dX3_guess_0 rfl (lv_at hl 0 rfl) ?_
  refine lv_iload_n hx hb dX3_guess_1 rfl (lv_at hl 1 rfl) ?_
  obtain ⟨r2, h_2, hm⟩ := ob hm
  refine z_callSi (As := [.int p1]) (rest := [.ref (md 0)]) ⟨hx, hb, hml, hown, hts⟩ (c_X3_isKey l dC dI F p1 r2 h_2) (va_cwS 1 hts gX3_guess_X3_isKey rfl rfl rfl ks_X3_isKey ⟨Nat.le_of_ble_eq_true rfl, Nat.le_of_ble_eq_true rfl⟩) (hK.sub (tys' := []) [] rfl) z_P0 rfl hl.1 rfl (Nat.le_of_ble_eq_true rfl) dX3_guess_2 ⟨Nat.zero_le _, Nat.zero_le _⟩ ?_
  obtain ⟨y13, e_y13⟩ : ∃ y : Int32, y = (if r2 = 0 then 1 else 0) := ⟨_, rfl⟩
  have hm := bnd_e hm e_y13
  have J_13 : W p l e (headSpec wsX3_guess ({ frames := 3, cells := 0, slots := 0, locals := 77 } : Room)).room s m ([.ref (md 0), .int p1] : List Value).toArray below meth c H locs 0 0 (MQ below (zQl (dC, dI) (wM cI cZ md u_yth ybd yro yrow ymk yrm yst ypc ybu ybn ymg ysp yjn ymd ybg ymm u_yup u_yun) [(cI, .int), (cZ, .boolean)] A r) ([.ref (md 0), .int p1] : List Value).toArray s 0 0 A) (F0 m 13 ls [.int y13, .ref (md 0)]) := by
    refine va_put (D := (dC, dI)) (ci := 3) (v := .int y13) (ty := .int) (C := RX3) (T := TX3) (N := 18) hx hb hts ziX3 tyX3 tyX3_ok nmX3 hown hK hP hD hS 0 rfl rfl 0 (by decide) zw0 (fun _ h9 => h9) rfl (by decide +kernel) rfl rfl (Nat.le_of_ble_eq_true rfl) dX3_guess_13 (fun H locs hP hD hS => ?_)
    have hP : va_P (dC, dI) vwCl (wM cI cZ md y13 ybd yro yrow ymk yrm yst ypc ybu ybn ymg ysp yjn ymd ybg ymm yup yun) H := hP
    have hD : va_D A (wM cI cZ md y13 ybd yro yrow ymk yrm yst ypc ybu ybn ymg ysp yjn ymd ybg ymm yup yun) := hD
    refine lv_aload_n hx hb dX3_guess_16 rfl (lv_at hl 0 rfl) ?_
    refine lv_iload_n hx hb dX3_guess_17 rfl (lv_at hl 1 rfl) ?_
    obtain ⟨r18, h_18, hm⟩ := ob hm
    refine z_callRi (As := [.int p1]) (rest := []) (ci := 3) (q := (RX3, TX3, 18)) ⟨hx, hb, hml, hown, hts⟩ (c_X3_pieceOf l dC dI cI cZ md y13 ybd yro yrow ymk yrm yst ypc ybu ybn ymg ysp yjn ymd ybg ymm yup yun F p1 r18 h_18) (cwV 1 hts gX3_guess_X3_pieceOf rfl rfl rfl kv_X3_pieceOf ⟨Nat.le_of_ble_eq_true rfl, Nat.le_of_ble_eq_true rfl⟩) hK hP rfl rfl rfl rfl hl.1 rfl (Nat.le_of_ble_eq_true rfl) dX3_guess_18 ⟨Nat.zero_le _, Nat.zero_le _⟩ ?_
    refine lv_istore_n (lv' := [(2, .int r18), (0, .ref (md 0)), (1, .int p1)]) hx hb dX3_guess_21 rfl hl (by decide) rfl (fun ls hl => ?_)
    refine lv_aload_n hx hb dX3_guess_22 rfl (lv_at hl 1 rfl) ?_
    refine va_get (D := (dC, dI)) (ci := 3) (v := .int y13) (C := RX3) (T := TX3) (N := 18) hx hb hts ziX3 hown hK hP 0 rfl rfl 0 (by decide) zw0 (fun _ h9 => h9) rfl dX3_guess_23 ?_
    refine lv_if_gt (tgt := 34) hx hb dX3_guess_26 (by decide) (fun c_26 => ?_) (fun c_26 => ?_)
    · have hm := it_t hm c_26
      refine lv_ldc2 hx hb hown zw1 dX3_guess_34 ?_
      refine lv_goto (tgt := 46) hx hb dX3_guess_37 (by decide) ?_
      cases o2 hm
      exact W.lret hx hb hr (fun t ht hW => ⟨⟨_, (), rfl, rfl, by rw [ht]; exact hP, va_K.moved hW.alike hK, hD⟩, hS.F ht⟩) hS.2.2 dX3_guess_46
    · have hm := it_f hm c_26
      refine lv_iload_n hx hb dX3_guess_29 rfl (lv_at hl 0 rfl) ?_
      refine lv_iconst (v := (-1)) hx hb dX3_guess_30 (by decide) ?_
      refine lv_icmp_ne (tgt := 40) hx hb dX3_guess_31 (by decide) (fun c_31 => ?_) (fun c_31 => ?_)
      · have hm := it_f hm c_31
        refine lv_aload_n hx hb dX3_guess_40 rfl (lv_at hl 1 rfl) ?_
        refine lv_iload_n hx hb dX3_guess_41 rfl (lv_at hl 2 rfl) ?_
        refine lv_iload_n hx hb dX3_guess_42 rfl (lv_at hl 0 rfl) ?_
        obtain ⟨⟨r43, yup43, yun43⟩, h_43, hm⟩ := ob hm
        refine z_callWl (wc := (wM cI cZ md y13 ybd yro yrow ymk yrm yst ypc ybu ybn ymg ysp yjn ymd ybg ymm yup yun)) (w1 := (wM cI cZ md y13 ybd yro yrow ymk yrm yst ypc ybu ybn ymg ysp yjn ymd ybg ymm yup43 yun43)) (ws := (wM cI cZ md y13 ybd yro yrow ymk yrm yst ypc ybu ybn ymg ysp yjn ymd ybg ymm yup yun)) (ws' := (wM cI cZ md y13 ybd yro yrow ymk yrm yst ypc ybu ybn ymg ysp yjn ymd ybg ymm yup43 yun43)) [0, 1, 2, 3, 4, 5, 6] [] 7 (As := [.int p1, .int r18]) (rest := []) (ci := 3) (q := (RX3, TX3, 18)) ⟨hx, hb, hml, hown, hts⟩ (c_X3_guessOf l dC dI cI cZ md y13 ybd yro yrow ymk yrm yst ypc ybu ybn ymg ysp yjn ymd ybg ymm yup yun F p1 r18 H.size r43 yup43 yun43 h_43) (cwV 2 hts gX3_guess_X3_guessOf rfl rfl rfl kv_X3_guessOf ⟨Nat.le_of_ble_eq_true rfl, Nat.le_of_ble_eq_true rfl⟩) hK hP hD hS hA hP hD rfl rfl (by decide) rfl rfl (by decide) rfl rfl rfl rfl rfl hl.1 rfl (Nat.le_of_ble_eq_true rfl) dX3_guess_43 ⟨Nat.zero_le _, Nat.zero_le _⟩ (fun H locs hP hD hS => ?_)
        cases o2 hm
        exact W.lret hx hb hr (fun t ht hW => ⟨⟨_, (), rfl, rfl, by rw [ht]; exact hP, va_K.moved hW.alike hK, hD⟩, hS.F ht⟩) hS.2.2 dX3_guess_46
      · have hm := it_t hm c_31
        refine lv_ldc2 hx hb hown zw1 dX3_guess_34 ?_
        refine lv_goto (tgt := 46) hx hb dX3_guess_37 (by decide) ?_
        cases o2 hm
        exact W.lret hx hb hr (fun t ht hW => ⟨⟨_, (), rfl, rfl, by rw [ht]; exact hP, va_K.moved hW.alike hK, hD⟩, hS.F ht⟩) hS.2.2 dX3_guess_46
  refine lv_if_eq (tgt := 12) hx hb dX3_guess_5 (by decide) (fun c_5 => ?_) (fun c_5 => ?_)
  · refine lv_iconst (v := 1) hx hb dX3_guess_12 (by decide) ?_
    have e9 : y13 = 1 := by rw [e_y13, if_pos c_5]
    rw [e9] at J_13
    exact J_13
  · refine lv_iconst (v := 0) hx hb dX3_guess_8 (by decide) ?_
    refine lv_goto (tgt := 13) hx hb dX3_guess_9 (by decide) ?_
    have e9 : y13 = 0 := by rw [e_y13, if_neg c_5]
    rw [e9] at J_13
    exact J_13
set_option maxHeartbeats 4000000 in
set_option maxRecDepth 100000 in
theorem c_X3_looks (l : Launch) (dC : Nat → ClassId) (dI : Nat → Nat → Nat) (cI : ClassId) (cZ : ClassId) (md : Nat → Nat) (yth : Int32) (ybd : Int32) (yro : Int32) (yrow : Nat → Int32) (ymk : Nat → Int32) (yrm : Int32) (yst : Nat → Int32) (ypc : Int32) (ybu : Nat → Int32) (ybn : Int32) (ymg : Int32) (ysp : Int32) (yjn : Int32) (ymd : Nat → Int32) (ybg : Nat → Int32) (ymm : Int32) (yup : Int64) (yun : Int64) (F : Nat) (p1 : Int32) (sz : Nat) (r : Int32) (u_yth : Int32) (u_yup : Int64) (u_yun : Int64) (hm : X3_looks F yth ybd yrow yrm yst ypc yup yun p1 = some (r, u_yth, u_yup, u_yun)) : Met l yX3_looks wsX3_looks ({ frames := 3, cells := 0, slots := 0, locals := 77 }) (va_Pc [.ref (md 0), .int p1] (zW (dC, dI) (wM cI cZ md yth ybd yro yrow ymk yrm yst ypc ybu ybn ymg ysp yjn ymd ybg ymm yup yun) [(cI, .int), (cZ, .boolean)] sz)) (zQi (dC, dI) (wM cI cZ md u_yth ybd yro yrow ymk yrm yst ypc ybu ybn ymg ysp yjn ymd ybg ymm u_yup u_yun) [(cI, .int), (cZ, .boolean)] (va_A (wM cI cZ md yth ybd yro yrow ymk yrm yst ypc ybu ybn ymg ysp yjn ymd ybg ymm yup yun) sz) r) 0 0 (va_A (wM cI cZ md yth ybd yro yrow ymk yrm yst ypc ybu ybn ymg ysp yjn ymd ybg ymm yup yun) sz) := by
  refine Met.ofW (cc := cX3_looks) (maxL := 13) (ret := (some .int)) (by decide) rfl ?_
  intro p e s m args below meth c s₁ B hml hv
  obtain ⟨rfl, hsz, hP, hK, hD0⟩ := hv
  have hx := B.exec
  have hb := B.bytes
  have hr := B.returns
  have hts := atoms_spec (ws := wsX3_looks) B.pre
  have hown : s.vm.findClass RX3 = some m.cls := findClass_of_methodNamed B.named
  have hlocks := B.notSynchronized
  subst hsz
  have hD := hD0.self (sz := s.heap.size)
  generalize hAe : va_A (wM cI cZ md yth ybd yro yrow ymk yrm yst ypc ybu ybn ymg ysp yjn ymd ybg ymm yup yun) s.heap.size = A at hD ⊢
  have hA : ∀ q : Nat, s.heap.size ≤ q → A q := fun q h => by rw [← hAe]; exact Or.inr h
  have hS : va_S A s.heap s.heap [] := va_S.rf
  generalize eL : ([] : List Loc) = locs at hS ⊢
  obtain ⟨H, eH⟩ : ∃ z : Heap, z = s.heap := ⟨_, rfl⟩
  have hP : va_P (dC, dI) vwCl (wM cI cZ md yth ybd yro yrow ymk yrm yst ypc ybu ybn ymg ysp yjn ymd ybg ymm yup yun) H := by rw [eH]; exact hP
  have hS : va_S A s.heap H locs := by rw [eH]; exact hS
  refine z_heap eH ?_
  have hl := lv_entry ([.ref (md 0), .int p1]) (n := 13) (Nat.le_of_ble_eq_true rfl)
  rw [lg_entry_eq]
  generalize (lg_sl ([.ref (md 0), .int p1]) ++ List.replicate (13 - (lg_sl ([.ref (md 0), .int p1])).length) Slot.unset).toArray = ls at hl ⊢
  have hl : lv_has ls 13 [(0, .ref (md 0)), (1, .int p1)] := hl
  have zw0 := hts (.fieldLink RX3 36 "LearnedLedgeModel" "thrown" "I") (by decide +kernel)
  have zw1 := hts (.fieldLink RX3 7 "LearnedLedgeModel" "bound" "I") (by decide +kernel)
  have zw2 := hts (.fieldLink RX3 24 "LearnedLedgeModel" "start" "[I") (by decide +kernel)
  have zw3 := hts (.constantLong RX3 151 (2)) (by decide +kernel)
  have zw4 := hts (.fieldLink RX3 16 "LearnedLedgeModel" "row" "[I") (by decide +kernel)
  have ziX3 : ∀ w ∈ u_ws RX3 TX3 18, w ∈ wsX3_looks := by decide +kernel
  refine lv_aload_n hx hb dX3_looks_0 rfl (lv_at hl 0 rfl) ?_
  refine lv_iload_n hx hb dX3_looks_1 rfl (lv_at hl 1 rfl) ?_
  obtain ⟨r2, h_2, hm⟩ := ob hm
  refine z_callSi (As := [.int p1]) (rest := [.ref (md 0)]) ⟨hx, hb, hml, hown, hts⟩ (c_X3_isKey l dC dI F p1 r2 h_2) (va_cwS 1 hts gX3_looks_X3_isKey rfl rfl rfl ks_X3_isKey ⟨Nat.le_of_ble_eq_true rfl, Nat.le_of_ble_eq_true rfl⟩) (hK.sub (tys' := []) [] rfl) z_P0 rfl hl.1 rfl (Nat.le_of_ble_eq_true rfl) dX3_looks_2 ⟨Nat.zero_le _, Nat.zero_le _⟩ ?_
  obtain ⟨y13, e_y13⟩ : ∃ y : Int32, y = (if r2 = 0 then 1 else 0) := ⟨_, rfl⟩
  have hm := bnd_e hm e_y13
  have J_13 : W p l e (headSpec wsX3_looks ({ frames := 3, cells := 0, slots := 0, locals := 77 } : Room)).room s m ([.ref (md 0), .int p1] : List Value).toArray below meth c H locs 0 0 (MQ below (zQi (dC, dI) (wM cI cZ md u_yth ybd yro yrow ymk yrm yst ypc ybu ybn ymg ysp yjn ymd ybg ymm u_yup u_yun) [(cI, .int), (cZ, .boolean)] A r) ([.ref (md 0), .int p1] : List Value).toArray s 0 0 A) (F0 m 13 ls [.int y13, .ref (md 0)]) := by
    refine va_put (D := (dC, dI)) (ci := 3) (v := .int y13) (ty := .int) (C := RX3) (T := TX3) (N := 18) hx hb hts ziX3 tyX3 tyX3_ok nmX3 hown hK hP hD hS 0 rfl rfl 0 (by decide) zw0 (fun _ h9 => h9) rfl (by decide +kernel) rfl rfl (Nat.le_of_ble_eq_true rfl) dX3_looks_13 (fun H locs hP hD hS => ?_)
    have hP : va_P (dC, dI) vwCl (wM cI cZ md y13 ybd yro yrow ymk yrm yst ypc ybu ybn ymg ysp yjn ymd ybg ymm yup yun) H := hP
    have hD : va_D A (wM cI cZ md y13 ybd yro yrow ymk yrm yst ypc ybu ybn ymg ysp yjn ymd ybg ymm yup yun) := hD
    refine lv_aload_n hx hb dX3_looks_16 rfl (lv_at hl 0 rfl) ?_
    refine lv_iload_n hx hb dX3_looks_17 rfl (lv_at hl 1 rfl) ?_
    obtain ⟨r18, h_18, hm⟩ := ob hm
    refine z_callRi (As := [.int p1]) (rest := []) (ci := 3) (q := (RX3, TX3, 18)) ⟨hx, hb, hml, hown, hts⟩ (c_X3_pieceOf l dC dI cI cZ md y13 ybd yro yrow ymk yrm yst ypc ybu ybn ymg ysp yjn ymd ybg ymm yup yun F p1 r18 h_18) (cwV 1 hts gX3_looks_X3_pieceOf rfl rfl rfl kv_X3_pieceOf ⟨Nat.le_of_ble_eq_true rfl, Nat.le_of_ble_eq_true rfl⟩) hK hP rfl rfl rfl rfl hl.1 rfl (Nat.le_of_ble_eq_true rfl) dX3_looks_18 ⟨Nat.zero_le _, Nat.zero_le _⟩ ?_
    refine lv_istore_n (lv' := [(2, .int r18), (0, .ref (md 0)), (1, .int p1)]) hx hb dX3_looks_21 rfl hl (by decide) rfl (fun ls hl => ?_)
    refine lv_aload_n hx hb dX3_looks_22 rfl (lv_at hl 1 rfl) ?_
    refine va_get (D := (dC, dI)) (ci := 3) (v := .int y13) (C := RX3) (T := TX3) (N := 18) hx hb hts ziX3 hown hK hP 0 rfl rfl 0 (by decide) zw0 (fun _ h9 => h9) rfl dX3_looks_23 ?_
    refine lv_if_gt (tgt := 34) hx hb dX3_looks_26 (by decide) (fun c_26 => ?_) (fun c_26 => ?_)
    · have hm := it_t hm c_26
      refine lv_iconst (v := 0) hx hb dX3_looks_34 (by decide) ?_
      cases o2 hm
      exact W.iret hx hb hr (fun t ht hW => ⟨⟨_, (), rfl, rfl, by rw [ht]; exact hP, va_K.moved hW.alike hK, hD⟩, hS.F ht⟩) hS.2.2 dX3_looks_35
    · have hm := it_f hm c_26
      refine lv_iload_n hx hb dX3_looks_29 rfl (lv_at hl 0 rfl) ?_
      refine lv_iconst (v := (-1)) hx hb dX3_looks_30 (by decide) ?_
      refine lv_icmp_ne (tgt := 36) hx hb dX3_looks_31 (by decide) (fun c_31 => ?_) (fun c_31 => ?_)
      · have hm := it_f hm c_31
        refine lv_aload_n hx hb dX3_looks_36 rfl (lv_at hl 1 rfl) ?_
        refine lv_iload_n hx hb dX3_looks_37 rfl (lv_at hl 2 rfl) ?_
        refine lv_iload_n hx hb dX3_looks_38 rfl (lv_at hl 0 rfl) ?_
        obtain ⟨⟨r39, yup39, yun39⟩, h_39, hm⟩ := ob hm
        refine z_callWl (wc := (wM cI cZ md y13 ybd yro yrow ymk yrm yst ypc ybu ybn ymg ysp yjn ymd ybg ymm yup yun)) (w1 := (wM cI cZ md y13 ybd yro yrow ymk yrm yst ypc ybu ybn ymg ysp yjn ymd ybg ymm yup39 yun39)) (ws := (wM cI cZ md y13 ybd yro yrow ymk yrm yst ypc ybu ybn ymg ysp yjn ymd ybg ymm yup yun)) (ws' := (wM cI cZ md y13 ybd yro yrow ymk yrm yst ypc ybu ybn ymg ysp yjn ymd ybg ymm yup39 yun39)) [0, 1, 2, 3, 4, 5, 6] [] 7 (As := [.int p1, .int r18]) (rest := []) (ci := 3) (q := (RX3, TX3, 18)) ⟨hx, hb, hml, hown, hts⟩ (c_X3_guessOf l dC dI cI cZ md y13 ybd yro yrow ymk yrm yst ypc ybu ybn ymg ysp yjn ymd ybg ymm yup yun F p1 r18 H.size r39 yup39 yun39 h_39) (cwV 2 hts gX3_looks_X3_guessOf rfl rfl rfl kv_X3_guessOf ⟨Nat.le_of_ble_eq_true rfl, Nat.le_of_ble_eq_true rfl⟩) hK hP hD hS hA hP hD rfl rfl (by decide) rfl rfl (by decide) rfl rfl rfl rfl rfl hl.1 rfl (Nat.le_of_ble_eq_true rfl) dX3_looks_39 ⟨Nat.zero_le _, Nat.zero_le _⟩ (fun H locs hP hD hS => ?_)
        refine lv_lstore_n (lv' := [(3, .long r39), (2, .int r18), (0, .ref (md 0)), (1, .int p1)]) hx hb dX3_looks_42 rfl hl (by decide) rfl (fun ls hl => ?_)
        refine lv_aload_n hx hb dX3_looks_43 rfl (lv_at hl 2 rfl) ?_
        refine lv_iload_n hx hb dX3_looks_44 rfl (lv_at hl 1 rfl) ?_
        obtain ⟨r45, h_45, hm⟩ := ob hm
        refine z_callRi (As := [.int r18]) (rest := []) (ci := 3) (q := (RX3, TX3, 18)) ⟨hx, hb, hml, hown, hts⟩ (c_X3_behind l dC dI cI cZ md y13 ybd yro yrow ymk yrm yst ypc ybu ybn ymg ysp yjn ymd ybg ymm yup39 yun39 F r18 r45 h_45) (cwV 1 hts gX3_looks_X3_behind rfl rfl rfl kv_X3_behind ⟨Nat.le_of_ble_eq_true rfl, Nat.le_of_ble_eq_true rfl⟩) hK hP rfl rfl rfl rfl hl.1 rfl (Nat.le_of_ble_eq_true rfl) dX3_looks_45 ⟨Nat.zero_le _, Nat.zero_le _⟩ ?_
        refine lv_istore (lv' := [(5, .int r45), (3, .long r39), (2, .int r18), (0, .ref (md 0)), (1, .int p1)]) hx hb dX3_looks_48 hl (by decide) rfl (fun ls hl => ?_)
        refine lv_lload_n hx hb dX3_looks_50 rfl (lv_at hl 1 rfl) ?_
        refine lv_aload_n hx hb dX3_looks_51 rfl (lv_at hl 3 rfl) ?_
        refine va_get (D := (dC, dI)) (ci := 3) (v := .int ybd) (C := RX3) (T := TX3) (N := 18) hx hb hts ziX3 hown hK hP 0 rfl rfl 1 (by decide) zw1 (fun _ h9 => h9) rfl dX3_looks_52 ?_
        refine lv_i2l hx hb dX3_looks_55 rfl ?_
        refine lv_lsub hx hb dX3_looks_56 ?_
        refine lv_aload_n hx hb dX3_looks_57 rfl (lv_at hl 3 rfl) ?_
        refine va_get (D := (dC, dI)) (ci := 3) (v := .ref (md 3)) (C := RX3) (T := TX3) (N := 18) hx hb hts ziX3 hown hK hP 0 rfl rfl 6 (by decide) zw2 (fun _ h9 => h9) rfl dX3_looks_58 ?_
        refine lv_iload_n hx hb dX3_looks_61 rfl (lv_at hl 2 rfl) ?_
        obtain ⟨c_62, hm⟩ := ck hm
        refine va_iald hx hb hK hP 3 0 rfl rfl c_62 dX3_looks_62 ?_
        refine lv_i2l hx hb dX3_looks_63 rfl ?_
        refine W.lcmp hx hb dX3_looks_64 ?_
        obtain ⟨z_85, hq_85, hm⟩ := ob hm
        have J_85 : ∀ (y85 : Int64), z_85 = y85 → W p l e (headSpec wsX3_looks ({ frames := 3, cells := 0, slots := 0, locals := 77 } : Room)).room s m ([.ref (md 0), .int p1] : List Value).toArray below meth c H locs 0 0 (MQ below (zQi (dC, dI) (wM cI cZ md u_yth ybd yro yrow ymk yrm yst ypc ybu ybn ymg ysp yjn ymd ybg ymm u_yup u_yun) [(cI, .int), (cZ, .boolean)] A r) ([.ref (md 0), .int p1] : List Value).toArray s 0 0 A) (F0 m 85 ls [.long y85]) := by
          intro y85 ez
          rw [ez] at hm
          refine lv_lstore (lv' := [(6, .long y85), (5, .int r45), (3, .long r39), (0, .ref (md 0)), (1, .int p1)]) hx hb dX3_looks_85 hl (by decide) rfl (fun ls hl => ?_)
          refine lv_lload hx hb dX3_looks_87 (lv_at hl 0 rfl) ?_
          refine lv_iload hx hb dX3_looks_89 (lv_at hl 1 rfl) ?_
          refine lv_i2l hx hb dX3_looks_91 rfl ?_
          refine W.lcmp hx hb dX3_looks_92 ?_
          obtain ⟨y104, e_y104⟩ : ∃ y : Int64, y = (if (Int32.toInt64 r45) ≤ y85 then (Int32.toInt64 r45) else y85) := ⟨_, rfl⟩
          have hm := bnd_e hm e_y104
          have J_104 : W p l e (headSpec wsX3_looks ({ frames := 3, cells := 0, slots := 0, locals := 77 } : Room)).room s m ([.ref (md 0), .int p1] : List Value).toArray below meth c H locs 0 0 (MQ below (zQi (dC, dI) (wM cI cZ md u_yth ybd yro yrow ymk yrm yst ypc ybu ybn ymg ysp yjn ymd ybg ymm u_yup u_yun) [(cI, .int), (cZ, .boolean)] A r) ([.ref (md 0), .int p1] : List Value).toArray s 0 0 A) (F0 m 104 ls [.long y104]) := by
            refine lv_lstore (lv' := [(6, .long y104), (5, .int r45), (3, .long r39), (0, .ref (md 0)), (1, .int p1)]) hx hb dX3_looks_104 hl (by decide) rfl (fun ls hl => ?_)
            refine lv_lload_n hx hb dX3_looks_106 rfl (lv_at hl 2 rfl) ?_
            refine lv_aload_n hx hb dX3_looks_107 rfl (lv_at hl 3 rfl) ?_
            refine va_get (D := (dC, dI)) (ci := 3) (v := .int ybd) (C := RX3) (T := TX3) (N := 18) hx hb hts ziX3 hown hK hP 0 rfl rfl 1 (by decide) zw1 (fun _ h9 => h9) rfl dX3_looks_108 ?_
            refine lv_i2l hx hb dX3_looks_111 rfl ?_
            refine lv_ladd hx hb dX3_looks_112 ?_
            refine lv_lconst (v := 1) hx hb dX3_looks_113 (by decide) ?_
            refine lv_ladd hx hb dX3_looks_114 ?_
            refine lv_iload hx hb dX3_looks_115 (lv_at hl 1 rfl) ?_
            refine lv_i2l hx hb dX3_looks_117 rfl ?_
            refine W.lcmp hx hb dX3_looks_118 ?_
            obtain ⟨y137, e_y137⟩ : ∃ y : Int64, y = (if (Int32.toInt64 r45) ≤ ((r39 + (Int32.toInt64 ybd)) + 1) then (Int32.toInt64 r45) else ((r39 + (Int32.toInt64 ybd)) + 1)) := ⟨_, rfl⟩
            have hm := bnd_e hm e_y137
            have J_137 : W p l e (headSpec wsX3_looks ({ frames := 3, cells := 0, slots := 0, locals := 77 } : Room)).room s m ([.ref (md 0), .int p1] : List Value).toArray below meth c H locs 0 0 (MQ below (zQi (dC, dI) (wM cI cZ md u_yth ybd yro yrow ymk yrm yst ypc ybu ybn ymg ysp yjn ymd ybg ymm u_yup u_yun) [(cI, .int), (cZ, .boolean)] A r) ([.ref (md 0), .int p1] : List Value).toArray s 0 0 A) (F0 m 137 ls [.long y137]) := by
              refine lv_lstore (lv' := [(8, .long y137), (6, .long y104), (0, .ref (md 0)), (1, .int p1)]) hx hb dX3_looks_137 hl (by decide) rfl (fun ls hl => ?_)
              refine lv_iconst (v := 0) hx hb dX3_looks_139 (by decide) ?_
              refine lv_istore (lv' := [(10, .int 0), (8, .long y137), (6, .long y104), (0, .ref (md 0)), (1, .int p1)]) hx hb dX3_looks_140 hl (by decide) rfl (fun ls hl => ?_)
              obtain ⟨z_142, hq_142, hm⟩ := ob hm
              have K_142 : ∀ (x10_2 : Int32), z_142 = x10_2 → ∀ (ls : Array Slot), lv_has ls 13 [(10, .int x10_2)] → W p l e (headSpec wsX3_looks ({ frames := 3, cells := 0, slots := 0, locals := 77 } : Room)).room s m ([.ref (md 0), .int p1] : List Value).toArray below meth c H locs 0 0 (MQ below (zQi (dC, dI) (wM cI cZ md u_yth ybd yro yrow ymk yrm yst ypc ybu ybn ymg ysp yjn ymd ybg ymm u_yup u_yun) [(cI, .int), (cZ, .boolean)] A r) ([.ref (md 0), .int p1] : List Value).toArray s 0 0 A) (F0 m 192 ls []) := by
                intro x10_2 ez ls hl
                rw [ez] at hm
                refine lv_iload hx hb dX3_looks_192 (lv_at hl 0 rfl) ?_
                cases o2 hm
                exact W.iret hx hb hr (fun t ht hW => ⟨⟨_, (), rfl, rfl, by rw [ht]; exact hP, va_K.moved hW.alike hK, hD⟩, hS.F ht⟩) hS.2.2 dX3_looks_194
              have L_142 : ∀ (n : Nat) (x10 : Int32) (x8 : Int64) (x6 : Int64), X3_looks_L142 p1 yrow n x10 x8 x6 = some z_142 → ∀ (ls : Array Slot), lv_has ls 13 [(10, .int x10), (8, .long x8), (6, .long x6), (0, .ref (md 0)), (1, .int p1)] → W p l e (headSpec wsX3_looks ({ frames := 3, cells := 0, slots := 0, locals := 77 } : Room)).room s m ([.ref (md 0), .int p1] : List Value).toArray below meth c H locs 0 0 (MQ below (zQi (dC, dI) (wM cI cZ md u_yth ybd yro yrow ymk yrm yst ypc ybu ybn ymg ysp yjn ymd ybg ymm u_yup u_yun) [(cI, .int), (cZ, .boolean)] A r) ([.ref (md 0), .int p1] : List Value).toArray s 0 0 A) (F0 m 142 ls []) := by
                intro n
                induction n with
                | zero => intro x10 x8 x6 hm; cases hm
                | succ n ih_142 =>
                  intro x10 x8 x6 hm ls hl
                  refine lv_lload hx hb dX3_looks_142 (lv_at hl 2 rfl) ?_
                  refine lv_lload hx hb dX3_looks_144 (lv_at hl 1 rfl) ?_
                  refine W.lcmp hx hb dX3_looks_146 ?_
                  refine lv_if_ge (tgt := 192) hx hb dX3_looks_147 (by decide) (fun c_147 => ?_) (fun c_147 => ?_)
                  · have c_147 : x8 ≤ x6 := (lg_cmp_ge _ _).mp c_147
                    have hm := it_t hm c_147
                    exact K_142 x10 (o2 hm) _ (lv_sub hl [0] rfl)
                  · have c_147 : ¬ (x8 ≤ x6) := fun h => c_147 ((lg_cmp_ge _ _).mpr h)
                    have hm := it_f hm c_147
                    refine lv_lload hx hb dX3_looks_150 (lv_at hl 2 rfl) ?_
                    refine lv_lload hx hb dX3_looks_152 (lv_at hl 1 rfl) ?_
                    refine lv_ladd hx hb dX3_looks_154 ?_
                    refine lv_ldc2 hx hb hown zw3 dX3_looks_155 ?_
                    refine lv_ldiv hx hb dX3_looks_158 (by decide) ?_
                    refine lv_topl (fun x11 e_x11 => ?_)
                    have hm := bnd_e hm e_x11
                    refine lv_lstore (lv' := [(11, .long x11), (10, .int x10), (8, .long x8), (6, .long x6), (0, .ref (md 0)), (1, .int p1)]) hx hb dX3_looks_159 hl (by decide) rfl (fun ls hl => ?_)
                    obtain ⟨x10_1, e_x10_1⟩ : ∃ y : Int32, y = x10 + 1 := ⟨_, rfl⟩
                    have hm := bnd_e hm e_x10_1
                    refine lv_iinc (v := x10_1) (lv' := [(10, .int x10_1), (11, .long x11), (8, .long x8), (6, .long x6), (0, .ref (md 0)), (1, .int p1)]) hx hb dX3_looks_161 hl (k := 1) rfl (by rw [e_x10_1]; rfl) (by decide) rfl (fun ls hl => ?_)
                    refine lv_aload_n hx hb dX3_looks_164 rfl (lv_at hl 4 rfl) ?_
                    refine va_get (D := (dC, dI)) (ci := 3) (v := .ref (md 1)) (C := RX3) (T := TX3) (N := 18) hx hb hts ziX3 hown hK hP 0 rfl rfl 3 (by decide) zw4 (fun _ h9 => h9) rfl dX3_looks_165 ?_
                    refine lv_lload hx hb dX3_looks_168 (lv_at hl 1 rfl) ?_
                    refine lv_l2i hx hb dX3_looks_170 rfl ?_
                    obtain ⟨c_171, hm⟩ := ck hm
                    refine va_iald hx hb hK hP 1 0 rfl rfl c_171 dX3_looks_171 ?_
                    refine lv_iload_n hx hb dX3_looks_172 rfl (lv_at hl 5 rfl) ?_
                    refine lv_icmp_ge (tgt := 185) hx hb dX3_looks_173 (by decide) (fun c_173 => ?_) (fun c_173 => ?_)
                    · have hm := it_t hm c_173
                      refine lv_lload hx hb dX3_looks_185 (lv_at hl 1 rfl) ?_
                      refine lv_lstore (lv' := [(8, .long x11), (10, .int x10_1), (11, .long x11), (6, .long x6), (0, .ref (md 0)), (1, .int p1)]) hx hb dX3_looks_187 hl (by decide) rfl (fun ls hl => ?_)
                      refine lv_goto (tgt := 142) hx hb dX3_looks_189 (by decide) ?_
                      exact ih_142 x10_1 x11 x6 hm _ (lv_sub hl [1, 0, 3, 4, 5] rfl)
                    · have hm := it_f hm c_173
                      refine lv_lload hx hb dX3_looks_176 (lv_at hl 1 rfl) ?_
                      refine lv_lconst (v := 1) hx hb dX3_looks_178 (by decide) ?_
                      refine lv_ladd hx hb dX3_looks_179 ?_
                      refine lv_topl (fun x6_1 e_x6_1 => ?_)
                      have hm := bnd_e hm e_x6_1
                      refine lv_lstore (lv' := [(6, .long x6_1), (10, .int x10_1), (11, .long x11), (8, .long x8), (0, .ref (md 0)), (1, .int p1)]) hx hb dX3_looks_180 hl (by decide) rfl (fun ls hl => ?_)
                      refine lv_goto (tgt := 189) hx hb dX3_looks_182 (by decide) ?_
                      refine lv_goto (tgt := 142) hx hb dX3_looks_189 (by decide) ?_
                      exact ih_142 x10_1 x8 x6_1 hm _ (lv_sub hl [1, 3, 0, 4, 5] rfl)
              exact L_142 F 0 y137 y104 hq_142 _ (lv_sub hl [0, 1, 2, 3, 4] rfl)
            refine lv_if_ge (tgt := 134) hx hb dX3_looks_119 (by decide) (fun c_119 => ?_) (fun c_119 => ?_)
            · have c_119 : (Int32.toInt64 r45) ≤ ((r39 + (Int32.toInt64 ybd)) + 1) := (lg_cmp_ge _ _).mp c_119
              refine lv_iload hx hb dX3_looks_134 (lv_at hl 1 rfl) ?_
              refine lv_i2l hx hb dX3_looks_136 rfl ?_
              have e9 : y137 = (Int32.toInt64 r45) := by rw [e_y137, if_pos c_119]
              rw [e9] at J_137
              exact J_137
            · have c_119 : ¬ ((Int32.toInt64 r45) ≤ ((r39 + (Int32.toInt64 ybd)) + 1)) := fun h => c_119 ((lg_cmp_ge _ _).mpr h)
              refine lv_lload_n hx hb dX3_looks_122 rfl (lv_at hl 2 rfl) ?_
              refine lv_aload_n hx hb dX3_looks_123 rfl (lv_at hl 3 rfl) ?_
              refine va_get (D := (dC, dI)) (ci := 3) (v := .int ybd) (C := RX3) (T := TX3) (N := 18) hx hb hts ziX3 hown hK hP 0 rfl rfl 1 (by decide) zw1 (fun _ h9 => h9) rfl dX3_looks_124 ?_
              refine lv_i2l hx hb dX3_looks_127 rfl ?_
              refine lv_ladd hx hb dX3_looks_128 ?_
              refine lv_lconst (v := 1) hx hb dX3_looks_129 (by decide) ?_
              refine lv_ladd hx hb dX3_looks_130 ?_
              refine lv_goto (tgt := 137) hx hb dX3_looks_131 (by decide) ?_
              have e9 : y137 = ((r39 + (Int32.toInt64 ybd)) + 1) := by rw [e_y137, if_neg c_119]
              rw [e9] at J_137
              exact J_137
          refine lv_if_ge (tgt := 101) hx hb dX3_looks_93 (by decide) (fun c_93 => ?_) (fun c_93 => ?_)
          · have c_93 : (Int32.toInt64 r45) ≤ y85 := (lg_cmp_ge _ _).mp c_93
            refine lv_iload hx hb dX3_looks_101 (lv_at hl 1 rfl) ?_
            refine lv_i2l hx hb dX3_looks_103 rfl ?_
            have e9 : y104 = (Int32.toInt64 r45) := by rw [e_y104, if_pos c_93]
            rw [e9] at J_104
            exact J_104
          · have c_93 : ¬ ((Int32.toInt64 r45) ≤ y85) := fun h => c_93 ((lg_cmp_ge _ _).mpr h)
            refine lv_lload hx hb dX3_looks_96 (lv_at hl 0 rfl) ?_
            refine lv_goto (tgt := 104) hx hb dX3_looks_98 (by decide) ?_
            have e9 : y104 = y85 := by rw [e_y104, if_neg c_93]
            rw [e9] at J_104
            exact J_104
        have hm := hq_85
        refine lv_if_le (tgt := 78) hx hb dX3_looks_65 (by decide) (fun c_65 => ?_) (fun c_65 => ?_)
        · have c_65 : (r39 - (Int32.toInt64 ybd)) ≤ (Int32.toInt64 (yst (Int32.toNatClampNeg r18))) := (lg_cmp_le _ _).mp c_65
          have hm := it_t hm c_65
          refine lv_aload_n hx hb dX3_looks_78 rfl (lv_at hl 3 rfl) ?_
          refine va_get (D := (dC, dI)) (ci := 3) (v := .ref (md 3)) (C := RX3) (T := TX3) (N := 18) hx hb hts ziX3 hown hK hP 0 rfl rfl 6 (by decide) zw2 (fun _ h9 => h9) rfl dX3_looks_79 ?_
          refine lv_iload_n hx hb dX3_looks_82 rfl (lv_at hl 2 rfl) ?_
          obtain ⟨c_83, hm⟩ := ck hm
          refine va_iald hx hb hK hP 3 0 rfl rfl c_83 dX3_looks_83 ?_
          refine lv_i2l hx hb dX3_looks_84 rfl ?_
          exact J_85 (Int32.toInt64 (yst (Int32.toNatClampNeg r18))) (o2 hm)
        · have c_65 : ¬ ((r39 - (Int32.toInt64 ybd)) ≤ (Int32.toInt64 (yst (Int32.toNatClampNeg r18)))) := fun h => c_65 ((lg_cmp_le _ _).mpr h)
          have hm := it_f hm c_65
          refine lv_lload_n hx hb dX3_looks_68 rfl (lv_at hl 1 rfl) ?_
          refine lv_aload_n hx hb dX3_looks_69 rfl (lv_at hl 3 rfl) ?_
          refine va_get (D := (dC, dI)) (ci := 3) (v := .int ybd) (C := RX3) (T := TX3) (N := 18) hx hb hts ziX3 hown hK hP 0 rfl rfl 1 (by decide) zw1 (fun _ h9 => h9) rfl dX3_looks_70 ?_
          refine lv_i2l hx hb dX3_looks_73 rfl ?_
          refine lv_lsub hx hb dX3_looks_74 ?_
          refine lv_goto (tgt := 85) hx hb dX3_looks_75 (by decide) ?_
          exact J_85 (r39 - (Int32.toInt64 ybd)) (o2 hm)
      · have hm := it_t hm c_31
        refine lv_iconst (v := 0) hx hb dX3_looks_34 (by decide) ?_
        cases o2 hm
        exact W.iret hx hb hr (fun t ht hW => ⟨⟨_, (), rfl, rfl, by rw [ht]; exact hP, va_K.moved hW.alike hK, hD⟩, hS.F ht⟩) hS.2.2 dX3_looks_35
  refine lv_if_eq (tgt := 12) hx hb dX3_looks_5 (by decide) (fun c_5 => ?_) (fun c_5 => ?_)
  · refine lv_iconst (v := 1) hx hb dX3_looks_12 (by decide) ?_
    have e9 : y13 = 1 := by rw [e_y13, if_pos c_5]
    rw [e9] at J_13
    exact J_13
  · refine lv_iconst (v := 0) hx hb dX3_looks_8 (by decide) ?_
    refine lv_goto (tgt := 13) hx hb dX3_looks_9 (by decide) ?_
    have e9 : y13 = 0 := by rw [e_y13, if_neg c_5]
    rw [e9] at J_13
    exact J_13
set_option maxHeartbeats 4000000 in
set_option maxRecDepth 100000 in
theorem c_X3_worstError (l : Launch) (dC : Nat → ClassId) (dI : Nat → Nat → Nat) (cI : ClassId) (cZ : ClassId) (md : Nat → Nat) (yth : Int32) (ybd : Int32) (yro : Int32) (yrow : Nat → Int32) (ymk : Nat → Int32) (yrm : Int32) (yst : Nat → Int32) (ypc : Int32) (ybu : Nat → Int32) (ybn : Int32) (ymg : Int32) (ysp : Int32) (yjn : Int32) (ymd : Nat → Int32) (ybg : Nat → Int32) (ymm : Int32) (yup : Int64) (yun : Int64) (F : Nat) (sz : Nat) (r : Int32) (u_yth : Int32) (u_yup : Int64) (u_yun : Int64) (hm : X3_worstError F yth ybd yrow yrm yst ypc yup yun = some (r, u_yth, u_yup, u_yun)) : Met l yX3_worstError wsX3_worstError ({ frames := 3, cells := 0, slots := 0, locals := 77 }) (va_Pc [.ref (md 0)] (zW (dC, dI) (wM cI cZ md yth ybd yro yrow ymk yrm yst ypc ybu ybn ymg ysp yjn ymd ybg ymm yup yun) [(cI, .int), (cZ, .boolean)] sz)) (zQi (dC, dI) (wM cI cZ md u_yth ybd yro yrow ymk yrm yst ypc ybu ybn ymg ysp yjn ymd ybg ymm u_yup u_yun) [(cI, .int), (cZ, .boolean)] (va_A (wM cI cZ md yth ybd yro yrow ymk yrm yst ypc ybu ybn ymg ysp yjn ymd ybg ymm yup yun) sz) r) 0 0 (va_A (wM cI cZ md yth ybd yro yrow ymk yrm yst ypc ybu ybn ymg ysp yjn ymd ybg ymm yup yun) sz) := by
  refine Met.ofW (cc := cX3_worstError) (maxL := 6) (ret := (some .int)) (by decide) rfl ?_
  intro p e s m args below meth c s₁ B hml hv
  obtain ⟨rfl, hsz, hP, hK, hD0⟩ := hv
  have hx := B.exec
  have hb := B.bytes
  have hr := B.returns
  have hts := atoms_spec (ws := wsX3_worstError) B.pre
  have hown : s.vm.findClass RX3 = some m.cls := findClass_of_methodNamed B.named
  have hlocks := B.notSynchronized
  subst hsz
  have hD := hD0.self (sz := s.heap.size)
  generalize hAe : va_A (wM cI cZ md yth ybd yro yrow ymk yrm yst ypc ybu ybn ymg ysp yjn ymd ybg ymm yup yun) s.heap.size = A at hD ⊢
  have hA : ∀ q : Nat, s.heap.size ≤ q → A q := fun q h => by rw [← hAe]; exact Or.inr h
  have hS : va_S A s.heap s.heap [] := va_S.rf
  generalize eL : ([] : List Loc) = locs at hS ⊢
  obtain ⟨H, eH⟩ : ∃ z : Heap, z = s.heap := ⟨_, rfl⟩
  have hP : va_P (dC, dI) vwCl (wM cI cZ md yth ybd yro yrow ymk yrm yst ypc ybu ybn ymg ysp yjn ymd ybg ymm yup yun) H := by rw [eH]; exact hP
  have hS : va_S A s.heap H locs := by rw [eH]; exact hS
  refine z_heap eH ?_
  have hl := lv_entry ([.ref (md 0)]) (n := 6) (Nat.le_of_ble_eq_true rfl)
  rw [lg_entry_eq]
  generalize (lg_sl ([.ref (md 0)]) ++ List.replicate (6 - (lg_sl ([.ref (md 0)])).length) Slot.unset).toArray = ls at hl ⊢
  have hl : lv_has ls 6 [(0, .ref (md 0))] := hl
  have zw0 := hts (.fieldLink RX3 36 "LearnedLedgeModel" "thrown" "I") (by decide +kernel)
  have zw1 := hts (.fieldLink RX3 51 "LearnedLedgeModel" "rowMany" "I") (by decide +kernel)
  have zw2 := hts (.fieldLink RX3 16 "LearnedLedgeModel" "row" "[I") (by decide +kernel)
  have ziX3 : ∀ w ∈ u_ws RX3 TX3 18, w ∈ wsX3_worstError := by decide +kernel
  refine lv_aload_n hx hb dX3_worstError_0 rfl (lv_at hl 0 rfl) ?_
  refine lv_iconst (v := 0) hx hb dX3_worstError_1 (by decide) ?_
  refine va_put (D := (dC, dI)) (ci := 3) (v := .int 0) (ty := .int) (C := RX3) (T := TX3) (N := 18) hx hb hts ziX3 tyX3 tyX3_ok nmX3 hown hK hP hD hS 0 rfl rfl 0 (by decide) zw0 (fun _ h9 => h9) rfl (by decide +kernel) rfl rfl (Nat.le_of_ble_eq_true rfl) dX3_worstError_2 (fun H locs hP hD hS => ?_)
  have hP : va_P (dC, dI) vwCl (wM cI cZ md 0 ybd yro yrow ymk yrm yst ypc ybu ybn ymg ysp yjn ymd ybg ymm yup yun) H := hP
  have hD : va_D A (wM cI cZ md 0 ybd yro yrow ymk yrm yst ypc ybu ybn ymg ysp yjn ymd ybg ymm yup yun) := hD
  refine lv_lconst (v := 0) hx hb dX3_worstError_5 (by decide) ?_
  refine lv_lstore_n (lv' := [(1, .long 0), (0, .ref (md 0))]) hx hb dX3_worstError_6 rfl hl (by decide) rfl (fun ls hl => ?_)
  refine lv_iconst (v := 0) hx hb dX3_worstError_7 (by decide) ?_
  refine lv_istore_n (lv' := [(3, .int 0), (1, .long 0), (0, .ref (md 0))]) hx hb dX3_worstError_8 rfl hl (by decide) rfl (fun ls hl => ?_)
  obtain ⟨z_9, hq_9, hm⟩ := ob hm
  have K_9 : ∀ (x1_1 : Int64), ∀ (yupx9 : Int64), ∀ (yunx9 : Int64), z_9 = (x1_1, yupx9, yunx9) → ∀ (H : Heap) (locs : List Loc), va_P (dC, dI) vwCl (wM cI cZ md 0 ybd yro yrow ymk yrm yst ypc ybu ybn ymg ysp yjn ymd ybg ymm yupx9 yunx9) H → va_D A (wM cI cZ md 0 ybd yro yrow ymk yrm yst ypc ybu ybn ymg ysp yjn ymd ybg ymm yupx9 yunx9) → va_S A s.heap H locs → ∀ (ls : Array Slot), lv_has ls 6 [(1, .long x1_1)] → W p l e (headSpec wsX3_worstError ({ frames := 3, cells := 0, slots := 0, locals := 77 } : Room)).room s m ([.ref (md 0)] : List Value).toArray below meth c H locs 0 0 (MQ below (zQi (dC, dI) (wM cI cZ md u_yth ybd yro yrow ymk yrm yst ypc ybu ybn ymg ysp yjn ymd ybg ymm u_yup u_yun) [(cI, .int), (cZ, .boolean)] A r) ([.ref (md 0)] : List Value).toArray s 0 0 A) (F0 m 79 ls []) := by
    intro x1_1 yupx9 yunx9 ez H locs hP hD hS ls hl
    rw [ez] at hm
    refine lv_lload_n hx hb dX3_worstError_79 rfl (lv_at hl 0 rfl) ?_
    refine lv_l2i hx hb dX3_worstError_80 rfl ?_
    cases o2 hm
    exact W.iret hx hb hr (fun t ht hW => ⟨⟨_, (), rfl, rfl, by rw [ht]; exact hP, va_K.moved hW.alike hK, hD⟩, hS.F ht⟩) hS.2.2 dX3_worstError_81
  have L_9 : ∀ (n : Nat) (x3 : Int32) (x1 : Int64) (yupl9 : Int64) (yunl9 : Int64), X3_worstError_L9 ybd yrow yrm yst ypc F n x3 x1 yupl9 yunl9 = some z_9 → ∀ (H : Heap) (locs : List Loc), va_P (dC, dI) vwCl (wM cI cZ md 0 ybd yro yrow ymk yrm yst ypc ybu ybn ymg ysp yjn ymd ybg ymm yupl9 yunl9) H → va_D A (wM cI cZ md 0 ybd yro yrow ymk yrm yst ypc ybu ybn ymg ysp yjn ymd ybg ymm yupl9 yunl9) → va_S A s.heap H locs → ∀ (ls : Array Slot), lv_has ls 6 [(3, .int x3), (1, .long x1), (0, .ref (md 0))] → W p l e (headSpec wsX3_worstError ({ frames := 3, cells := 0, slots := 0, locals := 77 } : Room)).room s m ([.ref (md 0)] : List Value).toArray below meth c H locs 0 0 (MQ below (zQi (dC, dI) (wM cI cZ md u_yth ybd yro yrow ymk yrm yst ypc ybu ybn ymg ysp yjn ymd ybg ymm u_yup u_yun) [(cI, .int), (cZ, .boolean)] A r) ([.ref (md 0)] : List Value).toArray s 0 0 A) (F0 m 9 ls []) := by
    intro n
    induction n with
    | zero => intro x3 x1 yupl9 yunl9 hm; cases hm
    | succ n ih_9 =>
      intro x3 x1 yupl9 yunl9 hm H locs hP hD hS ls hl
      refine lv_iload_n hx hb dX3_worstError_9 rfl (lv_at hl 0 rfl) ?_
      refine lv_aload_n hx hb dX3_worstError_10 rfl (lv_at hl 2 rfl) ?_
      refine va_get (D := (dC, dI)) (ci := 3) (v := .int yrm) (C := RX3) (T := TX3) (N := 18) hx hb hts ziX3 hown hK hP 0 rfl rfl 5 (by decide) zw1 (fun _ h9 => h9) rfl dX3_worstError_11 ?_
      refine lv_icmp_ge (tgt := 79) hx hb dX3_worstError_14 (by decide) (fun c_14 => ?_) (fun c_14 => ?_)
      · have hm := it_t hm c_14
        exact K_9 x1 yupl9 yunl9 (o2 hm) _ _ hP hD hS _ (lv_sub hl [1] rfl)
      · have hm := it_f hm c_14
        refine lv_aload_n hx hb dX3_worstError_17 rfl (lv_at hl 2 rfl) ?_
        refine lv_aload_n hx hb dX3_worstError_18 rfl (lv_at hl 2 rfl) ?_
        refine va_get (D := (dC, dI)) (ci := 3) (v := .ref (md 1)) (C := RX3) (T := TX3) (N := 18) hx hb hts ziX3 hown hK hP 0 rfl rfl 3 (by decide) zw2 (fun _ h9 => h9) rfl dX3_worstError_19 ?_
        refine lv_iload_n hx hb dX3_worstError_22 rfl (lv_at hl 0 rfl) ?_
        obtain ⟨c_23, hm⟩ := ck hm
        refine va_iald hx hb hK hP 1 0 rfl rfl c_23 dX3_worstError_23 ?_
        refine lv_aload_n hx hb dX3_worstError_24 rfl (lv_at hl 2 rfl) ?_
        refine lv_aload_n hx hb dX3_worstError_25 rfl (lv_at hl 2 rfl) ?_
        refine va_get (D := (dC, dI)) (ci := 3) (v := .ref (md 1)) (C := RX3) (T := TX3) (N := 18) hx hb hts ziX3 hown hK hP 0 rfl rfl 3 (by decide) zw2 (fun _ h9 => h9) rfl dX3_worstError_26 ?_
        refine lv_iload_n hx hb dX3_worstError_29 rfl (lv_at hl 0 rfl) ?_
        obtain ⟨c_30, hm⟩ := ck hm
        refine va_iald hx hb hK hP 1 0 rfl rfl c_30 dX3_worstError_30 ?_
        obtain ⟨r31, h_31, hm⟩ := ob hm
        refine z_callRi (As := [.int (yrow (Int32.toNatClampNeg x3))]) (rest := [.int (yrow (Int32.toNatClampNeg x3)), .ref (md 0)]) (ci := 3) (q := (RX3, TX3, 18)) ⟨hx, hb, hml, hown, hts⟩ (c_X3_pieceOf l dC dI cI cZ md 0 ybd yro yrow ymk yrm yst ypc ybu ybn ymg ysp yjn ymd ybg ymm yupl9 yunl9 F (yrow (Int32.toNatClampNeg x3)) r31 h_31) (cwV 1 hts gX3_worstError_X3_pieceOf rfl rfl rfl kv_X3_pieceOf ⟨Nat.le_of_ble_eq_true rfl, Nat.le_of_ble_eq_true rfl⟩) hK hP rfl rfl rfl rfl hl.1 rfl (Nat.le_of_ble_eq_true rfl) dX3_worstError_31 ⟨Nat.zero_le _, Nat.zero_le _⟩ ?_
        obtain ⟨⟨r34, yup34, yun34⟩, h_34, hm⟩ := ob hm
        refine z_callWl (wc := (wM cI cZ md 0 ybd yro yrow ymk yrm yst ypc ybu ybn ymg ysp yjn ymd ybg ymm yupl9 yunl9)) (w1 := (wM cI cZ md 0 ybd yro yrow ymk yrm yst ypc ybu ybn ymg ysp yjn ymd ybg ymm yup34 yun34)) (ws := (wM cI cZ md 0 ybd yro yrow ymk yrm yst ypc ybu ybn ymg ysp yjn ymd ybg ymm yupl9 yunl9)) (ws' := (wM cI cZ md 0 ybd yro yrow ymk yrm yst ypc ybu ybn ymg ysp yjn ymd ybg ymm yup34 yun34)) [0, 1, 2, 3, 4, 5, 6] [] 7 (As := [.int (yrow (Int32.toNatClampNeg x3)), .int r31]) (rest := []) (ci := 3) (q := (RX3, TX3, 18)) ⟨hx, hb, hml, hown, hts⟩ (c_X3_guessOf l dC dI cI cZ md 0 ybd yro yrow ymk yrm yst ypc ybu ybn ymg ysp yjn ymd ybg ymm yupl9 yunl9 F (yrow (Int32.toNatClampNeg x3)) r31 H.size r34 yup34 yun34 h_34) (cwV 2 hts gX3_worstError_X3_guessOf rfl rfl rfl kv_X3_guessOf ⟨Nat.le_of_ble_eq_true rfl, Nat.le_of_ble_eq_true rfl⟩) hK hP hD hS hA hP hD rfl rfl (by decide) rfl rfl (by decide) rfl rfl rfl rfl rfl hl.1 rfl (Nat.le_of_ble_eq_true rfl) dX3_worstError_34 ⟨Nat.zero_le _, Nat.zero_le _⟩ (fun H locs hP hD hS => ?_)
        refine lv_iload_n hx hb dX3_worstError_37 rfl (lv_at hl 0 rfl) ?_
        refine lv_i2l hx hb dX3_worstError_38 rfl ?_
        refine lv_lsub hx hb dX3_worstError_39 ?_
        refine lv_topl (fun x4 e_x4 => ?_)
        have hm := bnd_e hm e_x4
        refine lv_lstore (lv' := [(4, .long x4), (3, .int x3), (1, .long x1), (0, .ref (md 0))]) hx hb dX3_worstError_40 hl (by decide) rfl (fun ls hl => ?_)
        refine lv_lload hx hb dX3_worstError_42 (lv_at hl 0 rfl) ?_
        refine lv_lconst (v := 0) hx hb dX3_worstError_44 (by decide) ?_
        refine W.lcmp hx hb dX3_worstError_45 ?_
        obtain ⟨y57, e_y57⟩ : ∃ y : Int64, y = (if 0 ≤ x4 then x4 else (-x4)) := ⟨_, rfl⟩
        have hm := bnd_e hm e_y57
        have J_57 : W p l e (headSpec wsX3_worstError ({ frames := 3, cells := 0, slots := 0, locals := 77 } : Room)).room s m ([.ref (md 0)] : List Value).toArray below meth c H locs 0 0 (MQ below (zQi (dC, dI) (wM cI cZ md u_yth ybd yro yrow ymk yrm yst ypc ybu ybn ymg ysp yjn ymd ybg ymm u_yup u_yun) [(cI, .int), (cZ, .boolean)] A r) ([.ref (md 0)] : List Value).toArray s 0 0 A) (F0 m 57 ls [.long y57]) := by
          refine lv_lstore (lv' := [(4, .long y57), (3, .int x3), (1, .long x1), (0, .ref (md 0))]) hx hb dX3_worstError_57 hl (by decide) rfl (fun ls hl => ?_)
          refine lv_lload hx hb dX3_worstError_59 (lv_at hl 0 rfl) ?_
          refine lv_lload_n hx hb dX3_worstError_61 rfl (lv_at hl 2 rfl) ?_
          refine W.lcmp hx hb dX3_worstError_62 ?_
          refine lv_if_le (tgt := 71) hx hb dX3_worstError_63 (by decide) (fun c_63 => ?_) (fun c_63 => ?_)
          · have c_63 : y57 ≤ x1 := (lg_cmp_le _ _).mp c_63
            have hm := it_t hm c_63
            refine lv_lload_n hx hb dX3_worstError_71 rfl (lv_at hl 2 rfl) ?_
            refine lv_lstore_n (lv' := [(1, .long x1), (4, .long y57), (3, .int x3), (0, .ref (md 0))]) hx hb dX3_worstError_72 rfl hl (by decide) rfl (fun ls hl => ?_)
            obtain ⟨x3_1, e_x3_1⟩ : ∃ y : Int32, y = x3 + 1 := ⟨_, rfl⟩
            have hm := bnd_e hm e_x3_1
            refine lv_iinc (v := x3_1) (lv' := [(3, .int x3_1), (1, .long x1), (4, .long y57), (0, .ref (md 0))]) hx hb dX3_worstError_73 hl (k := 2) rfl (by rw [e_x3_1]; rfl) (by decide) rfl (fun ls hl => ?_)
            refine lv_goto (tgt := 9) hx hb dX3_worstError_76 (by decide) ?_
            exact ih_9 x3_1 x1 yup34 yun34 hm _ _ hP hD hS _ (lv_sub hl [0, 1, 3] rfl)
          · have c_63 : ¬ (y57 ≤ x1) := fun h => c_63 ((lg_cmp_le _ _).mpr h)
            have hm := it_f hm c_63
            refine lv_lload hx hb dX3_worstError_66 (lv_at hl 0 rfl) ?_
            refine lv_goto (tgt := 72) hx hb dX3_worstError_68 (by decide) ?_
            refine lv_lstore_n (lv' := [(1, .long y57), (4, .long y57), (3, .int x3), (0, .ref (md 0))]) hx hb dX3_worstError_72 rfl hl (by decide) rfl (fun ls hl => ?_)
            obtain ⟨x3_2, e_x3_2⟩ : ∃ y : Int32, y = x3 + 1 := ⟨_, rfl⟩
            have hm := bnd_e hm e_x3_2
            refine lv_iinc (v := x3_2) (lv' := [(3, .int x3_2), (1, .long y57), (4, .long y57), (0, .ref (md 0))]) hx hb dX3_worstError_73 hl (k := 2) rfl (by rw [e_x3_2]; rfl) (by decide) rfl (fun ls hl => ?_)
            refine lv_goto (tgt := 9) hx hb dX3_worstError_76 (by decide) ?_
            exact ih_9 x3_2 y57 yup34 yun34 hm _ _ hP hD hS _ (lv_sub hl [0, 1, 3] rfl)
        refine lv_if_ge (tgt := 55) hx hb dX3_worstError_46 (by decide) (fun c_46 => ?_) (fun c_46 => ?_)
        · have c_46 : 0 ≤ x4 := (lg_cmp_ge _ _).mp c_46
          refine lv_lload hx hb dX3_worstError_55 (lv_at hl 0 rfl) ?_
          have e9 : y57 = x4 := by rw [e_y57, if_pos c_46]
          rw [e9] at J_57
          exact J_57
        · have c_46 : ¬ (0 ≤ x4) := fun h => c_46 ((lg_cmp_ge _ _).mpr h)
          refine lv_lload hx hb dX3_worstError_49 (lv_at hl 0 rfl) ?_
          refine lv_lneg hx hb dX3_worstError_51 ?_
          refine lv_goto (tgt := 57) hx hb dX3_worstError_52 (by decide) ?_
          have e9 : y57 = (-x4) := by rw [e_y57, if_neg c_46]
          rw [e9] at J_57
          exact J_57
  exact L_9 F 0 0 yup yun hq_9 _ _ hP hD hS _ (lv_sub hl [0, 1, 2] rfl)
set_option maxHeartbeats 4000000 in
set_option maxRecDepth 100000 in
theorem c_X3_pieces (l : Launch) (dC : Nat → ClassId) (dI : Nat → Nat → Nat) (cI : ClassId) (cZ : ClassId) (md : Nat → Nat) (yth : Int32) (ybd : Int32) (yro : Int32) (yrow : Nat → Int32) (ymk : Nat → Int32) (yrm : Int32) (yst : Nat → Int32) (ypc : Int32) (ybu : Nat → Int32) (ybn : Int32) (ymg : Int32) (ysp : Int32) (yjn : Int32) (ymd : Nat → Int32) (ybg : Nat → Int32) (ymm : Int32) (yup : Int64) (yun : Int64) (F : Nat) (sz : Nat) (r : Int32) (u_yth : Int32) (hm : X3_pieces F yth ypc = some (r, u_yth)) : Met l yX3_pieces wsX3_pieces ({ frames := 0, cells := 0, slots := 0, locals := 0 }) (va_Pc [.ref (md 0)] (zW (dC, dI) (wM cI cZ md yth ybd yro yrow ymk yrm yst ypc ybu ybn ymg ysp yjn ymd ybg ymm yup yun) [(cI, .int), (cZ, .boolean)] sz)) (zQi (dC, dI) (wM cI cZ md u_yth ybd yro yrow ymk yrm yst ypc ybu ybn ymg ysp yjn ymd ybg ymm yup yun) [(cI, .int), (cZ, .boolean)] (va_A (wM cI cZ md yth ybd yro yrow ymk yrm yst ypc ybu ybn ymg ysp yjn ymd ybg ymm yup yun) sz) r) 0 0 (va_A (wM cI cZ md yth ybd yro yrow ymk yrm yst ypc ybu ybn ymg ysp yjn ymd ybg ymm yup yun) sz) := by
  refine Met.ofW (cc := cX3_pieces) (maxL := 1) (ret := (some .int)) (by decide) rfl ?_
  intro p e s m args below meth c s₁ B hml hv
  obtain ⟨rfl, hsz, hP, hK, hD0⟩ := hv
  have hx := B.exec
  have hb := B.bytes
  have hr := B.returns
  have hts := atoms_spec (ws := wsX3_pieces) B.pre
  have hown : s.vm.findClass RX3 = some m.cls := findClass_of_methodNamed B.named
  have hlocks := B.notSynchronized
  subst hsz
  have hD := hD0.self (sz := s.heap.size)
  generalize hAe : va_A (wM cI cZ md yth ybd yro yrow ymk yrm yst ypc ybu ybn ymg ysp yjn ymd ybg ymm yup yun) s.heap.size = A at hD ⊢
  have hA : ∀ q : Nat, s.heap.size ≤ q → A q := fun q h => by rw [← hAe]; exact Or.inr h
  have hS : va_S A s.heap s.heap [] := va_S.rf
  generalize eL : ([] : List Loc) = locs at hS ⊢
  obtain ⟨H, eH⟩ : ∃ z : Heap, z = s.heap := ⟨_, rfl⟩
  have hP : va_P (dC, dI) vwCl (wM cI cZ md yth ybd yro yrow ymk yrm yst ypc ybu ybn ymg ysp yjn ymd ybg ymm yup yun) H := by rw [eH]; exact hP
  have hS : va_S A s.heap H locs := by rw [eH]; exact hS
  refine z_heap eH ?_
  have hl := lv_entry ([.ref (md 0)]) (n := 1) (Nat.le_of_ble_eq_true rfl)
  rw [lg_entry_eq]
  generalize (lg_sl ([.ref (md 0)]) ++ List.replicate (1 - (lg_sl ([.ref (md 0)])).length) Slot.unset).toArray = ls at hl ⊢
  have hl : lv_has ls 1 [(0, .ref (md 0))] := hl
  have zw0 := hts (.fieldLink RX3 36 "LearnedLedgeModel" "thrown" "I") (by decide +kernel)
  have zw1 := hts (.fieldLink RX3 48 "LearnedLedgeModel" "pieces" "I") (by decide +kernel)
  have ziX3 : ∀ w ∈ u_ws RX3 TX3 18, w ∈ wsX3_pieces := by decide +kernel
  refine lv_aload_n hx hb dX3_pieces_0 rfl (lv_at hl 0 rfl) ?_
  refine lv_iconst (v := 0) hx hb dX3_pieces_1 (by decide) ?_
  refine va_put (D := (dC, dI)) (ci := 3) (v := .int 0) (ty := .int) (C := RX3) (T := TX3) (N := 18) hx hb hts ziX3 tyX3 tyX3_ok nmX3 hown hK hP hD hS 0 rfl rfl 0 (by decide) zw0 (fun _ h9 => h9) rfl (by decide +kernel) rfl rfl (Nat.le_of_ble_eq_true rfl) dX3_pieces_2 (fun H locs hP hD hS => ?_)
  have hP : va_P (dC, dI) vwCl (wM cI cZ md 0 ybd yro yrow ymk yrm yst ypc ybu ybn ymg ysp yjn ymd ybg ymm yup yun) H := hP
  have hD : va_D A (wM cI cZ md 0 ybd yro yrow ymk yrm yst ypc ybu ybn ymg ysp yjn ymd ybg ymm yup yun) := hD
  refine lv_aload_n hx hb dX3_pieces_5 rfl (lv_at hl 0 rfl) ?_
  refine va_get (D := (dC, dI)) (ci := 3) (v := .int ypc) (C := RX3) (T := TX3) (N := 18) hx hb hts ziX3 hown hK hP 0 rfl rfl 7 (by decide) zw1 (fun _ h9 => h9) rfl dX3_pieces_6 ?_
  cases o2 hm
  exact W.iret hx hb hr (fun t ht hW => ⟨⟨_, (), rfl, rfl, by rw [ht]; exact hP, va_K.moved hW.alike hK, hD⟩, hS.F ht⟩) hS.2.2 dX3_pieces_9
set_option maxHeartbeats 4000000 in
set_option maxRecDepth 100000 in
theorem c_X3_asks (l : Launch) (dC : Nat → ClassId) (dI : Nat → Nat → Nat) (cI : ClassId) (cZ : ClassId) (md : Nat → Nat) (yth : Int32) (ybd : Int32) (yro : Int32) (yrow : Nat → Int32) (ymk : Nat → Int32) (yrm : Int32) (yst : Nat → Int32) (ypc : Int32) (ybu : Nat → Int32) (ybn : Int32) (ymg : Int32) (ysp : Int32) (yjn : Int32) (ymd : Nat → Int32) (ybg : Nat → Int32) (ymm : Int32) (yup : Int64) (yun : Int64) (F : Nat) (p1 : Int32) (sz : Nat) (r : Int32) (u_yth : Int32) (hm : X3_asks F yth ypc p1 = some (r, u_yth)) : Met l yX3_asks wsX3_asks ({ frames := 0, cells := 0, slots := 0, locals := 0 }) (va_Pc [.ref (md 0), .int p1] (zW (dC, dI) (wM cI cZ md yth ybd yro yrow ymk yrm yst ypc ybu ybn ymg ysp yjn ymd ybg ymm yup yun) [(cI, .int), (cZ, .boolean)] sz)) (zQi (dC, dI) (wM cI cZ md u_yth ybd yro yrow ymk yrm yst ypc ybu ybn ymg ysp yjn ymd ybg ymm yup yun) [(cI, .int), (cZ, .boolean)] (va_A (wM cI cZ md yth ybd yro yrow ymk yrm yst ypc ybu ybn ymg ysp yjn ymd ybg ymm yup yun) sz) r) 0 0 (va_A (wM cI cZ md yth ybd yro yrow ymk yrm yst ypc ybu ybn ymg ysp yjn ymd ybg ymm yup yun) sz) := by
  refine Met.ofW (cc := cX3_asks) (maxL := 2) (ret := (some .boolean)) (by decide) rfl ?_
  intro p e s m args below meth c s₁ B hml hv
  obtain ⟨rfl, hsz, hP, hK, hD0⟩ := hv
  have hx := B.exec
  have hb := B.bytes
  have hr := B.returns
  have hts := atoms_spec (ws := wsX3_asks) B.pre
  have hown : s.vm.findClass RX3 = some m.cls := findClass_of_methodNamed B.named
  have hlocks := B.notSynchronized
  subst hsz
  have hD := hD0.self (sz := s.heap.size)
  generalize hAe : va_A (wM cI cZ md yth ybd yro yrow ymk yrm yst ypc ybu ybn ymg ysp yjn ymd ybg ymm yup yun) s.heap.size = A at hD ⊢
  have hA : ∀ q : Nat, s.heap.size ≤ q → A q := fun q h => by rw [← hAe]; exact Or.inr h
  have hS : va_S A s.heap s.heap [] := va_S.rf
  generalize eL : ([] : List Loc) = locs at hS ⊢
  obtain ⟨H, eH⟩ : ∃ z : Heap, z = s.heap := ⟨_, rfl⟩
  have hP : va_P (dC, dI) vwCl (wM cI cZ md yth ybd yro yrow ymk yrm yst ypc ybu ybn ymg ysp yjn ymd ybg ymm yup yun) H := by rw [eH]; exact hP
  have hS : va_S A s.heap H locs := by rw [eH]; exact hS
  refine z_heap eH ?_
  have hl := lv_entry ([.ref (md 0), .int p1]) (n := 2) (Nat.le_of_ble_eq_true rfl)
  rw [lg_entry_eq]
  generalize (lg_sl ([.ref (md 0), .int p1]) ++ List.replicate (2 - (lg_sl ([.ref (md 0), .int p1])).length) Slot.unset).toArray = ls at hl ⊢
  have hl : lv_has ls 2 [(0, .ref (md 0)), (1, .int p1)] := hl
  have zw0 := hts (.fieldLink RX3 48 "LearnedLedgeModel" "pieces" "I") (by decide +kernel)
  have zw1 := hts (.fieldLink RX3 36 "LearnedLedgeModel" "thrown" "I") (by decide +kernel)
  have ziX3 : ∀ w ∈ u_ws RX3 TX3 18, w ∈ wsX3_asks := by decide +kernel
  refine lv_aload_n hx hb dX3_asks_0 rfl (lv_at hl 0 rfl) ?_
  refine lv_iload_n hx hb dX3_asks_1 rfl (lv_at hl 1 rfl) ?_
  obtain ⟨y18, e_y18⟩ : ∃ y : Int32, y = (if p1 < 0 then 1 else (if ypc ≤ p1 then 1 else 0)) := ⟨_, rfl⟩
  have hm := bnd_e hm e_y18
  have J_18 : W p l e (headSpec wsX3_asks ({ frames := 0, cells := 0, slots := 0, locals := 0 } : Room)).room s m ([.ref (md 0), .int p1] : List Value).toArray below meth c H locs 0 0 (MQ below (zQi (dC, dI) (wM cI cZ md u_yth ybd yro yrow ymk yrm yst ypc ybu ybn ymg ysp yjn ymd ybg ymm yup yun) [(cI, .int), (cZ, .boolean)] A r) ([.ref (md 0), .int p1] : List Value).toArray s 0 0 A) (F0 m 18 ls [.int y18, .ref (md 0)]) := by
    refine va_put (D := (dC, dI)) (ci := 3) (v := .int y18) (ty := .int) (C := RX3) (T := TX3) (N := 18) hx hb hts ziX3 tyX3 tyX3_ok nmX3 hown hK hP hD hS 0 rfl rfl 0 (by decide) zw1 (fun _ h9 => h9) rfl (by decide +kernel) rfl rfl (Nat.le_of_ble_eq_true rfl) dX3_asks_18 (fun H locs hP hD hS => ?_)
    have hP : va_P (dC, dI) vwCl (wM cI cZ md y18 ybd yro yrow ymk yrm yst ypc ybu ybn ymg ysp yjn ymd ybg ymm yup yun) H := hP
    have hD : va_D A (wM cI cZ md y18 ybd yro yrow ymk yrm yst ypc ybu ybn ymg ysp yjn ymd ybg ymm yup yun) := hD
    refine lv_aload_n hx hb dX3_asks_21 rfl (lv_at hl 0 rfl) ?_
    refine va_get (D := (dC, dI)) (ci := 3) (v := .int y18) (C := RX3) (T := TX3) (N := 18) hx hb hts ziX3 hown hK hP 0 rfl rfl 0 (by decide) zw1 (fun _ h9 => h9) rfl dX3_asks_22 ?_
    refine lv_if_ne (tgt := 32) hx hb dX3_asks_25 (by decide) (fun c_25 => ?_) (fun c_25 => ?_)
    · have hm := it_f hm c_25
      refine lv_iconst (v := 0) hx hb dX3_asks_32 (by decide) ?_
      cases o2 hm
      exact W.zret hx hb hr rfl (fun t ht hW => ⟨⟨_, (), rfl, rfl, by rw [ht]; exact hP, va_K.moved hW.alike hK, hD⟩, hS.F ht⟩) hS.2.2 dX3_asks_33
    · have hm := it_t hm c_25
      refine lv_iconst (v := 1) hx hb dX3_asks_28 (by decide) ?_
      refine lv_goto (tgt := 33) hx hb dX3_asks_29 (by decide) ?_
      cases o2 hm
      exact W.zret hx hb hr rfl (fun t ht hW => ⟨⟨_, (), rfl, rfl, by rw [ht]; exact hP, va_K.moved hW.alike hK, hD⟩, hS.F ht⟩) hS.2.2 dX3_asks_33
  refine lv_if_lt (tgt := 17) hx hb dX3_asks_2 (by decide) (fun c_2 => ?_) (fun c_2 => ?_)
  · refine lv_iconst (v := 1) hx hb dX3_asks_17 (by decide) ?_
    have e9 : y18 = 1 := by rw [e_y18, if_pos c_2]
    rw [e9] at J_18
    exact J_18
  · refine lv_iload_n hx hb dX3_asks_5 rfl (lv_at hl 1 rfl) ?_
    refine lv_aload_n hx hb dX3_asks_6 rfl (lv_at hl 0 rfl) ?_
    refine va_get (D := (dC, dI)) (ci := 3) (v := .int ypc) (C := RX3) (T := TX3) (N := 18) hx hb hts ziX3 hown hK hP 0 rfl rfl 7 (by decide) zw0 (fun _ h9 => h9) rfl dX3_asks_7 ?_
    refine lv_icmp_ge (tgt := 17) hx hb dX3_asks_10 (by decide) (fun c_10 => ?_) (fun c_10 => ?_)
    · refine lv_iconst (v := 1) hx hb dX3_asks_17 (by decide) ?_
      have e9 : y18 = 1 := by rw [e_y18, if_neg c_2, if_pos c_10]
      rw [e9] at J_18
      exact J_18
    · refine lv_iconst (v := 0) hx hb dX3_asks_13 (by decide) ?_
      refine lv_goto (tgt := 18) hx hb dX3_asks_14 (by decide) ?_
      have e9 : y18 = 0 := by rw [e_y18, if_neg c_2, if_neg c_10]
      rw [e9] at J_18
      exact J_18
set_option maxHeartbeats 4000000 in
set_option maxRecDepth 100000 in
theorem c_X3_start (l : Launch) (dC : Nat → ClassId) (dI : Nat → Nat → Nat) (cI : ClassId) (cZ : ClassId) (md : Nat → Nat) (yth : Int32) (ybd : Int32) (yro : Int32) (yrow : Nat → Int32) (ymk : Nat → Int32) (yrm : Int32) (yst : Nat → Int32) (ypc : Int32) (ybu : Nat → Int32) (ybn : Int32) (ymg : Int32) (ysp : Int32) (yjn : Int32) (ymd : Nat → Int32) (ybg : Nat → Int32) (ymm : Int32) (yup : Int64) (yun : Int64) (F : Nat) (p1 : Int32) (sz : Nat) (r : Int32) (u_yth : Int32) (hm : X3_start F yth yst ypc p1 = some (r, u_yth)) : Met l yX3_start wsX3_start ({ frames := 1, cells := 0, slots := 0, locals := 21 }) (va_Pc [.ref (md 0), .int p1] (zW (dC, dI) (wM cI cZ md yth ybd yro yrow ymk yrm yst ypc ybu ybn ymg ysp yjn ymd ybg ymm yup yun) [(cI, .int), (cZ, .boolean)] sz)) (zQi (dC, dI) (wM cI cZ md u_yth ybd yro yrow ymk yrm yst ypc ybu ybn ymg ysp yjn ymd ybg ymm yup yun) [(cI, .int), (cZ, .boolean)] (va_A (wM cI cZ md yth ybd yro yrow ymk yrm yst ypc ybu ybn ymg ysp yjn ymd ybg ymm yup yun) sz) r) 0 0 (va_A (wM cI cZ md yth ybd yro yrow ymk yrm yst ypc ybu ybn ymg ysp yjn ymd ybg ymm yup yun) sz) := by
  refine Met.ofW (cc := cX3_start) (maxL := 2) (ret := (some .int)) (by decide) rfl ?_
  intro p e s m args below meth c s₁ B hml hv
  obtain ⟨rfl, hsz, hP, hK, hD0⟩ := hv
  have hx := B.exec
  have hb := B.bytes
  have hr := B.returns
  have hts := atoms_spec (ws := wsX3_start) B.pre
  have hown : s.vm.findClass RX3 = some m.cls := findClass_of_methodNamed B.named
  have hlocks := B.notSynchronized
  subst hsz
  have hD := hD0.self (sz := s.heap.size)
  generalize hAe : va_A (wM cI cZ md yth ybd yro yrow ymk yrm yst ypc ybu ybn ymg ysp yjn ymd ybg ymm yup yun) s.heap.size = A at hD ⊢
  have hA : ∀ q : Nat, s.heap.size ≤ q → A q := fun q h => by rw [← hAe]; exact Or.inr h
  have hS : va_S A s.heap s.heap [] := va_S.rf
  generalize eL : ([] : List Loc) = locs at hS ⊢
  obtain ⟨H, eH⟩ : ∃ z : Heap, z = s.heap := ⟨_, rfl⟩
  have hP : va_P (dC, dI) vwCl (wM cI cZ md yth ybd yro yrow ymk yrm yst ypc ybu ybn ymg ysp yjn ymd ybg ymm yup yun) H := by rw [eH]; exact hP
  have hS : va_S A s.heap H locs := by rw [eH]; exact hS
  refine z_heap eH ?_
  have hl := lv_entry ([.ref (md 0), .int p1]) (n := 2) (Nat.le_of_ble_eq_true rfl)
  rw [lg_entry_eq]
  generalize (lg_sl ([.ref (md 0), .int p1]) ++ List.replicate (2 - (lg_sl ([.ref (md 0), .int p1])).length) Slot.unset).toArray = ls at hl ⊢
  have hl : lv_has ls 2 [(0, .ref (md 0)), (1, .int p1)] := hl
  have zw0 := hts (.fieldLink RX3 24 "LearnedLedgeModel" "start" "[I") (by decide +kernel)
  have ziX3 : ∀ w ∈ u_ws RX3 TX3 18, w ∈ wsX3_start := by decide +kernel
  refine lv_aload_n hx hb dX3_start_0 rfl (lv_at hl 0 rfl) ?_
  refine lv_iload_n hx hb dX3_start_1 rfl (lv_at hl 1 rfl) ?_
  obtain ⟨⟨r2, yth2⟩, h_2, hm⟩ := ob hm
  refine z_callWi (wc := (wM cI cZ md yth ybd yro yrow ymk yrm yst ypc ybu ybn ymg ysp yjn ymd ybg ymm yup yun)) (w1 := (wM cI cZ md yth2 ybd yro yrow ymk yrm yst ypc ybu ybn ymg ysp yjn ymd ybg ymm yup yun)) (ws := (wM cI cZ md yth ybd yro yrow ymk yrm yst ypc ybu ybn ymg ysp yjn ymd ybg ymm yup yun)) (ws' := (wM cI cZ md yth2 ybd yro yrow ymk yrm yst ypc ybu ybn ymg ysp yjn ymd ybg ymm yup yun)) [0, 1, 2, 3, 4, 5, 6] [] 7 (As := [.int p1]) (rest := []) (ci := 3) (q := (RX3, TX3, 18)) ⟨hx, hb, hml, hown, hts⟩ (c_X3_asks l dC dI cI cZ md yth ybd yro yrow ymk yrm yst ypc ybu ybn ymg ysp yjn ymd ybg ymm yup yun F p1 H.size r2 yth2 h_2) (cwV 1 hts gX3_start_X3_asks rfl rfl rfl kv_X3_asks ⟨Nat.le_of_ble_eq_true rfl, Nat.le_of_ble_eq_true rfl⟩) hK hP hD hS hA hP hD rfl rfl (by decide) rfl rfl (by decide) rfl rfl rfl rfl rfl hl.1 rfl (Nat.le_of_ble_eq_true rfl) dX3_start_2 ⟨Nat.zero_le _, Nat.zero_le _⟩ (fun H locs hP hD hS => ?_)
  refine lv_if_eq (tgt := 17) hx hb dX3_start_5 (by decide) (fun c_5 => ?_) (fun c_5 => ?_)
  · have hm := it_t hm c_5
    refine lv_iconst (v := 0) hx hb dX3_start_17 (by decide) ?_
    cases o2 hm
    exact W.iret hx hb hr (fun t ht hW => ⟨⟨_, (), rfl, rfl, by rw [ht]; exact hP, va_K.moved hW.alike hK, hD⟩, hS.F ht⟩) hS.2.2 dX3_start_18
  · have hm := it_f hm c_5
    refine lv_aload_n hx hb dX3_start_8 rfl (lv_at hl 0 rfl) ?_
    refine va_get (D := (dC, dI)) (ci := 3) (v := .ref (md 3)) (C := RX3) (T := TX3) (N := 18) hx hb hts ziX3 hown hK hP 0 rfl rfl 6 (by decide) zw0 (fun _ h9 => h9) rfl dX3_start_9 ?_
    refine lv_iload_n hx hb dX3_start_12 rfl (lv_at hl 1 rfl) ?_
    obtain ⟨c_13, hm⟩ := ck hm
    refine va_iald hx hb hK hP 3 0 rfl rfl c_13 dX3_start_13 ?_
    refine lv_goto (tgt := 18) hx hb dX3_start_14 (by decide) ?_
    cases o2 hm
    exact W.iret hx hb hr (fun t ht hW => ⟨⟨_, (), rfl, rfl, by rw [ht]; exact hP, va_K.moved hW.alike hK, hD⟩, hS.F ht⟩) hS.2.2 dX3_start_18
set_option maxHeartbeats 4000000 in
set_option maxRecDepth 100000 in
theorem c_X3_firstKey (l : Launch) (dC : Nat → ClassId) (dI : Nat → Nat → Nat) (cI : ClassId) (cZ : ClassId) (md : Nat → Nat) (yth : Int32) (ybd : Int32) (yro : Int32) (yrow : Nat → Int32) (ymk : Nat → Int32) (yrm : Int32) (yst : Nat → Int32) (ypc : Int32) (ybu : Nat → Int32) (ybn : Int32) (ymg : Int32) (ysp : Int32) (yjn : Int32) (ymd : Nat → Int32) (ybg : Nat → Int32) (ymm : Int32) (yup : Int64) (yun : Int64) (F : Nat) (p1 : Int32) (sz : Nat) (r : Int32) (u_yth : Int32) (hm : X3_firstKey F yth yrow yst ypc p1 = some (r, u_yth)) : Met l yX3_firstKey wsX3_firstKey ({ frames := 1, cells := 0, slots := 0, locals := 21 }) (va_Pc [.ref (md 0), .int p1] (zW (dC, dI) (wM cI cZ md yth ybd yro yrow ymk yrm yst ypc ybu ybn ymg ysp yjn ymd ybg ymm yup yun) [(cI, .int), (cZ, .boolean)] sz)) (zQi (dC, dI) (wM cI cZ md u_yth ybd yro yrow ymk yrm yst ypc ybu ybn ymg ysp yjn ymd ybg ymm yup yun) [(cI, .int), (cZ, .boolean)] (va_A (wM cI cZ md yth ybd yro yrow ymk yrm yst ypc ybu ybn ymg ysp yjn ymd ybg ymm yup yun) sz) r) 0 0 (va_A (wM cI cZ md yth ybd yro yrow ymk yrm yst ypc ybu ybn ymg ysp yjn ymd ybg ymm yup yun) sz) := by
  refine Met.ofW (cc := cX3_firstKey) (maxL := 2) (ret := (some .int)) (by decide) rfl ?_
  intro p e s m args below meth c s₁ B hml hv
  obtain ⟨rfl, hsz, hP, hK, hD0⟩ := hv
  have hx := B.exec
  have hb := B.bytes
  have hr := B.returns
  have hts := atoms_spec (ws := wsX3_firstKey) B.pre
  have hown : s.vm.findClass RX3 = some m.cls := findClass_of_methodNamed B.named
  have hlocks := B.notSynchronized
  subst hsz
  have hD := hD0.self (sz := s.heap.size)
  generalize hAe : va_A (wM cI cZ md yth ybd yro yrow ymk yrm yst ypc ybu ybn ymg ysp yjn ymd ybg ymm yup yun) s.heap.size = A at hD ⊢
  have hA : ∀ q : Nat, s.heap.size ≤ q → A q := fun q h => by rw [← hAe]; exact Or.inr h
  have hS : va_S A s.heap s.heap [] := va_S.rf
  generalize eL : ([] : List Loc) = locs at hS ⊢
  obtain ⟨H, eH⟩ : ∃ z : Heap, z = s.heap := ⟨_, rfl⟩
  have hP : va_P (dC, dI) vwCl (wM cI cZ md yth ybd yro yrow ymk yrm yst ypc ybu ybn ymg ysp yjn ymd ybg ymm yup yun) H := by rw [eH]; exact hP
  have hS : va_S A s.heap H locs := by rw [eH]; exact hS
  refine z_heap eH ?_
  have hl := lv_entry ([.ref (md 0), .int p1]) (n := 2) (Nat.le_of_ble_eq_true rfl)
  rw [lg_entry_eq]
  generalize (lg_sl ([.ref (md 0), .int p1]) ++ List.replicate (2 - (lg_sl ([.ref (md 0), .int p1])).length) Slot.unset).toArray = ls at hl ⊢
  have hl : lv_has ls 2 [(0, .ref (md 0)), (1, .int p1)] := hl
  have zw0 := hts (.fieldLink RX3 16 "LearnedLedgeModel" "row" "[I") (by decide +kernel)
  have zw1 := hts (.fieldLink RX3 24 "LearnedLedgeModel" "start" "[I") (by decide +kernel)
  have ziX3 : ∀ w ∈ u_ws RX3 TX3 18, w ∈ wsX3_firstKey := by decide +kernel
  refine lv_aload_n hx hb dX3_firstKey_0 rfl (lv_at hl 0 rfl) ?_
  refine lv_iload_n hx hb dX3_firstKey_1 rfl (lv_at hl 1 rfl) ?_
  obtain ⟨⟨r2, yth2⟩, h_2, hm⟩ := ob hm
  refine z_callWi (wc := (wM cI cZ md yth ybd yro yrow ymk yrm yst ypc ybu ybn ymg ysp yjn ymd ybg ymm yup yun)) (w1 := (wM cI cZ md yth2 ybd yro yrow ymk yrm yst ypc ybu ybn ymg ysp yjn ymd ybg ymm yup yun)) (ws := (wM cI cZ md yth ybd yro yrow ymk yrm yst ypc ybu ybn ymg ysp yjn ymd ybg ymm yup yun)) (ws' := (wM cI cZ md yth2 ybd yro yrow ymk yrm yst ypc ybu ybn ymg ysp yjn ymd ybg ymm yup yun)) [0, 1, 2, 3, 4, 5, 6] [] 7 (As := [.int p1]) (rest := []) (ci := 3) (q := (RX3, TX3, 18)) ⟨hx, hb, hml, hown, hts⟩ (c_X3_asks l dC dI cI cZ md yth ybd yro yrow ymk yrm yst ypc ybu ybn ymg ysp yjn ymd ybg ymm yup yun F p1 H.size r2 yth2 h_2) (cwV 1 hts gX3_firstKey_X3_asks rfl rfl rfl kv_X3_asks ⟨Nat.le_of_ble_eq_true rfl, Nat.le_of_ble_eq_true rfl⟩) hK hP hD hS hA hP hD rfl rfl (by decide) rfl rfl (by decide) rfl rfl rfl rfl rfl hl.1 rfl (Nat.le_of_ble_eq_true rfl) dX3_firstKey_2 ⟨Nat.zero_le _, Nat.zero_le _⟩ (fun H locs hP hD hS => ?_)
  refine lv_if_eq (tgt := 22) hx hb dX3_firstKey_5 (by decide) (fun c_5 => ?_) (fun c_5 => ?_)
  · have hm := it_t hm c_5
    refine lv_iconst (v := 0) hx hb dX3_firstKey_22 (by decide) ?_
    cases o2 hm
    exact W.iret hx hb hr (fun t ht hW => ⟨⟨_, (), rfl, rfl, by rw [ht]; exact hP, va_K.moved hW.alike hK, hD⟩, hS.F ht⟩) hS.2.2 dX3_firstKey_23
  · have hm := it_f hm c_5
    refine lv_aload_n hx hb dX3_firstKey_8 rfl (lv_at hl 0 rfl) ?_
    refine va_get (D := (dC, dI)) (ci := 3) (v := .ref (md 1)) (C := RX3) (T := TX3) (N := 18) hx hb hts ziX3 hown hK hP 0 rfl rfl 3 (by decide) zw0 (fun _ h9 => h9) rfl dX3_firstKey_9 ?_
    refine lv_aload_n hx hb dX3_firstKey_12 rfl (lv_at hl 0 rfl) ?_
    refine va_get (D := (dC, dI)) (ci := 3) (v := .ref (md 3)) (C := RX3) (T := TX3) (N := 18) hx hb hts ziX3 hown hK hP 0 rfl rfl 6 (by decide) zw1 (fun _ h9 => h9) rfl dX3_firstKey_13 ?_
    refine lv_iload_n hx hb dX3_firstKey_16 rfl (lv_at hl 1 rfl) ?_
    obtain ⟨c_17, hm⟩ := ck hm
    refine va_iald hx hb hK hP 3 0 rfl rfl c_17 dX3_firstKey_17 ?_
    obtain ⟨c_18, hm⟩ := ck hm
    refine va_iald hx hb hK hP 1 0 rfl rfl c_18 dX3_firstKey_18 ?_
    refine lv_goto (tgt := 23) hx hb dX3_firstKey_19 (by decide) ?_
    cases o2 hm
    exact W.iret hx hb hr (fun t ht hW => ⟨⟨_, (), rfl, rfl, by rw [ht]; exact hP, va_K.moved hW.alike hK, hD⟩, hS.F ht⟩) hS.2.2 dX3_firstKey_23
set_option maxHeartbeats 4000000 in
set_option maxRecDepth 100000 in
theorem c_X3_riseOf (l : Launch) (dC : Nat → ClassId) (dI : Nat → Nat → Nat) (cI : ClassId) (cZ : ClassId) (md : Nat → Nat) (yth : Int32) (ybd : Int32) (yro : Int32) (yrow : Nat → Int32) (ymk : Nat → Int32) (yrm : Int32) (yst : Nat → Int32) (ypc : Int32) (ybu : Nat → Int32) (ybn : Int32) (ymg : Int32) (ysp : Int32) (yjn : Int32) (ymd : Nat → Int32) (ybg : Nat → Int32) (ymm : Int32) (yup : Int64) (yun : Int64) (F : Nat) (p1 : Int32) (sz : Nat) (r : Int32) (u_yup : Int64) (u_yun : Int64) (hm : X3_riseOf F ybd yrow yrm yst ypc yup yun p1 = some (r, u_yup, u_yun)) : Met l yX3_riseOf wsX3_riseOf ({ frames := 2, cells := 0, slots := 0, locals := 55 }) (va_Pc [.ref (md 0), .int p1] (zW (dC, dI) (wM cI cZ md yth ybd yro yrow ymk yrm yst ypc ybu ybn ymg ysp yjn ymd ybg ymm yup yun) [(cI, .int), (cZ, .boolean)] sz)) (zQi (dC, dI) (wM cI cZ md yth ybd yro yrow ymk yrm yst ypc ybu ybn ymg ysp yjn ymd ybg ymm u_yup u_yun) [(cI, .int), (cZ, .boolean)] (va_A (wM cI cZ md yth ybd yro yrow ymk yrm yst ypc ybu ybn ymg ysp yjn ymd ybg ymm yup yun) sz) r) 0 0 (va_A (wM cI cZ md yth ybd yro yrow ymk yrm yst ypc ybu ybn ymg ysp yjn ymd ybg ymm yup yun) sz) := by
  refine Met.ofW (cc := cX3_riseOf) (maxL := 2) (ret := (some .int)) (by decide) rfl ?_
  intro p e s m args below meth c s₁ B hml hv
  obtain ⟨rfl, hsz, hP, hK, hD0⟩ := hv
  have hx := B.exec
  have hb := B.bytes
  have hr := B.returns
  have hts := atoms_spec (ws := wsX3_riseOf) B.pre
  have hown : s.vm.findClass RX3 = some m.cls := findClass_of_methodNamed B.named
  have hlocks := B.notSynchronized
  subst hsz
  have hD := hD0.self (sz := s.heap.size)
  generalize hAe : va_A (wM cI cZ md yth ybd yro yrow ymk yrm yst ypc ybu ybn ymg ysp yjn ymd ybg ymm yup yun) s.heap.size = A at hD ⊢
  have hA : ∀ q : Nat, s.heap.size ≤ q → A q := fun q h => by rw [← hAe]; exact Or.inr h
  have hS : va_S A s.heap s.heap [] := va_S.rf
  generalize eL : ([] : List Loc) = locs at hS ⊢
  obtain ⟨H, eH⟩ : ∃ z : Heap, z = s.heap := ⟨_, rfl⟩
  have hP : va_P (dC, dI) vwCl (wM cI cZ md yth ybd yro yrow ymk yrm yst ypc ybu ybn ymg ysp yjn ymd ybg ymm yup yun) H := by rw [eH]; exact hP
  have hS : va_S A s.heap H locs := by rw [eH]; exact hS
  refine z_heap eH ?_
  have hl := lv_entry ([.ref (md 0), .int p1]) (n := 2) (Nat.le_of_ble_eq_true rfl)
  rw [lg_entry_eq]
  generalize (lg_sl ([.ref (md 0), .int p1]) ++ List.replicate (2 - (lg_sl ([.ref (md 0), .int p1])).length) Slot.unset).toArray = ls at hl ⊢
  have hl : lv_has ls 2 [(0, .ref (md 0)), (1, .int p1)] := hl
  have zw0 := hts (.fieldLink RX3 41 "LearnedLedgeModel" "leastUp" "J") (by decide +kernel)
  have ziX3 : ∀ w ∈ u_ws RX3 TX3 18, w ∈ wsX3_riseOf := by decide +kernel
  refine lv_aload_n hx hb dX3_riseOf_0 rfl (lv_at hl 0 rfl) ?_
  refine lv_iload_n hx hb dX3_riseOf_1 rfl (lv_at hl 1 rfl) ?_
  obtain ⟨⟨yup2, yun2⟩, h_2, hm⟩ := ob hm
  refine z_callWv (wc := (wM cI cZ md yth ybd yro yrow ymk yrm yst ypc ybu ybn ymg ysp yjn ymd ybg ymm yup yun)) (w1 := (wM cI cZ md yth ybd yro yrow ymk yrm yst ypc ybu ybn ymg ysp yjn ymd ybg ymm yup2 yun2)) (ws := (wM cI cZ md yth ybd yro yrow ymk yrm yst ypc ybu ybn ymg ysp yjn ymd ybg ymm yup yun)) (ws' := (wM cI cZ md yth ybd yro yrow ymk yrm yst ypc ybu ybn ymg ysp yjn ymd ybg ymm yup2 yun2)) [0, 1, 2, 3, 4, 5, 6] [] 7 (As := [.int p1]) (rest := []) (ci := 3) (q := (RX3, TX3, 18)) ⟨hx, hb, hml, hown, hts⟩ (c_X3_lays l dC dI cI cZ md yth ybd yro yrow ymk yrm yst ypc ybu ybn ymg ysp yjn ymd ybg ymm yup yun F p1 H.size yup2 yun2 h_2) (cwV 1 hts gX3_riseOf_X3_lays rfl rfl rfl kv_X3_lays ⟨Nat.le_of_ble_eq_true rfl, Nat.le_of_ble_eq_true rfl⟩) hK hP hD hS hA hP hD rfl rfl (by decide) rfl rfl (by decide) rfl rfl rfl rfl rfl hl.1 rfl (Nat.le_of_ble_eq_true rfl) dX3_riseOf_2 ⟨Nat.zero_le _, Nat.zero_le _⟩ (fun H locs hP hD hS => ?_)
  refine lv_aload_n hx hb dX3_riseOf_5 rfl (lv_at hl 0 rfl) ?_
  refine va_get (D := (dC, dI)) (ci := 3) (v := .long yup2) (C := RX3) (T := TX3) (N := 18) hx hb hts ziX3 hown hK hP 0 rfl rfl 16 (by decide) zw0 (fun _ h9 => h9) rfl dX3_riseOf_6 ?_
  refine lv_l2i hx hb dX3_riseOf_9 rfl ?_
  cases o2 hm
  exact W.iret hx hb hr (fun t ht hW => ⟨⟨_, (), rfl, rfl, by rw [ht]; exact hP, va_K.moved hW.alike hK, hD⟩, hS.F ht⟩) hS.2.2 dX3_riseOf_10
set_option maxHeartbeats 4000000 in
set_option maxRecDepth 100000 in
theorem c_X3_runOf (l : Launch) (dC : Nat → ClassId) (dI : Nat → Nat → Nat) (cI : ClassId) (cZ : ClassId) (md : Nat → Nat) (yth : Int32) (ybd : Int32) (yro : Int32) (yrow : Nat → Int32) (ymk : Nat → Int32) (yrm : Int32) (yst : Nat → Int32) (ypc : Int32) (ybu : Nat → Int32) (ybn : Int32) (ymg : Int32) (ysp : Int32) (yjn : Int32) (ymd : Nat → Int32) (ybg : Nat → Int32) (ymm : Int32) (yup : Int64) (yun : Int64) (F : Nat) (p1 : Int32) (sz : Nat) (r : Int32) (u_yup : Int64) (u_yun : Int64) (hm : X3_runOf F ybd yrow yrm yst ypc yup yun p1 = some (r, u_yup, u_yun)) : Met l yX3_runOf wsX3_runOf ({ frames := 2, cells := 0, slots := 0, locals := 55 }) (va_Pc [.ref (md 0), .int p1] (zW (dC, dI) (wM cI cZ md yth ybd yro yrow ymk yrm yst ypc ybu ybn ymg ysp yjn ymd ybg ymm yup yun) [(cI, .int), (cZ, .boolean)] sz)) (zQi (dC, dI) (wM cI cZ md yth ybd yro yrow ymk yrm yst ypc ybu ybn ymg ysp yjn ymd ybg ymm u_yup u_yun) [(cI, .int), (cZ, .boolean)] (va_A (wM cI cZ md yth ybd yro yrow ymk yrm yst ypc ybu ybn ymg ysp yjn ymd ybg ymm yup yun) sz) r) 0 0 (va_A (wM cI cZ md yth ybd yro yrow ymk yrm yst ypc ybu ybn ymg ysp yjn ymd ybg ymm yup yun) sz) := by
  refine Met.ofW (cc := cX3_runOf) (maxL := 2) (ret := (some .int)) (by decide) rfl ?_
  intro p e s m args below meth c s₁ B hml hv
  obtain ⟨rfl, hsz, hP, hK, hD0⟩ := hv
  have hx := B.exec
  have hb := B.bytes
  have hr := B.returns
  have hts := atoms_spec (ws := wsX3_runOf) B.pre
  have hown : s.vm.findClass RX3 = some m.cls := findClass_of_methodNamed B.named
  have hlocks := B.notSynchronized
  subst hsz
  have hD := hD0.self (sz := s.heap.size)
  generalize hAe : va_A (wM cI cZ md yth ybd yro yrow ymk yrm yst ypc ybu ybn ymg ysp yjn ymd ybg ymm yup yun) s.heap.size = A at hD ⊢
  have hA : ∀ q : Nat, s.heap.size ≤ q → A q := fun q h => by rw [← hAe]; exact Or.inr h
  have hS : va_S A s.heap s.heap [] := va_S.rf
  generalize eL : ([] : List Loc) = locs at hS ⊢
  obtain ⟨H, eH⟩ : ∃ z : Heap, z = s.heap := ⟨_, rfl⟩
  have hP : va_P (dC, dI) vwCl (wM cI cZ md yth ybd yro yrow ymk yrm yst ypc ybu ybn ymg ysp yjn ymd ybg ymm yup yun) H := by rw [eH]; exact hP
  have hS : va_S A s.heap H locs := by rw [eH]; exact hS
  refine z_heap eH ?_
  have hl := lv_entry ([.ref (md 0), .int p1]) (n := 2) (Nat.le_of_ble_eq_true rfl)
  rw [lg_entry_eq]
  generalize (lg_sl ([.ref (md 0), .int p1]) ++ List.replicate (2 - (lg_sl ([.ref (md 0), .int p1])).length) Slot.unset).toArray = ls at hl ⊢
  have hl : lv_has ls 2 [(0, .ref (md 0)), (1, .int p1)] := hl
  have zw0 := hts (.fieldLink RX3 45 "LearnedLedgeModel" "leastUnder" "J") (by decide +kernel)
  have ziX3 : ∀ w ∈ u_ws RX3 TX3 18, w ∈ wsX3_runOf := by decide +kernel
  refine lv_aload_n hx hb dX3_runOf_0 rfl (lv_at hl 0 rfl) ?_
  refine lv_iload_n hx hb dX3_runOf_1 rfl (lv_at hl 1 rfl) ?_
  obtain ⟨⟨yup2, yun2⟩, h_2, hm⟩ := ob hm
  refine z_callWv (wc := (wM cI cZ md yth ybd yro yrow ymk yrm yst ypc ybu ybn ymg ysp yjn ymd ybg ymm yup yun)) (w1 := (wM cI cZ md yth ybd yro yrow ymk yrm yst ypc ybu ybn ymg ysp yjn ymd ybg ymm yup2 yun2)) (ws := (wM cI cZ md yth ybd yro yrow ymk yrm yst ypc ybu ybn ymg ysp yjn ymd ybg ymm yup yun)) (ws' := (wM cI cZ md yth ybd yro yrow ymk yrm yst ypc ybu ybn ymg ysp yjn ymd ybg ymm yup2 yun2)) [0, 1, 2, 3, 4, 5, 6] [] 7 (As := [.int p1]) (rest := []) (ci := 3) (q := (RX3, TX3, 18)) ⟨hx, hb, hml, hown, hts⟩ (c_X3_lays l dC dI cI cZ md yth ybd yro yrow ymk yrm yst ypc ybu ybn ymg ysp yjn ymd ybg ymm yup yun F p1 H.size yup2 yun2 h_2) (cwV 1 hts gX3_runOf_X3_lays rfl rfl rfl kv_X3_lays ⟨Nat.le_of_ble_eq_true rfl, Nat.le_of_ble_eq_true rfl⟩) hK hP hD hS hA hP hD rfl rfl (by decide) rfl rfl (by decide) rfl rfl rfl rfl rfl hl.1 rfl (Nat.le_of_ble_eq_true rfl) dX3_runOf_2 ⟨Nat.zero_le _, Nat.zero_le _⟩ (fun H locs hP hD hS => ?_)
  refine lv_aload_n hx hb dX3_runOf_5 rfl (lv_at hl 0 rfl) ?_
  refine va_get (D := (dC, dI)) (ci := 3) (v := .long yun2) (C := RX3) (T := TX3) (N := 18) hx hb hts ziX3 hown hK hP 0 rfl rfl 17 (by decide) zw0 (fun _ h9 => h9) rfl dX3_runOf_6 ?_
  refine lv_l2i hx hb dX3_runOf_9 rfl ?_
  cases o2 hm
  exact W.iret hx hb hr (fun t ht hW => ⟨⟨_, (), rfl, rfl, by rw [ht]; exact hP, va_K.moved hW.alike hK, hD⟩, hS.F ht⟩) hS.2.2 dX3_runOf_10
set_option maxHeartbeats 4000000 in
set_option maxRecDepth 100000 in
theorem c_X3_rise (l : Launch) (dC : Nat → ClassId) (dI : Nat → Nat → Nat) (cI : ClassId) (cZ : ClassId) (md : Nat → Nat) (yth : Int32) (ybd : Int32) (yro : Int32) (yrow : Nat → Int32) (ymk : Nat → Int32) (yrm : Int32) (yst : Nat → Int32) (ypc : Int32) (ybu : Nat → Int32) (ybn : Int32) (ymg : Int32) (ysp : Int32) (yjn : Int32) (ymd : Nat → Int32) (ybg : Nat → Int32) (ymm : Int32) (yup : Int64) (yun : Int64) (F : Nat) (p1 : Int32) (sz : Nat) (r : Int32) (u_yth : Int32) (u_yup : Int64) (u_yun : Int64) (hm : X3_rise F yth ybd yrow yrm yst ypc yup yun p1 = some (r, u_yth, u_yup, u_yun)) : Met l yX3_rise wsX3_rise ({ frames := 3, cells := 0, slots := 0, locals := 76 }) (va_Pc [.ref (md 0), .int p1] (zW (dC, dI) (wM cI cZ md yth ybd yro yrow ymk yrm yst ypc ybu ybn ymg ysp yjn ymd ybg ymm yup yun) [(cI, .int), (cZ, .boolean)] sz)) (zQi (dC, dI) (wM cI cZ md u_yth ybd yro yrow ymk yrm yst ypc ybu ybn ymg ysp yjn ymd ybg ymm u_yup u_yun) [(cI, .int), (cZ, .boolean)] (va_A (wM cI cZ md yth ybd yro yrow ymk yrm yst ypc ybu ybn ymg ysp yjn ymd ybg ymm yup yun) sz) r) 0 0 (va_A (wM cI cZ md yth ybd yro yrow ymk yrm yst ypc ybu ybn ymg ysp yjn ymd ybg ymm yup yun) sz) := by
  refine Met.ofW (cc := cX3_rise) (maxL := 2) (ret := (some .int)) (by decide) rfl ?_
  intro p e s m args below meth c s₁ B hml hv
  obtain ⟨rfl, hsz, hP, hK, hD0⟩ := hv
  have hx := B.exec
  have hb := B.bytes
  have hr := B.returns
  have hts := atoms_spec (ws := wsX3_rise) B.pre
  have hown : s.vm.findClass RX3 = some m.cls := findClass_of_methodNamed B.named
  have hlocks := B.notSynchronized
  subst hsz
  have hD := hD0.self (sz := s.heap.size)
  generalize hAe : va_A (wM cI cZ md yth ybd yro yrow ymk yrm yst ypc ybu ybn ymg ysp yjn ymd ybg ymm yup yun) s.heap.size = A at hD ⊢
  have hA : ∀ q : Nat, s.heap.size ≤ q → A q := fun q h => by rw [← hAe]; exact Or.inr h
  have hS : va_S A s.heap s.heap [] := va_S.rf
  generalize eL : ([] : List Loc) = locs at hS ⊢
  obtain ⟨H, eH⟩ : ∃ z : Heap, z = s.heap := ⟨_, rfl⟩
  have hP : va_P (dC, dI) vwCl (wM cI cZ md yth ybd yro yrow ymk yrm yst ypc ybu ybn ymg ysp yjn ymd ybg ymm yup yun) H := by rw [eH]; exact hP
  have hS : va_S A s.heap H locs := by rw [eH]; exact hS
  refine z_heap eH ?_
  have hl := lv_entry ([.ref (md 0), .int p1]) (n := 2) (Nat.le_of_ble_eq_true rfl)
  rw [lg_entry_eq]
  generalize (lg_sl ([.ref (md 0), .int p1]) ++ List.replicate (2 - (lg_sl ([.ref (md 0), .int p1])).length) Slot.unset).toArray = ls at hl ⊢
  have hl : lv_has ls 2 [(0, .ref (md 0)), (1, .int p1)] := hl
  refine lv_aload_n hx hb dX3_rise_0 rfl (lv_at hl 0 rfl) ?_
  refine lv_iload_n hx hb dX3_rise_1 rfl (lv_at hl 1 rfl) ?_
  obtain ⟨⟨r2, yth2⟩, h_2, hm⟩ := ob hm
  refine z_callWi (wc := (wM cI cZ md yth ybd yro yrow ymk yrm yst ypc ybu ybn ymg ysp yjn ymd ybg ymm yup yun)) (w1 := (wM cI cZ md yth2 ybd yro yrow ymk yrm yst ypc ybu ybn ymg ysp yjn ymd ybg ymm yup yun)) (ws := (wM cI cZ md yth ybd yro yrow ymk yrm yst ypc ybu ybn ymg ysp yjn ymd ybg ymm yup yun)) (ws' := (wM cI cZ md yth2 ybd yro yrow ymk yrm yst ypc ybu ybn ymg ysp yjn ymd ybg ymm yup yun)) [0, 1, 2, 3, 4, 5, 6] [] 7 (As := [.int p1]) (rest := []) (ci := 3) (q := (RX3, TX3, 18)) ⟨hx, hb, hml, hown, hts⟩ (c_X3_asks l dC dI cI cZ md yth ybd yro yrow ymk yrm yst ypc ybu ybn ymg ysp yjn ymd ybg ymm yup yun F p1 H.size r2 yth2 h_2) (cwV 1 hts gX3_rise_X3_asks rfl rfl rfl kv_X3_asks ⟨Nat.le_of_ble_eq_true rfl, Nat.le_of_ble_eq_true rfl⟩) hK hP hD hS hA hP hD rfl rfl (by decide) rfl rfl (by decide) rfl rfl rfl rfl rfl hl.1 rfl (Nat.le_of_ble_eq_true rfl) dX3_rise_2 ⟨Nat.zero_le _, Nat.zero_le _⟩ (fun H locs hP hD hS => ?_)
  refine lv_if_eq (tgt := 16) hx hb dX3_rise_5 (by decide) (fun c_5 => ?_) (fun c_5 => ?_)
  · have hm := it_t hm c_5
    refine lv_iconst (v := 0) hx hb dX3_rise_16 (by decide) ?_
    cases o2 hm
    exact W.iret hx hb hr (fun t ht hW => ⟨⟨_, (), rfl, rfl, by rw [ht]; exact hP, va_K.moved hW.alike hK, hD⟩, hS.F ht⟩) hS.2.2 dX3_rise_17
  · have hm := it_f hm c_5
    refine lv_aload_n hx hb dX3_rise_8 rfl (lv_at hl 0 rfl) ?_
    refine lv_iload_n hx hb dX3_rise_9 rfl (lv_at hl 1 rfl) ?_
    obtain ⟨⟨r10, yup10, yun10⟩, h_10, hm⟩ := ob hm
    refine z_callWi (wc := (wM cI cZ md yth2 ybd yro yrow ymk yrm yst ypc ybu ybn ymg ysp yjn ymd ybg ymm yup yun)) (w1 := (wM cI cZ md yth2 ybd yro yrow ymk yrm yst ypc ybu ybn ymg ysp yjn ymd ybg ymm yup10 yun10)) (ws := (wM cI cZ md yth2 ybd yro yrow ymk yrm yst ypc ybu ybn ymg ysp yjn ymd ybg ymm yup yun)) (ws' := (wM cI cZ md yth2 ybd yro yrow ymk yrm yst ypc ybu ybn ymg ysp yjn ymd ybg ymm yup10 yun10)) [0, 1, 2, 3, 4, 5, 6] [] 7 (As := [.int p1]) (rest := []) (ci := 3) (q := (RX3, TX3, 18)) ⟨hx, hb, hml, hown, hts⟩ (c_X3_riseOf l dC dI cI cZ md yth2 ybd yro yrow ymk yrm yst ypc ybu ybn ymg ysp yjn ymd ybg ymm yup yun F p1 H.size r10 yup10 yun10 h_10) (cwV 1 hts gX3_rise_X3_riseOf rfl rfl rfl kv_X3_riseOf ⟨Nat.le_of_ble_eq_true rfl, Nat.le_of_ble_eq_true rfl⟩) hK hP hD hS hA hP hD rfl rfl (by decide) rfl rfl (by decide) rfl rfl rfl rfl rfl hl.1 rfl (Nat.le_of_ble_eq_true rfl) dX3_rise_10 ⟨Nat.zero_le _, Nat.zero_le _⟩ (fun H locs hP hD hS => ?_)
    refine lv_goto (tgt := 17) hx hb dX3_rise_13 (by decide) ?_
    cases o2 hm
    exact W.iret hx hb hr (fun t ht hW => ⟨⟨_, (), rfl, rfl, by rw [ht]; exact hP, va_K.moved hW.alike hK, hD⟩, hS.F ht⟩) hS.2.2 dX3_rise_17
set_option maxHeartbeats 4000000 in
set_option maxRecDepth 100000 in
theorem c_X3_run (l : Launch) (dC : Nat → ClassId) (dI : Nat → Nat → Nat) (cI : ClassId) (cZ : ClassId) (md : Nat → Nat) (yth : Int32) (ybd : Int32) (yro : Int32) (yrow : Nat → Int32) (ymk : Nat → Int32) (yrm : Int32) (yst : Nat → Int32) (ypc : Int32) (ybu : Nat → Int32) (ybn : Int32) (ymg : Int32) (ysp : Int32) (yjn : Int32) (ymd : Nat → Int32) (ybg : Nat → Int32) (ymm : Int32) (yup : Int64) (yun : Int64) (F : Nat) (p1 : Int32) (sz : Nat) (r : Int32) (u_yth : Int32) (u_yup : Int64) (u_yun : Int64) (hm : X3_run F yth ybd yrow yrm yst ypc yup yun p1 = some (r, u_yth, u_yup, u_yun)) : Met l yX3_run wsX3_run ({ frames := 3, cells := 0, slots := 0, locals := 76 }) (va_Pc [.ref (md 0), .int p1] (zW (dC, dI) (wM cI cZ md yth ybd yro yrow ymk yrm yst ypc ybu ybn ymg ysp yjn ymd ybg ymm yup yun) [(cI, .int), (cZ, .boolean)] sz)) (zQi (dC, dI) (wM cI cZ md u_yth ybd yro yrow ymk yrm yst ypc ybu ybn ymg ysp yjn ymd ybg ymm u_yup u_yun) [(cI, .int), (cZ, .boolean)] (va_A (wM cI cZ md yth ybd yro yrow ymk yrm yst ypc ybu ybn ymg ysp yjn ymd ybg ymm yup yun) sz) r) 0 0 (va_A (wM cI cZ md yth ybd yro yrow ymk yrm yst ypc ybu ybn ymg ysp yjn ymd ybg ymm yup yun) sz) := by
  refine Met.ofW (cc := cX3_run) (maxL := 2) (ret := (some .int)) (by decide) rfl ?_
  intro p e s m args below meth c s₁ B hml hv
  obtain ⟨rfl, hsz, hP, hK, hD0⟩ := hv
  have hx := B.exec
  have hb := B.bytes
  have hr := B.returns
  have hts := atoms_spec (ws := wsX3_run) B.pre
  have hown : s.vm.findClass RX3 = some m.cls := findClass_of_methodNamed B.named
  have hlocks := B.notSynchronized
  subst hsz
  have hD := hD0.self (sz := s.heap.size)
  generalize hAe : va_A (wM cI cZ md yth ybd yro yrow ymk yrm yst ypc ybu ybn ymg ysp yjn ymd ybg ymm yup yun) s.heap.size = A at hD ⊢
  have hA : ∀ q : Nat, s.heap.size ≤ q → A q := fun q h => by rw [← hAe]; exact Or.inr h
  have hS : va_S A s.heap s.heap [] := va_S.rf
  generalize eL : ([] : List Loc) = locs at hS ⊢
  obtain ⟨H, eH⟩ : ∃ z : Heap, z = s.heap := ⟨_, rfl⟩
  have hP : va_P (dC, dI) vwCl (wM cI cZ md yth ybd yro yrow ymk yrm yst ypc ybu ybn ymg ysp yjn ymd ybg ymm yup yun) H := by rw [eH]; exact hP
  have hS : va_S A s.heap H locs := by rw [eH]; exact hS
  refine z_heap eH ?_
  have hl := lv_entry ([.ref (md 0), .int p1]) (n := 2) (Nat.le_of_ble_eq_true rfl)
  rw [lg_entry_eq]
  generalize (lg_sl ([.ref (md 0), .int p1]) ++ List.replicate (2 - (lg_sl ([.ref (md 0), .int p1])).length) Slot.unset).toArray = ls at hl ⊢
  have hl : lv_has ls 2 [(0, .ref (md 0)), (1, .int p1)] := hl
  refine lv_aload_n hx hb dX3_run_0 rfl (lv_at hl 0 rfl) ?_
  refine lv_iload_n hx hb dX3_run_1 rfl (lv_at hl 1 rfl) ?_
  obtain ⟨⟨r2, yth2⟩, h_2, hm⟩ := ob hm
  refine z_callWi (wc := (wM cI cZ md yth ybd yro yrow ymk yrm yst ypc ybu ybn ymg ysp yjn ymd ybg ymm yup yun)) (w1 := (wM cI cZ md yth2 ybd yro yrow ymk yrm yst ypc ybu ybn ymg ysp yjn ymd ybg ymm yup yun)) (ws := (wM cI cZ md yth ybd yro yrow ymk yrm yst ypc ybu ybn ymg ysp yjn ymd ybg ymm yup yun)) (ws' := (wM cI cZ md yth2 ybd yro yrow ymk yrm yst ypc ybu ybn ymg ysp yjn ymd ybg ymm yup yun)) [0, 1, 2, 3, 4, 5, 6] [] 7 (As := [.int p1]) (rest := []) (ci := 3) (q := (RX3, TX3, 18)) ⟨hx, hb, hml, hown, hts⟩ (c_X3_asks l dC dI cI cZ md yth ybd yro yrow ymk yrm yst ypc ybu ybn ymg ysp yjn ymd ybg ymm yup yun F p1 H.size r2 yth2 h_2) (cwV 1 hts gX3_run_X3_asks rfl rfl rfl kv_X3_asks ⟨Nat.le_of_ble_eq_true rfl, Nat.le_of_ble_eq_true rfl⟩) hK hP hD hS hA hP hD rfl rfl (by decide) rfl rfl (by decide) rfl rfl rfl rfl rfl hl.1 rfl (Nat.le_of_ble_eq_true rfl) dX3_run_2 ⟨Nat.zero_le _, Nat.zero_le _⟩ (fun H locs hP hD hS => ?_)
  refine lv_if_eq (tgt := 16) hx hb dX3_run_5 (by decide) (fun c_5 => ?_) (fun c_5 => ?_)
  · have hm := it_t hm c_5
    refine lv_iconst (v := 0) hx hb dX3_run_16 (by decide) ?_
    cases o2 hm
    exact W.iret hx hb hr (fun t ht hW => ⟨⟨_, (), rfl, rfl, by rw [ht]; exact hP, va_K.moved hW.alike hK, hD⟩, hS.F ht⟩) hS.2.2 dX3_run_17
  · have hm := it_f hm c_5
    refine lv_aload_n hx hb dX3_run_8 rfl (lv_at hl 0 rfl) ?_
    refine lv_iload_n hx hb dX3_run_9 rfl (lv_at hl 1 rfl) ?_
    obtain ⟨⟨r10, yup10, yun10⟩, h_10, hm⟩ := ob hm
    refine z_callWi (wc := (wM cI cZ md yth2 ybd yro yrow ymk yrm yst ypc ybu ybn ymg ysp yjn ymd ybg ymm yup yun)) (w1 := (wM cI cZ md yth2 ybd yro yrow ymk yrm yst ypc ybu ybn ymg ysp yjn ymd ybg ymm yup10 yun10)) (ws := (wM cI cZ md yth2 ybd yro yrow ymk yrm yst ypc ybu ybn ymg ysp yjn ymd ybg ymm yup yun)) (ws' := (wM cI cZ md yth2 ybd yro yrow ymk yrm yst ypc ybu ybn ymg ysp yjn ymd ybg ymm yup10 yun10)) [0, 1, 2, 3, 4, 5, 6] [] 7 (As := [.int p1]) (rest := []) (ci := 3) (q := (RX3, TX3, 18)) ⟨hx, hb, hml, hown, hts⟩ (c_X3_runOf l dC dI cI cZ md yth2 ybd yro yrow ymk yrm yst ypc ybu ybn ymg ysp yjn ymd ybg ymm yup yun F p1 H.size r10 yup10 yun10 h_10) (cwV 1 hts gX3_run_X3_runOf rfl rfl rfl kv_X3_runOf ⟨Nat.le_of_ble_eq_true rfl, Nat.le_of_ble_eq_true rfl⟩) hK hP hD hS hA hP hD rfl rfl (by decide) rfl rfl (by decide) rfl rfl rfl rfl rfl hl.1 rfl (Nat.le_of_ble_eq_true rfl) dX3_run_10 ⟨Nat.zero_le _, Nat.zero_le _⟩ (fun H locs hP hD hS => ?_)
    refine lv_goto (tgt := 17) hx hb dX3_run_13 (by decide) ?_
    cases o2 hm
    exact W.iret hx hb hr (fun t ht hW => ⟨⟨_, (), rfl, rfl, by rw [ht]; exact hP, va_K.moved hW.alike hK, hD⟩, hS.F ht⟩) hS.2.2 dX3_run_17
set_option maxHeartbeats 4000000 in
set_option maxRecDepth 100000 in
theorem c_X3_alike (l : Launch) (dC : Nat → ClassId) (dI : Nat → Nat → Nat) (cI : ClassId) (cZ : ClassId) (md : Nat → Nat) (yth : Int32) (ybd : Int32) (yro : Int32) (yrow : Nat → Int32) (ymk : Nat → Int32) (yrm : Int32) (yst : Nat → Int32) (ypc : Int32) (ybu : Nat → Int32) (ybn : Int32) (ymg : Int32) (ysp : Int32) (yjn : Int32) (ymd : Nat → Int32) (ybg : Nat → Int32) (ymm : Int32) (yup : Int64) (yun : Int64) (F : Nat) (p1 : Int32) (p2 : Int32) (sz : Nat) (r : Int32) (u_yup : Int64) (u_yun : Int64) (hm : X3_alike F ybd yrow yrm yst ypc yup yun p1 p2 = some (r, u_yup, u_yun)) : Met l yX3_alike wsX3_alike ({ frames := 3, cells := 0, slots := 0, locals := 76 }) (va_Pc [.ref (md 0), .int p1, .int p2] (zW (dC, dI) (wM cI cZ md yth ybd yro yrow ymk yrm yst ypc ybu ybn ymg ysp yjn ymd ybg ymm yup yun) [(cI, .int), (cZ, .boolean)] sz)) (zQi (dC, dI) (wM cI cZ md yth ybd yro yrow ymk yrm yst ypc ybu ybn ymg ysp yjn ymd ybg ymm u_yup u_yun) [(cI, .int), (cZ, .boolean)] (va_A (wM cI cZ md yth ybd yro yrow ymk yrm yst ypc ybu ybn ymg ysp yjn ymd ybg ymm yup yun) sz) r) 0 0 (va_A (wM cI cZ md yth ybd yro yrow ymk yrm yst ypc ybu ybn ymg ysp yjn ymd ybg ymm yup yun) sz) := by
  refine Met.ofW (cc := cX3_alike) (maxL := 7) (ret := (some .int)) (by decide) rfl ?_
  intro p e s m args below meth c s₁ B hml hv
  obtain ⟨rfl, hsz, hP, hK, hD0⟩ := hv
  have hx := B.exec
  have hb := B.bytes
  have hr := B.returns
  have hts := atoms_spec (ws := wsX3_alike) B.pre
  have hown : s.vm.findClass RX3 = some m.cls := findClass_of_methodNamed B.named
  have hlocks := B.notSynchronized
  subst hsz
  have hD := hD0.self (sz := s.heap.size)
  generalize hAe : va_A (wM cI cZ md yth ybd yro yrow ymk yrm yst ypc ybu ybn ymg ysp yjn ymd ybg ymm yup yun) s.heap.size = A at hD ⊢
  have hA : ∀ q : Nat, s.heap.size ≤ q → A q := fun q h => by rw [← hAe]; exact Or.inr h
  have hS : va_S A s.heap s.heap [] := va_S.rf
  generalize eL : ([] : List Loc) = locs at hS ⊢
  obtain ⟨H, eH⟩ : ∃ z : Heap, z = s.heap := ⟨_, rfl⟩
  have hP : va_P (dC, dI) vwCl (wM cI cZ md yth ybd yro yrow ymk yrm yst ypc ybu ybn ymg ysp yjn ymd ybg ymm yup yun) H := by rw [eH]; exact hP
  have hS : va_S A s.heap H locs := by rw [eH]; exact hS
  refine z_heap eH ?_
  have hl := lv_entry ([.ref (md 0), .int p1, .int p2]) (n := 7) (Nat.le_of_ble_eq_true rfl)
  rw [lg_entry_eq]
  generalize (lg_sl ([.ref (md 0), .int p1, .int p2]) ++ List.replicate (7 - (lg_sl ([.ref (md 0), .int p1, .int p2])).length) Slot.unset).toArray = ls at hl ⊢
  have hl : lv_has ls 7 [(0, .ref (md 0)), (1, .int p1), (2, .int p2)] := hl
  have zw0 := hts (.fieldLink RX3 48 "LearnedLedgeModel" "pieces" "I") (by decide +kernel)
  have ziX3 : ∀ w ∈ u_ws RX3 TX3 18, w ∈ wsX3_alike := by decide +kernel
  refine lv_iconst (v := 0) hx hb dX3_alike_0 (by decide) ?_
  refine lv_istore_n (lv' := [(3, .int 0), (0, .ref (md 0)), (1, .int p1), (2, .int p2)]) hx hb dX3_alike_1 rfl hl (by decide) rfl (fun ls hl => ?_)
  refine lv_aload_n hx hb dX3_alike_2 rfl (lv_at hl 1 rfl) ?_
  refine lv_iload_n hx hb dX3_alike_3 rfl (lv_at hl 2 rfl) ?_
  obtain ⟨⟨r4, yup4, yun4⟩, h_4, hm⟩ := ob hm
  refine z_callWi (wc := (wM cI cZ md yth ybd yro yrow ymk yrm yst ypc ybu ybn ymg ysp yjn ymd ybg ymm yup yun)) (w1 := (wM cI cZ md yth ybd yro yrow ymk yrm yst ypc ybu ybn ymg ysp yjn ymd ybg ymm yup4 yun4)) (ws := (wM cI cZ md yth ybd yro yrow ymk yrm yst ypc ybu ybn ymg ysp yjn ymd ybg ymm yup yun)) (ws' := (wM cI cZ md yth ybd yro yrow ymk yrm yst ypc ybu ybn ymg ysp yjn ymd ybg ymm yup4 yun4)) [0, 1, 2, 3, 4, 5, 6] [] 7 (As := [.int p1]) (rest := []) (ci := 3) (q := (RX3, TX3, 18)) ⟨hx, hb, hml, hown, hts⟩ (c_X3_riseOf l dC dI cI cZ md yth ybd yro yrow ymk yrm yst ypc ybu ybn ymg ysp yjn ymd ybg ymm yup yun F p1 H.size r4 yup4 yun4 h_4) (cwV 1 hts gX3_alike_X3_riseOf rfl rfl rfl kv_X3_riseOf ⟨Nat.le_of_ble_eq_true rfl, Nat.le_of_ble_eq_true rfl⟩) hK hP hD hS hA hP hD rfl rfl (by decide) rfl rfl (by decide) rfl rfl rfl rfl rfl hl.1 rfl (Nat.le_of_ble_eq_true rfl) dX3_alike_4 ⟨Nat.zero_le _, Nat.zero_le _⟩ (fun H locs hP hD hS => ?_)
  refine lv_istore (lv' := [(4, .int r4), (3, .int 0), (0, .ref (md 0)), (1, .int p1), (2, .int p2)]) hx hb dX3_alike_7 hl (by decide) rfl (fun ls hl => ?_)
  refine lv_aload_n hx hb dX3_alike_9 rfl (lv_at hl 2 rfl) ?_
  refine lv_iload_n hx hb dX3_alike_10 rfl (lv_at hl 3 rfl) ?_
  obtain ⟨⟨r11, yup11, yun11⟩, h_11, hm⟩ := ob hm
  refine z_callWi (wc := (wM cI cZ md yth ybd yro yrow ymk yrm yst ypc ybu ybn ymg ysp yjn ymd ybg ymm yup4 yun4)) (w1 := (wM cI cZ md yth ybd yro yrow ymk yrm yst ypc ybu ybn ymg ysp yjn ymd ybg ymm yup11 yun11)) (ws := (wM cI cZ md yth ybd yro yrow ymk yrm yst ypc ybu ybn ymg ysp yjn ymd ybg ymm yup4 yun4)) (ws' := (wM cI cZ md yth ybd yro yrow ymk yrm yst ypc ybu ybn ymg ysp yjn ymd ybg ymm yup11 yun11)) [0, 1, 2, 3, 4, 5, 6] [] 7 (As := [.int p1]) (rest := []) (ci := 3) (q := (RX3, TX3, 18)) ⟨hx, hb, hml, hown, hts⟩ (c_X3_runOf l dC dI cI cZ md yth ybd yro yrow ymk yrm yst ypc ybu ybn ymg ysp yjn ymd ybg ymm yup4 yun4 F p1 H.size r11 yup11 yun11 h_11) (cwV 1 hts gX3_alike_X3_runOf rfl rfl rfl kv_X3_runOf ⟨Nat.le_of_ble_eq_true rfl, Nat.le_of_ble_eq_true rfl⟩) hK hP hD hS hA hP hD rfl rfl (by decide) rfl rfl (by decide) rfl rfl rfl rfl rfl hl.1 rfl (Nat.le_of_ble_eq_true rfl) dX3_alike_11 ⟨Nat.zero_le _, Nat.zero_le _⟩ (fun H locs hP hD hS => ?_)
  refine lv_istore (lv' := [(5, .int r11), (4, .int r4), (3, .int 0), (0, .ref (md 0)), (1, .int p1), (2, .int p2)]) hx hb dX3_alike_14 hl (by decide) rfl (fun ls hl => ?_)
  refine lv_iload_n hx hb dX3_alike_16 rfl (lv_at hl 5 rfl) ?_
  refine lv_istore (lv' := [(6, .int p2), (5, .int r11), (4, .int r4), (3, .int 0), (0, .ref (md 0)), (1, .int p1), (2, .int p2)]) hx hb dX3_alike_17 hl (by decide) rfl (fun ls hl => ?_)
  obtain ⟨z_19, hq_19, hm⟩ := ob hm
  have K_19 : ∀ (x3_4 : Int32), ∀ (yupx19 : Int64), ∀ (yunx19 : Int64), z_19 = (x3_4, yupx19, yunx19) → ∀ (H : Heap) (locs : List Loc), va_P (dC, dI) vwCl (wM cI cZ md yth ybd yro yrow ymk yrm yst ypc ybu ybn ymg ysp yjn ymd ybg ymm yupx19 yunx19) H → va_D A (wM cI cZ md yth ybd yro yrow ymk yrm yst ypc ybu ybn ymg ysp yjn ymd ybg ymm yupx19 yunx19) → va_S A s.heap H locs → ∀ (ls : Array Slot), lv_has ls 7 [(3, .int x3_4)] → W p l e (headSpec wsX3_alike ({ frames := 3, cells := 0, slots := 0, locals := 76 } : Room)).room s m ([.ref (md 0), .int p1, .int p2] : List Value).toArray below meth c H locs 0 0 (MQ below (zQi (dC, dI) (wM cI cZ md yth ybd yro yrow ymk yrm yst ypc ybu ybn ymg ysp yjn ymd ybg ymm u_yup u_yun) [(cI, .int), (cZ, .boolean)] A r) ([.ref (md 0), .int p1, .int p2] : List Value).toArray s 0 0 A) (F0 m 64 ls []) := by
    intro x3_4 yupx19 yunx19 ez H locs hP hD hS ls hl
    rw [ez] at hm
    refine lv_iload_n hx hb dX3_alike_64 rfl (lv_at hl 0 rfl) ?_
    cases o2 hm
    exact W.iret hx hb hr (fun t ht hW => ⟨⟨_, (), rfl, rfl, by rw [ht]; exact hP, va_K.moved hW.alike hK, hD⟩, hS.F ht⟩) hS.2.2 dX3_alike_65
  have L_19 : ∀ (n : Nat) (x6 : Int32) (x3 : Int32) (yupl19 : Int64) (yunl19 : Int64), X3_alike_L19 ybd yrow yrm yst ypc F r4 r11 n x6 x3 yupl19 yunl19 = some z_19 → ∀ (H : Heap) (locs : List Loc), va_P (dC, dI) vwCl (wM cI cZ md yth ybd yro yrow ymk yrm yst ypc ybu ybn ymg ysp yjn ymd ybg ymm yupl19 yunl19) H → va_D A (wM cI cZ md yth ybd yro yrow ymk yrm yst ypc ybu ybn ymg ysp yjn ymd ybg ymm yupl19 yunl19) → va_S A s.heap H locs → ∀ (ls : Array Slot), lv_has ls 7 [(6, .int x6), (5, .int r11), (4, .int r4), (3, .int x3), (0, .ref (md 0))] → W p l e (headSpec wsX3_alike ({ frames := 3, cells := 0, slots := 0, locals := 76 } : Room)).room s m ([.ref (md 0), .int p1, .int p2] : List Value).toArray below meth c H locs 0 0 (MQ below (zQi (dC, dI) (wM cI cZ md yth ybd yro yrow ymk yrm yst ypc ybu ybn ymg ysp yjn ymd ybg ymm u_yup u_yun) [(cI, .int), (cZ, .boolean)] A r) ([.ref (md 0), .int p1, .int p2] : List Value).toArray s 0 0 A) (F0 m 19 ls []) := by
    intro n
    induction n with
    | zero => intro x6 x3 yupl19 yunl19 hm; cases hm
    | succ n ih_19 =>
      intro x6 x3 yupl19 yunl19 hm H locs hP hD hS ls hl
      refine lv_iload hx hb dX3_alike_19 (lv_at hl 0 rfl) ?_
      refine lv_aload_n hx hb dX3_alike_21 rfl (lv_at hl 4 rfl) ?_
      refine va_get (D := (dC, dI)) (ci := 3) (v := .int ypc) (C := RX3) (T := TX3) (N := 18) hx hb hts ziX3 hown hK hP 0 rfl rfl 7 (by decide) zw0 (fun _ h9 => h9) rfl dX3_alike_22 ?_
      refine lv_icmp_ge (tgt := 64) hx hb dX3_alike_25 (by decide) (fun c_25 => ?_) (fun c_25 => ?_)
      · have hm := it_t hm c_25
        exact K_19 x3 yupl19 yunl19 (o2 hm) _ _ hP hD hS _ (lv_sub hl [3] rfl)
      · have hm := it_f hm c_25
        refine lv_iload_n hx hb dX3_alike_28 rfl (lv_at hl 3 rfl) ?_
        refine lv_aload_n hx hb dX3_alike_29 rfl (lv_at hl 4 rfl) ?_
        refine lv_iload hx hb dX3_alike_30 (lv_at hl 0 rfl) ?_
        obtain ⟨⟨r32, yup32, yun32⟩, h_32, hm⟩ := ob hm
        refine z_callWi (wc := (wM cI cZ md yth ybd yro yrow ymk yrm yst ypc ybu ybn ymg ysp yjn ymd ybg ymm yupl19 yunl19)) (w1 := (wM cI cZ md yth ybd yro yrow ymk yrm yst ypc ybu ybn ymg ysp yjn ymd ybg ymm yup32 yun32)) (ws := (wM cI cZ md yth ybd yro yrow ymk yrm yst ypc ybu ybn ymg ysp yjn ymd ybg ymm yupl19 yunl19)) (ws' := (wM cI cZ md yth ybd yro yrow ymk yrm yst ypc ybu ybn ymg ysp yjn ymd ybg ymm yup32 yun32)) [0, 1, 2, 3, 4, 5, 6] [] 7 (As := [.int x6]) (rest := [.int x3]) (ci := 3) (q := (RX3, TX3, 18)) ⟨hx, hb, hml, hown, hts⟩ (c_X3_riseOf l dC dI cI cZ md yth ybd yro yrow ymk yrm yst ypc ybu ybn ymg ysp yjn ymd ybg ymm yupl19 yunl19 F x6 H.size r32 yup32 yun32 h_32) (cwV 1 hts gX3_alike_X3_riseOf rfl rfl rfl kv_X3_riseOf ⟨Nat.le_of_ble_eq_true rfl, Nat.le_of_ble_eq_true rfl⟩) hK hP hD hS hA hP hD rfl rfl (by decide) rfl rfl (by decide) rfl rfl rfl rfl rfl hl.1 rfl (Nat.le_of_ble_eq_true rfl) dX3_alike_32 ⟨Nat.zero_le _, Nat.zero_le _⟩ (fun H locs hP hD hS => ?_)
        refine lv_iload hx hb dX3_alike_35 (lv_at hl 2 rfl) ?_
        refine lv_icmp_ne (tgt := 55) hx hb dX3_alike_37 (by decide) (fun c_37 => ?_) (fun c_37 => ?_)
        · have hm := it_f hm c_37
          refine lv_iconst (v := 0) hx hb dX3_alike_55 (by decide) ?_
          refine lv_iadd hx hb dX3_alike_56 ?_
          refine lv_topi (fun x3_1 e_x3_1 => ?_)
          have hm := bnd_e hm e_x3_1
          refine lv_istore_n (lv' := [(3, .int x3_1), (6, .int x6), (5, .int r11), (4, .int r4), (0, .ref (md 0))]) hx hb dX3_alike_57 rfl hl (by decide) rfl (fun ls hl => ?_)
          obtain ⟨x6_1, e_x6_1⟩ : ∃ y : Int32, y = x6 + 1 := ⟨_, rfl⟩
          have hm := bnd_e hm e_x6_1
          refine lv_iinc (v := x6_1) (lv' := [(6, .int x6_1), (3, .int x3_1), (5, .int r11), (4, .int r4), (0, .ref (md 0))]) hx hb dX3_alike_58 hl (k := 1) rfl (by rw [e_x6_1]; rfl) (by decide) rfl (fun ls hl => ?_)
          refine lv_goto (tgt := 19) hx hb dX3_alike_61 (by decide) ?_
          exact ih_19 x6_1 x3_1 yup32 yun32 hm _ _ hP hD hS _ (lv_sub hl [0, 2, 3, 1, 4] rfl)
        · have hm := it_t hm c_37
          refine lv_aload_n hx hb dX3_alike_40 rfl (lv_at hl 4 rfl) ?_
          refine lv_iload hx hb dX3_alike_41 (lv_at hl 0 rfl) ?_
          obtain ⟨⟨r43, yup43, yun43⟩, h_43, hm⟩ := ob hm
          refine z_callWi (wc := (wM cI cZ md yth ybd yro yrow ymk yrm yst ypc ybu ybn ymg ysp yjn ymd ybg ymm yup32 yun32)) (w1 := (wM cI cZ md yth ybd yro yrow ymk yrm yst ypc ybu ybn ymg ysp yjn ymd ybg ymm yup43 yun43)) (ws := (wM cI cZ md yth ybd yro yrow ymk yrm yst ypc ybu ybn ymg ysp yjn ymd ybg ymm yup32 yun32)) (ws' := (wM cI cZ md yth ybd yro yrow ymk yrm yst ypc ybu ybn ymg ysp yjn ymd ybg ymm yup43 yun43)) [0, 1, 2, 3, 4, 5, 6] [] 7 (As := [.int x6]) (rest := [.int x3]) (ci := 3) (q := (RX3, TX3, 18)) ⟨hx, hb, hml, hown, hts⟩ (c_X3_runOf l dC dI cI cZ md yth ybd yro yrow ymk yrm yst ypc ybu ybn ymg ysp yjn ymd ybg ymm yup32 yun32 F x6 H.size r43 yup43 yun43 h_43) (cwV 1 hts gX3_alike_X3_runOf rfl rfl rfl kv_X3_runOf ⟨Nat.le_of_ble_eq_true rfl, Nat.le_of_ble_eq_true rfl⟩) hK hP hD hS hA hP hD rfl rfl (by decide) rfl rfl (by decide) rfl rfl rfl rfl rfl hl.1 rfl (Nat.le_of_ble_eq_true rfl) dX3_alike_43 ⟨Nat.zero_le _, Nat.zero_le _⟩ (fun H locs hP hD hS => ?_)
          refine lv_iload hx hb dX3_alike_46 (lv_at hl 1 rfl) ?_
          refine lv_icmp_ne (tgt := 55) hx hb dX3_alike_48 (by decide) (fun c_48 => ?_) (fun c_48 => ?_)
          · have hm := it_f hm c_48
            refine lv_iconst (v := 0) hx hb dX3_alike_55 (by decide) ?_
            refine lv_iadd hx hb dX3_alike_56 ?_
            refine lv_topi (fun x3_2 e_x3_2 => ?_)
            have hm := bnd_e hm e_x3_2
            refine lv_istore_n (lv' := [(3, .int x3_2), (6, .int x6), (5, .int r11), (4, .int r4), (0, .ref (md 0))]) hx hb dX3_alike_57 rfl hl (by decide) rfl (fun ls hl => ?_)
            obtain ⟨x6_2, e_x6_2⟩ : ∃ y : Int32, y = x6 + 1 := ⟨_, rfl⟩
            have hm := bnd_e hm e_x6_2
            refine lv_iinc (v := x6_2) (lv' := [(6, .int x6_2), (3, .int x3_2), (5, .int r11), (4, .int r4), (0, .ref (md 0))]) hx hb dX3_alike_58 hl (k := 1) rfl (by rw [e_x6_2]; rfl) (by decide) rfl (fun ls hl => ?_)
            refine lv_goto (tgt := 19) hx hb dX3_alike_61 (by decide) ?_
            exact ih_19 x6_2 x3_2 yup43 yun43 hm _ _ hP hD hS _ (lv_sub hl [0, 2, 3, 1, 4] rfl)
          · have hm := it_t hm c_48
            refine lv_iconst (v := 1) hx hb dX3_alike_51 (by decide) ?_
            refine lv_goto (tgt := 56) hx hb dX3_alike_52 (by decide) ?_
            refine lv_iadd hx hb dX3_alike_56 ?_
            refine lv_topi (fun x3_3 e_x3_3 => ?_)
            have hm := bnd_e hm e_x3_3
            refine lv_istore_n (lv' := [(3, .int x3_3), (6, .int x6), (5, .int r11), (4, .int r4), (0, .ref (md 0))]) hx hb dX3_alike_57 rfl hl (by decide) rfl (fun ls hl => ?_)
            obtain ⟨x6_3, e_x6_3⟩ : ∃ y : Int32, y = x6 + 1 := ⟨_, rfl⟩
            have hm := bnd_e hm e_x6_3
            refine lv_iinc (v := x6_3) (lv' := [(6, .int x6_3), (3, .int x3_3), (5, .int r11), (4, .int r4), (0, .ref (md 0))]) hx hb dX3_alike_58 hl (k := 1) rfl (by rw [e_x6_3]; rfl) (by decide) rfl (fun ls hl => ?_)
            refine lv_goto (tgt := 19) hx hb dX3_alike_61 (by decide) ?_
            exact ih_19 x6_3 x3_3 yup43 yun43 hm _ _ hP hD hS _ (lv_sub hl [0, 2, 3, 1, 4] rfl)
  exact L_19 F p2 0 yup11 yun11 hq_19 _ _ hP hD hS _ (lv_sub hl [0, 1, 2, 3, 4] rfl)
set_option maxHeartbeats 4000000 in
set_option maxRecDepth 100000 in
theorem c_X3_slopes (l : Launch) (dC : Nat → ClassId) (dI : Nat → Nat → Nat) (cI : ClassId) (cZ : ClassId) (md : Nat → Nat) (yth : Int32) (ybd : Int32) (yro : Int32) (yrow : Nat → Int32) (ymk : Nat → Int32) (yrm : Int32) (yst : Nat → Int32) (ypc : Int32) (ybu : Nat → Int32) (ybn : Int32) (ymg : Int32) (ysp : Int32) (yjn : Int32) (ymd : Nat → Int32) (ybg : Nat → Int32) (ymm : Int32) (yup : Int64) (yun : Int64) (F : Nat) (sz : Nat) (r : Int32) (u_yth : Int32) (u_yup : Int64) (u_yun : Int64) (hm : X3_slopes F yth ybd yrow yrm yst ypc yup yun = some (r, u_yth, u_yup, u_yun)) : Met l yX3_slopes wsX3_slopes ({ frames := 4, cells := 0, slots := 0, locals := 102 }) (va_Pc [.ref (md 0)] (zW (dC, dI) (wM cI cZ md yth ybd yro yrow ymk yrm yst ypc ybu ybn ymg ysp yjn ymd ybg ymm yup yun) [(cI, .int), (cZ, .boolean)] sz)) (zQi (dC, dI) (wM cI cZ md u_yth ybd yro yrow ymk yrm yst ypc ybu ybn ymg ysp yjn ymd ybg ymm u_yup u_yun) [(cI, .int), (cZ, .boolean)] (va_A (wM cI cZ md yth ybd yro yrow ymk yrm yst ypc ybu ybn ymg ysp yjn ymd ybg ymm yup yun) sz) r) 0 0 (va_A (wM cI cZ md yth ybd yro yrow ymk yrm yst ypc ybu ybn ymg ysp yjn ymd ybg ymm yup yun) sz) := by
  refine Met.ofW (cc := cX3_slopes) (maxL := 3) (ret := (some .int)) (by decide) rfl ?_
  intro p e s m args below meth c s₁ B hml hv
  obtain ⟨rfl, hsz, hP, hK, hD0⟩ := hv
  have hx := B.exec
  have hb := B.bytes
  have hr := B.returns
  have hts := atoms_spec (ws := wsX3_slopes) B.pre
  have hown : s.vm.findClass RX3 = some m.cls := findClass_of_methodNamed B.named
  have hlocks := B.notSynchronized
  subst hsz
  have hD := hD0.self (sz := s.heap.size)
  generalize hAe : va_A (wM cI cZ md yth ybd yro yrow ymk yrm yst ypc ybu ybn ymg ysp yjn ymd ybg ymm yup yun) s.heap.size = A at hD ⊢
  have hA : ∀ q : Nat, s.heap.size ≤ q → A q := fun q h => by rw [← hAe]; exact Or.inr h
  have hS : va_S A s.heap s.heap [] := va_S.rf
  generalize eL : ([] : List Loc) = locs at hS ⊢
  obtain ⟨H, eH⟩ : ∃ z : Heap, z = s.heap := ⟨_, rfl⟩
  have hP : va_P (dC, dI) vwCl (wM cI cZ md yth ybd yro yrow ymk yrm yst ypc ybu ybn ymg ysp yjn ymd ybg ymm yup yun) H := by rw [eH]; exact hP
  have hS : va_S A s.heap H locs := by rw [eH]; exact hS
  refine z_heap eH ?_
  have hl := lv_entry ([.ref (md 0)]) (n := 3) (Nat.le_of_ble_eq_true rfl)
  rw [lg_entry_eq]
  generalize (lg_sl ([.ref (md 0)]) ++ List.replicate (3 - (lg_sl ([.ref (md 0)])).length) Slot.unset).toArray = ls at hl ⊢
  have hl : lv_has ls 3 [(0, .ref (md 0))] := hl
  have zw0 := hts (.fieldLink RX3 36 "LearnedLedgeModel" "thrown" "I") (by decide +kernel)
  have zw1 := hts (.fieldLink RX3 48 "LearnedLedgeModel" "pieces" "I") (by decide +kernel)
  have ziX3 : ∀ w ∈ u_ws RX3 TX3 18, w ∈ wsX3_slopes := by decide +kernel
  refine lv_aload_n hx hb dX3_slopes_0 rfl (lv_at hl 0 rfl) ?_
  refine lv_iconst (v := 0) hx hb dX3_slopes_1 (by decide) ?_
  refine va_put (D := (dC, dI)) (ci := 3) (v := .int 0) (ty := .int) (C := RX3) (T := TX3) (N := 18) hx hb hts ziX3 tyX3 tyX3_ok nmX3 hown hK hP hD hS 0 rfl rfl 0 (by decide) zw0 (fun _ h9 => h9) rfl (by decide +kernel) rfl rfl (Nat.le_of_ble_eq_true rfl) dX3_slopes_2 (fun H locs hP hD hS => ?_)
  have hP : va_P (dC, dI) vwCl (wM cI cZ md 0 ybd yro yrow ymk yrm yst ypc ybu ybn ymg ysp yjn ymd ybg ymm yup yun) H := hP
  have hD : va_D A (wM cI cZ md 0 ybd yro yrow ymk yrm yst ypc ybu ybn ymg ysp yjn ymd ybg ymm yup yun) := hD
  refine lv_iconst (v := 0) hx hb dX3_slopes_5 (by decide) ?_
  refine lv_istore_n (lv' := [(1, .int 0), (0, .ref (md 0))]) hx hb dX3_slopes_6 rfl hl (by decide) rfl (fun ls hl => ?_)
  refine lv_iconst (v := 0) hx hb dX3_slopes_7 (by decide) ?_
  refine lv_istore_n (lv' := [(2, .int 0), (1, .int 0), (0, .ref (md 0))]) hx hb dX3_slopes_8 rfl hl (by decide) rfl (fun ls hl => ?_)
  obtain ⟨z_9, hq_9, hm⟩ := ob hm
  have K_9 : ∀ (x1_3 : Int32), ∀ (yupx9 : Int64), ∀ (yunx9 : Int64), z_9 = (x1_3, yupx9, yunx9) → ∀ (H : Heap) (locs : List Loc), va_P (dC, dI) vwCl (wM cI cZ md 0 ybd yro yrow ymk yrm yst ypc ybu ybn ymg ysp yjn ymd ybg ymm yupx9 yunx9) H → va_D A (wM cI cZ md 0 ybd yro yrow ymk yrm yst ypc ybu ybn ymg ysp yjn ymd ybg ymm yupx9 yunx9) → va_S A s.heap H locs → ∀ (ls : Array Slot), lv_has ls 3 [(1, .int x1_3)] → W p l e (headSpec wsX3_slopes ({ frames := 4, cells := 0, slots := 0, locals := 102 } : Room)).room s m ([.ref (md 0)] : List Value).toArray below meth c H locs 0 0 (MQ below (zQi (dC, dI) (wM cI cZ md u_yth ybd yro yrow ymk yrm yst ypc ybu ybn ymg ysp yjn ymd ybg ymm u_yup u_yun) [(cI, .int), (cZ, .boolean)] A r) ([.ref (md 0)] : List Value).toArray s 0 0 A) (F0 m 41 ls []) := by
    intro x1_3 yupx9 yunx9 ez H locs hP hD hS ls hl
    rw [ez] at hm
    refine lv_iload_n hx hb dX3_slopes_41 rfl (lv_at hl 0 rfl) ?_
    cases o2 hm
    exact W.iret hx hb hr (fun t ht hW => ⟨⟨_, (), rfl, rfl, by rw [ht]; exact hP, va_K.moved hW.alike hK, hD⟩, hS.F ht⟩) hS.2.2 dX3_slopes_42
  have L_9 : ∀ (n : Nat) (x2 : Int32) (x1 : Int32) (yupl9 : Int64) (yunl9 : Int64), X3_slopes_L9 ybd yrow yrm yst ypc F n x2 x1 yupl9 yunl9 = some z_9 → ∀ (H : Heap) (locs : List Loc), va_P (dC, dI) vwCl (wM cI cZ md 0 ybd yro yrow ymk yrm yst ypc ybu ybn ymg ysp yjn ymd ybg ymm yupl9 yunl9) H → va_D A (wM cI cZ md 0 ybd yro yrow ymk yrm yst ypc ybu ybn ymg ysp yjn ymd ybg ymm yupl9 yunl9) → va_S A s.heap H locs → ∀ (ls : Array Slot), lv_has ls 3 [(2, .int x2), (1, .int x1), (0, .ref (md 0))] → W p l e (headSpec wsX3_slopes ({ frames := 4, cells := 0, slots := 0, locals := 102 } : Room)).room s m ([.ref (md 0)] : List Value).toArray below meth c H locs 0 0 (MQ below (zQi (dC, dI) (wM cI cZ md u_yth ybd yro yrow ymk yrm yst ypc ybu ybn ymg ysp yjn ymd ybg ymm u_yup u_yun) [(cI, .int), (cZ, .boolean)] A r) ([.ref (md 0)] : List Value).toArray s 0 0 A) (F0 m 9 ls []) := by
    intro n
    induction n with
    | zero => intro x2 x1 yupl9 yunl9 hm; cases hm
    | succ n ih_9 =>
      intro x2 x1 yupl9 yunl9 hm H locs hP hD hS ls hl
      refine lv_iload_n hx hb dX3_slopes_9 rfl (lv_at hl 0 rfl) ?_
      refine lv_aload_n hx hb dX3_slopes_10 rfl (lv_at hl 2 rfl) ?_
      refine va_get (D := (dC, dI)) (ci := 3) (v := .int ypc) (C := RX3) (T := TX3) (N := 18) hx hb hts ziX3 hown hK hP 0 rfl rfl 7 (by decide) zw1 (fun _ h9 => h9) rfl dX3_slopes_11 ?_
      refine lv_icmp_ge (tgt := 41) hx hb dX3_slopes_14 (by decide) (fun c_14 => ?_) (fun c_14 => ?_)
      · have hm := it_t hm c_14
        exact K_9 x1 yupl9 yunl9 (o2 hm) _ _ hP hD hS _ (lv_sub hl [1] rfl)
      · have hm := it_f hm c_14
        refine lv_iload_n hx hb dX3_slopes_17 rfl (lv_at hl 1 rfl) ?_
        refine lv_aload_n hx hb dX3_slopes_18 rfl (lv_at hl 2 rfl) ?_
        refine lv_iload_n hx hb dX3_slopes_19 rfl (lv_at hl 0 rfl) ?_
        refine lv_iload_n hx hb dX3_slopes_20 rfl (lv_at hl 0 rfl) ?_
        obtain ⟨⟨r21, yup21, yun21⟩, h_21, hm⟩ := ob hm
        refine z_callWi (wc := (wM cI cZ md 0 ybd yro yrow ymk yrm yst ypc ybu ybn ymg ysp yjn ymd ybg ymm yupl9 yunl9)) (w1 := (wM cI cZ md 0 ybd yro yrow ymk yrm yst ypc ybu ybn ymg ysp yjn ymd ybg ymm yup21 yun21)) (ws := (wM cI cZ md 0 ybd yro yrow ymk yrm yst ypc ybu ybn ymg ysp yjn ymd ybg ymm yupl9 yunl9)) (ws' := (wM cI cZ md 0 ybd yro yrow ymk yrm yst ypc ybu ybn ymg ysp yjn ymd ybg ymm yup21 yun21)) [0, 1, 2, 3, 4, 5, 6] [] 7 (As := [.int x2, .int x2]) (rest := [.int x1]) (ci := 3) (q := (RX3, TX3, 18)) ⟨hx, hb, hml, hown, hts⟩ (c_X3_alike l dC dI cI cZ md 0 ybd yro yrow ymk yrm yst ypc ybu ybn ymg ysp yjn ymd ybg ymm yupl9 yunl9 F x2 x2 H.size r21 yup21 yun21 h_21) (cwV 2 hts gX3_slopes_X3_alike rfl rfl rfl kv_X3_alike ⟨Nat.le_of_ble_eq_true rfl, Nat.le_of_ble_eq_true rfl⟩) hK hP hD hS hA hP hD rfl rfl (by decide) rfl rfl (by decide) rfl rfl rfl rfl rfl hl.1 rfl (Nat.le_of_ble_eq_true rfl) dX3_slopes_21 ⟨Nat.zero_le _, Nat.zero_le _⟩ (fun H locs hP hD hS => ?_)
        refine lv_iconst (v := 1) hx hb dX3_slopes_24 (by decide) ?_
        refine lv_icmp_ne (tgt := 32) hx hb dX3_slopes_25 (by decide) (fun c_25 => ?_) (fun c_25 => ?_)
        · have hm := it_f hm c_25
          refine lv_iconst (v := 0) hx hb dX3_slopes_32 (by decide) ?_
          refine lv_iadd hx hb dX3_slopes_33 ?_
          refine lv_topi (fun x1_1 e_x1_1 => ?_)
          have hm := bnd_e hm e_x1_1
          refine lv_istore_n (lv' := [(1, .int x1_1), (2, .int x2), (0, .ref (md 0))]) hx hb dX3_slopes_34 rfl hl (by decide) rfl (fun ls hl => ?_)
          obtain ⟨x2_1, e_x2_1⟩ : ∃ y : Int32, y = x2 + 1 := ⟨_, rfl⟩
          have hm := bnd_e hm e_x2_1
          refine lv_iinc (v := x2_1) (lv' := [(2, .int x2_1), (1, .int x1_1), (0, .ref (md 0))]) hx hb dX3_slopes_35 hl (k := 1) rfl (by rw [e_x2_1]; rfl) (by decide) rfl (fun ls hl => ?_)
          refine lv_goto (tgt := 9) hx hb dX3_slopes_38 (by decide) ?_
          exact ih_9 x2_1 x1_1 yup21 yun21 hm _ _ hP hD hS _ (lv_sub hl [0, 1, 2] rfl)
        · have hm := it_t hm c_25
          refine lv_iconst (v := 1) hx hb dX3_slopes_28 (by decide) ?_
          refine lv_goto (tgt := 33) hx hb dX3_slopes_29 (by decide) ?_
          refine lv_iadd hx hb dX3_slopes_33 ?_
          refine lv_topi (fun x1_2 e_x1_2 => ?_)
          have hm := bnd_e hm e_x1_2
          refine lv_istore_n (lv' := [(1, .int x1_2), (2, .int x2), (0, .ref (md 0))]) hx hb dX3_slopes_34 rfl hl (by decide) rfl (fun ls hl => ?_)
          obtain ⟨x2_2, e_x2_2⟩ : ∃ y : Int32, y = x2 + 1 := ⟨_, rfl⟩
          have hm := bnd_e hm e_x2_2
          refine lv_iinc (v := x2_2) (lv' := [(2, .int x2_2), (1, .int x1_2), (0, .ref (md 0))]) hx hb dX3_slopes_35 hl (k := 1) rfl (by rw [e_x2_2]; rfl) (by decide) rfl (fun ls hl => ?_)
          refine lv_goto (tgt := 9) hx hb dX3_slopes_38 (by decide) ?_
          exact ih_9 x2_2 x1_2 yup21 yun21 hm _ _ hP hD hS _ (lv_sub hl [0, 1, 2] rfl)
  exact L_9 F 0 0 yup yun hq_9 _ _ hP hD hS _ (lv_sub hl [0, 1, 2] rfl)
set_option maxHeartbeats 4000000 in
set_option maxRecDepth 100000 in
theorem c_X3_commonest (l : Launch) (dC : Nat → ClassId) (dI : Nat → Nat → Nat) (cI : ClassId) (cZ : ClassId) (md : Nat → Nat) (yth : Int32) (ybd : Int32) (yro : Int32) (yrow : Nat → Int32) (ymk : Nat → Int32) (yrm : Int32) (yst : Nat → Int32) (ypc : Int32) (ybu : Nat → Int32) (ybn : Int32) (ymg : Int32) (ysp : Int32) (yjn : Int32) (ymd : Nat → Int32) (ybg : Nat → Int32) (ymm : Int32) (yup : Int64) (yun : Int64) (F : Nat) (sz : Nat) (r : Int32) (u_yth : Int32) (u_yup : Int64) (u_yun : Int64) (hm : X3_commonest F yth ybd yrow yrm yst ypc yup yun = some (r, u_yth, u_yup, u_yun)) : Met l yX3_commonest wsX3_commonest ({ frames := 4, cells := 0, slots := 0, locals := 102 }) (va_Pc [.ref (md 0)] (zW (dC, dI) (wM cI cZ md yth ybd yro yrow ymk yrm yst ypc ybu ybn ymg ysp yjn ymd ybg ymm yup yun) [(cI, .int), (cZ, .boolean)] sz)) (zQi (dC, dI) (wM cI cZ md u_yth ybd yro yrow ymk yrm yst ypc ybu ybn ymg ysp yjn ymd ybg ymm u_yup u_yun) [(cI, .int), (cZ, .boolean)] (va_A (wM cI cZ md yth ybd yro yrow ymk yrm yst ypc ybu ybn ymg ysp yjn ymd ybg ymm yup yun) sz) r) 0 0 (va_A (wM cI cZ md yth ybd yro yrow ymk yrm yst ypc ybu ybn ymg ysp yjn ymd ybg ymm yup yun) sz) := by
  refine Met.ofW (cc := cX3_commonest) (maxL := 5) (ret := (some .int)) (by decide) rfl ?_
  intro p e s m args below meth c s₁ B hml hv
  obtain ⟨rfl, hsz, hP, hK, hD0⟩ := hv
  have hx := B.exec
  have hb := B.bytes
  have hr := B.returns
  have hts := atoms_spec (ws := wsX3_commonest) B.pre
  have hown : s.vm.findClass RX3 = some m.cls := findClass_of_methodNamed B.named
  have hlocks := B.notSynchronized
  subst hsz
  have hD := hD0.self (sz := s.heap.size)
  generalize hAe : va_A (wM cI cZ md yth ybd yro yrow ymk yrm yst ypc ybu ybn ymg ysp yjn ymd ybg ymm yup yun) s.heap.size = A at hD ⊢
  have hA : ∀ q : Nat, s.heap.size ≤ q → A q := fun q h => by rw [← hAe]; exact Or.inr h
  have hS : va_S A s.heap s.heap [] := va_S.rf
  generalize eL : ([] : List Loc) = locs at hS ⊢
  obtain ⟨H, eH⟩ : ∃ z : Heap, z = s.heap := ⟨_, rfl⟩
  have hP : va_P (dC, dI) vwCl (wM cI cZ md yth ybd yro yrow ymk yrm yst ypc ybu ybn ymg ysp yjn ymd ybg ymm yup yun) H := by rw [eH]; exact hP
  have hS : va_S A s.heap H locs := by rw [eH]; exact hS
  refine z_heap eH ?_
  have hl := lv_entry ([.ref (md 0)]) (n := 5) (Nat.le_of_ble_eq_true rfl)
  rw [lg_entry_eq]
  generalize (lg_sl ([.ref (md 0)]) ++ List.replicate (5 - (lg_sl ([.ref (md 0)])).length) Slot.unset).toArray = ls at hl ⊢
  have hl : lv_has ls 5 [(0, .ref (md 0))] := hl
  have zw0 := hts (.fieldLink RX3 36 "LearnedLedgeModel" "thrown" "I") (by decide +kernel)
  have zw1 := hts (.fieldLink RX3 48 "LearnedLedgeModel" "pieces" "I") (by decide +kernel)
  have ziX3 : ∀ w ∈ u_ws RX3 TX3 18, w ∈ wsX3_commonest := by decide +kernel
  refine lv_aload_n hx hb dX3_commonest_0 rfl (lv_at hl 0 rfl) ?_
  refine lv_iconst (v := 0) hx hb dX3_commonest_1 (by decide) ?_
  refine va_put (D := (dC, dI)) (ci := 3) (v := .int 0) (ty := .int) (C := RX3) (T := TX3) (N := 18) hx hb hts ziX3 tyX3 tyX3_ok nmX3 hown hK hP hD hS 0 rfl rfl 0 (by decide) zw0 (fun _ h9 => h9) rfl (by decide +kernel) rfl rfl (Nat.le_of_ble_eq_true rfl) dX3_commonest_2 (fun H locs hP hD hS => ?_)
  have hP : va_P (dC, dI) vwCl (wM cI cZ md 0 ybd yro yrow ymk yrm yst ypc ybu ybn ymg ysp yjn ymd ybg ymm yup yun) H := hP
  have hD : va_D A (wM cI cZ md 0 ybd yro yrow ymk yrm yst ypc ybu ybn ymg ysp yjn ymd ybg ymm yup yun) := hD
  refine lv_iconst (v := (-1)) hx hb dX3_commonest_5 (by decide) ?_
  refine lv_istore_n (lv' := [(1, .int (-1)), (0, .ref (md 0))]) hx hb dX3_commonest_6 rfl hl (by decide) rfl (fun ls hl => ?_)
  refine lv_iconst (v := 0) hx hb dX3_commonest_7 (by decide) ?_
  refine lv_istore_n (lv' := [(2, .int 0), (1, .int (-1)), (0, .ref (md 0))]) hx hb dX3_commonest_8 rfl hl (by decide) rfl (fun ls hl => ?_)
  refine lv_iconst (v := 0) hx hb dX3_commonest_9 (by decide) ?_
  refine lv_istore_n (lv' := [(3, .int 0), (2, .int 0), (1, .int (-1)), (0, .ref (md 0))]) hx hb dX3_commonest_10 rfl hl (by decide) rfl (fun ls hl => ?_)
  obtain ⟨z_11, hq_11, hm⟩ := ob hm
  have K_11 : ∀ (x1_1 : Int32), ∀ (yupx11 : Int64), ∀ (yunx11 : Int64), z_11 = (x1_1, yupx11, yunx11) → ∀ (H : Heap) (locs : List Loc), va_P (dC, dI) vwCl (wM cI cZ md 0 ybd yro yrow ymk yrm yst ypc ybu ybn ymg ysp yjn ymd ybg ymm yupx11 yunx11) H → va_D A (wM cI cZ md 0 ybd yro yrow ymk yrm yst ypc ybu ybn ymg ysp yjn ymd ybg ymm yupx11 yunx11) → va_S A s.heap H locs → ∀ (ls : Array Slot), lv_has ls 5 [(1, .int x1_1)] → W p l e (headSpec wsX3_commonest ({ frames := 4, cells := 0, slots := 0, locals := 102 } : Room)).room s m ([.ref (md 0)] : List Value).toArray below meth c H locs 0 0 (MQ below (zQi (dC, dI) (wM cI cZ md u_yth ybd yro yrow ymk yrm yst ypc ybu ybn ymg ysp yjn ymd ybg ymm u_yup u_yun) [(cI, .int), (cZ, .boolean)] A r) ([.ref (md 0)] : List Value).toArray s 0 0 A) (F0 m 58 ls []) := by
    intro x1_1 yupx11 yunx11 ez H locs hP hD hS ls hl
    rw [ez] at hm
    refine lv_iload_n hx hb dX3_commonest_58 rfl (lv_at hl 0 rfl) ?_
    cases o2 hm
    exact W.iret hx hb hr (fun t ht hW => ⟨⟨_, (), rfl, rfl, by rw [ht]; exact hP, va_K.moved hW.alike hK, hD⟩, hS.F ht⟩) hS.2.2 dX3_commonest_59
  have L_11 : ∀ (n : Nat) (x3 : Int32) (x2 : Int32) (x1 : Int32) (yupl11 : Int64) (yunl11 : Int64), X3_commonest_L11 ybd yrow yrm yst ypc F n x3 x2 x1 yupl11 yunl11 = some z_11 → ∀ (H : Heap) (locs : List Loc), va_P (dC, dI) vwCl (wM cI cZ md 0 ybd yro yrow ymk yrm yst ypc ybu ybn ymg ysp yjn ymd ybg ymm yupl11 yunl11) H → va_D A (wM cI cZ md 0 ybd yro yrow ymk yrm yst ypc ybu ybn ymg ysp yjn ymd ybg ymm yupl11 yunl11) → va_S A s.heap H locs → ∀ (ls : Array Slot), lv_has ls 5 [(3, .int x3), (2, .int x2), (1, .int x1), (0, .ref (md 0))] → W p l e (headSpec wsX3_commonest ({ frames := 4, cells := 0, slots := 0, locals := 102 } : Room)).room s m ([.ref (md 0)] : List Value).toArray below meth c H locs 0 0 (MQ below (zQi (dC, dI) (wM cI cZ md u_yth ybd yro yrow ymk yrm yst ypc ybu ybn ymg ysp yjn ymd ybg ymm u_yup u_yun) [(cI, .int), (cZ, .boolean)] A r) ([.ref (md 0)] : List Value).toArray s 0 0 A) (F0 m 11 ls []) := by
    intro n
    induction n with
    | zero => intro x3 x2 x1 yupl11 yunl11 hm; cases hm
    | succ n ih_11 =>
      intro x3 x2 x1 yupl11 yunl11 hm H locs hP hD hS ls hl
      refine lv_iload_n hx hb dX3_commonest_11 rfl (lv_at hl 0 rfl) ?_
      refine lv_aload_n hx hb dX3_commonest_12 rfl (lv_at hl 3 rfl) ?_
      refine va_get (D := (dC, dI)) (ci := 3) (v := .int ypc) (C := RX3) (T := TX3) (N := 18) hx hb hts ziX3 hown hK hP 0 rfl rfl 7 (by decide) zw1 (fun _ h9 => h9) rfl dX3_commonest_13 ?_
      refine lv_icmp_ge (tgt := 58) hx hb dX3_commonest_16 (by decide) (fun c_16 => ?_) (fun c_16 => ?_)
      · have hm := it_t hm c_16
        exact K_11 x1 yupl11 yunl11 (o2 hm) _ _ hP hD hS _ (lv_sub hl [2] rfl)
      · have hm := it_f hm c_16
        refine lv_aload_n hx hb dX3_commonest_19 rfl (lv_at hl 3 rfl) ?_
        refine lv_iload_n hx hb dX3_commonest_20 rfl (lv_at hl 0 rfl) ?_
        refine lv_iconst (v := 0) hx hb dX3_commonest_21 (by decide) ?_
        obtain ⟨⟨r22, yup22, yun22⟩, h_22, hm⟩ := ob hm
        refine z_callWi (wc := (wM cI cZ md 0 ybd yro yrow ymk yrm yst ypc ybu ybn ymg ysp yjn ymd ybg ymm yupl11 yunl11)) (w1 := (wM cI cZ md 0 ybd yro yrow ymk yrm yst ypc ybu ybn ymg ysp yjn ymd ybg ymm yup22 yun22)) (ws := (wM cI cZ md 0 ybd yro yrow ymk yrm yst ypc ybu ybn ymg ysp yjn ymd ybg ymm yupl11 yunl11)) (ws' := (wM cI cZ md 0 ybd yro yrow ymk yrm yst ypc ybu ybn ymg ysp yjn ymd ybg ymm yup22 yun22)) [0, 1, 2, 3, 4, 5, 6] [] 7 (As := [.int x3, .int 0]) (rest := []) (ci := 3) (q := (RX3, TX3, 18)) ⟨hx, hb, hml, hown, hts⟩ (c_X3_alike l dC dI cI cZ md 0 ybd yro yrow ymk yrm yst ypc ybu ybn ymg ysp yjn ymd ybg ymm yupl11 yunl11 F x3 0 H.size r22 yup22 yun22 h_22) (cwV 2 hts gX3_commonest_X3_alike rfl rfl rfl kv_X3_alike ⟨Nat.le_of_ble_eq_true rfl, Nat.le_of_ble_eq_true rfl⟩) hK hP hD hS hA hP hD rfl rfl (by decide) rfl rfl (by decide) rfl rfl rfl rfl rfl hl.1 rfl (Nat.le_of_ble_eq_true rfl) dX3_commonest_22 ⟨Nat.zero_le _, Nat.zero_le _⟩ (fun H locs hP hD hS => ?_)
        refine lv_istore (lv' := [(4, .int r22), (3, .int x3), (2, .int x2), (1, .int x1), (0, .ref (md 0))]) hx hb dX3_commonest_25 hl (by decide) rfl (fun ls hl => ?_)
        refine lv_iload hx hb dX3_commonest_27 (lv_at hl 0 rfl) ?_
        refine lv_iload_n hx hb dX3_commonest_29 rfl (lv_at hl 2 rfl) ?_
        obtain ⟨y38, e_y38⟩ : ∃ y : Int32, y = (if r22 ≤ x2 then x1 else x3) := ⟨_, rfl⟩
        have hm := bnd_e hm e_y38
        have J_38 : W p l e (headSpec wsX3_commonest ({ frames := 4, cells := 0, slots := 0, locals := 102 } : Room)).room s m ([.ref (md 0)] : List Value).toArray below meth c H locs 0 0 (MQ below (zQi (dC, dI) (wM cI cZ md u_yth ybd yro yrow ymk yrm yst ypc ybu ybn ymg ysp yjn ymd ybg ymm u_yup u_yun) [(cI, .int), (cZ, .boolean)] A r) ([.ref (md 0)] : List Value).toArray s 0 0 A) (F0 m 38 ls [.int y38]) := by
          refine lv_istore_n (lv' := [(1, .int y38), (4, .int r22), (3, .int x3), (2, .int x2), (0, .ref (md 0))]) hx hb dX3_commonest_38 rfl hl (by decide) rfl (fun ls hl => ?_)
          refine lv_iload hx hb dX3_commonest_39 (lv_at hl 1 rfl) ?_
          refine lv_iload_n hx hb dX3_commonest_41 rfl (lv_at hl 3 rfl) ?_
          refine lv_icmp_le (tgt := 50) hx hb dX3_commonest_42 (by decide) (fun c_42 => ?_) (fun c_42 => ?_)
          · have hm := it_t hm c_42
            refine lv_iload_n hx hb dX3_commonest_50 rfl (lv_at hl 3 rfl) ?_
            refine lv_istore_n (lv' := [(2, .int x2), (1, .int y38), (4, .int r22), (3, .int x3), (0, .ref (md 0))]) hx hb dX3_commonest_51 rfl hl (by decide) rfl (fun ls hl => ?_)
            obtain ⟨x3_1, e_x3_1⟩ : ∃ y : Int32, y = x3 + 1 := ⟨_, rfl⟩
            have hm := bnd_e hm e_x3_1
            refine lv_iinc (v := x3_1) (lv' := [(3, .int x3_1), (2, .int x2), (1, .int y38), (4, .int r22), (0, .ref (md 0))]) hx hb dX3_commonest_52 hl (k := 3) rfl (by rw [e_x3_1]; rfl) (by decide) rfl (fun ls hl => ?_)
            refine lv_goto (tgt := 11) hx hb dX3_commonest_55 (by decide) ?_
            exact ih_11 x3_1 x2 y38 yup22 yun22 hm _ _ hP hD hS _ (lv_sub hl [0, 1, 2, 4] rfl)
          · have hm := it_f hm c_42
            refine lv_iload hx hb dX3_commonest_45 (lv_at hl 1 rfl) ?_
            refine lv_goto (tgt := 51) hx hb dX3_commonest_47 (by decide) ?_
            refine lv_istore_n (lv' := [(2, .int r22), (1, .int y38), (4, .int r22), (3, .int x3), (0, .ref (md 0))]) hx hb dX3_commonest_51 rfl hl (by decide) rfl (fun ls hl => ?_)
            obtain ⟨x3_2, e_x3_2⟩ : ∃ y : Int32, y = x3 + 1 := ⟨_, rfl⟩
            have hm := bnd_e hm e_x3_2
            refine lv_iinc (v := x3_2) (lv' := [(3, .int x3_2), (2, .int r22), (1, .int y38), (4, .int r22), (0, .ref (md 0))]) hx hb dX3_commonest_52 hl (k := 3) rfl (by rw [e_x3_2]; rfl) (by decide) rfl (fun ls hl => ?_)
            refine lv_goto (tgt := 11) hx hb dX3_commonest_55 (by decide) ?_
            exact ih_11 x3_2 r22 y38 yup22 yun22 hm _ _ hP hD hS _ (lv_sub hl [0, 1, 2, 4] rfl)
        refine lv_icmp_le (tgt := 37) hx hb dX3_commonest_30 (by decide) (fun c_30 => ?_) (fun c_30 => ?_)
        · refine lv_iload_n hx hb dX3_commonest_37 rfl (lv_at hl 3 rfl) ?_
          have e9 : y38 = x1 := by rw [e_y38, if_pos c_30]
          rw [e9] at J_38
          exact J_38
        · refine lv_iload_n hx hb dX3_commonest_33 rfl (lv_at hl 1 rfl) ?_
          refine lv_goto (tgt := 38) hx hb dX3_commonest_34 (by decide) ?_
          have e9 : y38 = x3 := by rw [e_y38, if_neg c_30]
          rw [e9] at J_38
          exact J_38
  exact L_11 F 0 0 (-1) yup yun hq_11 _ _ hP hD hS _ (lv_sub hl [0, 1, 2, 3] rfl)
set_option maxHeartbeats 4000000 in
set_option maxRecDepth 100000 in
theorem c_X3_buffered (l : Launch) (dC : Nat → ClassId) (dI : Nat → Nat → Nat) (cI : ClassId) (cZ : ClassId) (md : Nat → Nat) (yth : Int32) (ybd : Int32) (yro : Int32) (yrow : Nat → Int32) (ymk : Nat → Int32) (yrm : Int32) (yst : Nat → Int32) (ypc : Int32) (ybu : Nat → Int32) (ybn : Int32) (ymg : Int32) (ysp : Int32) (yjn : Int32) (ymd : Nat → Int32) (ybg : Nat → Int32) (ymm : Int32) (yup : Int64) (yun : Int64) (F : Nat) (sz : Nat) (r : Int32) (u_yth : Int32) (hm : X3_buffered F yth ybn = some (r, u_yth)) : Met l yX3_buffered wsX3_buffered ({ frames := 0, cells := 0, slots := 0, locals := 0 }) (va_Pc [.ref (md 0)] (zW (dC, dI) (wM cI cZ md yth ybd yro yrow ymk yrm yst ypc ybu ybn ymg ysp yjn ymd ybg ymm yup yun) [(cI, .int), (cZ, .boolean)] sz)) (zQi (dC, dI) (wM cI cZ md u_yth ybd yro yrow ymk yrm yst ypc ybu ybn ymg ysp yjn ymd ybg ymm yup yun) [(cI, .int), (cZ, .boolean)] (va_A (wM cI cZ md yth ybd yro yrow ymk yrm yst ypc ybu ybn ymg ysp yjn ymd ybg ymm yup yun) sz) r) 0 0 (va_A (wM cI cZ md yth ybd yro yrow ymk yrm yst ypc ybu ybn ymg ysp yjn ymd ybg ymm yup yun) sz) := by
  refine Met.ofW (cc := cX3_buffered) (maxL := 1) (ret := (some .int)) (by decide) rfl ?_
  intro p e s m args below meth c s₁ B hml hv
  obtain ⟨rfl, hsz, hP, hK, hD0⟩ := hv
  have hx := B.exec
  have hb := B.bytes
  have hr := B.returns
  have hts := atoms_spec (ws := wsX3_buffered) B.pre
  have hown : s.vm.findClass RX3 = some m.cls := findClass_of_methodNamed B.named
  have hlocks := B.notSynchronized
  subst hsz
  have hD := hD0.self (sz := s.heap.size)
  generalize hAe : va_A (wM cI cZ md yth ybd yro yrow ymk yrm yst ypc ybu ybn ymg ysp yjn ymd ybg ymm yup yun) s.heap.size = A at hD ⊢
  have hA : ∀ q : Nat, s.heap.size ≤ q → A q := fun q h => by rw [← hAe]; exact Or.inr h
  have hS : va_S A s.heap s.heap [] := va_S.rf
  generalize eL : ([] : List Loc) = locs at hS ⊢
  obtain ⟨H, eH⟩ : ∃ z : Heap, z = s.heap := ⟨_, rfl⟩
  have hP : va_P (dC, dI) vwCl (wM cI cZ md yth ybd yro yrow ymk yrm yst ypc ybu ybn ymg ysp yjn ymd ybg ymm yup yun) H := by rw [eH]; exact hP
  have hS : va_S A s.heap H locs := by rw [eH]; exact hS
  refine z_heap eH ?_
  have hl := lv_entry ([.ref (md 0)]) (n := 1) (Nat.le_of_ble_eq_true rfl)
  rw [lg_entry_eq]
  generalize (lg_sl ([.ref (md 0)]) ++ List.replicate (1 - (lg_sl ([.ref (md 0)])).length) Slot.unset).toArray = ls at hl ⊢
  have hl : lv_has ls 1 [(0, .ref (md 0))] := hl
  have zw0 := hts (.fieldLink RX3 36 "LearnedLedgeModel" "thrown" "I") (by decide +kernel)
  have zw1 := hts (.fieldLink RX3 69 "LearnedLedgeModel" "buffered" "I") (by decide +kernel)
  have ziX3 : ∀ w ∈ u_ws RX3 TX3 18, w ∈ wsX3_buffered := by decide +kernel
  refine lv_aload_n hx hb dX3_buffered_0 rfl (lv_at hl 0 rfl) ?_
  refine lv_iconst (v := 0) hx hb dX3_buffered_1 (by decide) ?_
  refine va_put (D := (dC, dI)) (ci := 3) (v := .int 0) (ty := .int) (C := RX3) (T := TX3) (N := 18) hx hb hts ziX3 tyX3 tyX3_ok nmX3 hown hK hP hD hS 0 rfl rfl 0 (by decide) zw0 (fun _ h9 => h9) rfl (by decide +kernel) rfl rfl (Nat.le_of_ble_eq_true rfl) dX3_buffered_2 (fun H locs hP hD hS => ?_)
  have hP : va_P (dC, dI) vwCl (wM cI cZ md 0 ybd yro yrow ymk yrm yst ypc ybu ybn ymg ysp yjn ymd ybg ymm yup yun) H := hP
  have hD : va_D A (wM cI cZ md 0 ybd yro yrow ymk yrm yst ypc ybu ybn ymg ysp yjn ymd ybg ymm yup yun) := hD
  refine lv_aload_n hx hb dX3_buffered_5 rfl (lv_at hl 0 rfl) ?_
  refine va_get (D := (dC, dI)) (ci := 3) (v := .int ybn) (C := RX3) (T := TX3) (N := 18) hx hb hts ziX3 hown hK hP 0 rfl rfl 9 (by decide) zw1 (fun _ h9 => h9) rfl dX3_buffered_6 ?_
  cases o2 hm
  exact W.iret hx hb hr (fun t ht hW => ⟨⟨_, (), rfl, rfl, by rw [ht]; exact hP, va_K.moved hW.alike hK, hD⟩, hS.F ht⟩) hS.2.2 dX3_buffered_9
set_option maxHeartbeats 4000000 in
set_option maxRecDepth 100000 in
theorem c_X3_marked (l : Launch) (dC : Nat → ClassId) (dI : Nat → Nat → Nat) (cI : ClassId) (cZ : ClassId) (md : Nat → Nat) (yth : Int32) (ybd : Int32) (yro : Int32) (yrow : Nat → Int32) (ymk : Nat → Int32) (yrm : Int32) (yst : Nat → Int32) (ypc : Int32) (ybu : Nat → Int32) (ybn : Int32) (ymg : Int32) (ysp : Int32) (yjn : Int32) (ymd : Nat → Int32) (ybg : Nat → Int32) (ymm : Int32) (yup : Int64) (yun : Int64) (F : Nat) (sz : Nat) (r : Int32) (u_yth : Int32) (hm : X3_marked F yth ymk yrm = some (r, u_yth)) : Met l yX3_marked wsX3_marked ({ frames := 0, cells := 0, slots := 0, locals := 0 }) (va_Pc [.ref (md 0)] (zW (dC, dI) (wM cI cZ md yth ybd yro yrow ymk yrm yst ypc ybu ybn ymg ysp yjn ymd ybg ymm yup yun) [(cI, .int), (cZ, .boolean)] sz)) (zQi (dC, dI) (wM cI cZ md u_yth ybd yro yrow ymk yrm yst ypc ybu ybn ymg ysp yjn ymd ybg ymm yup yun) [(cI, .int), (cZ, .boolean)] (va_A (wM cI cZ md yth ybd yro yrow ymk yrm yst ypc ybu ybn ymg ysp yjn ymd ybg ymm yup yun) sz) r) 0 0 (va_A (wM cI cZ md yth ybd yro yrow ymk yrm yst ypc ybu ybn ymg ysp yjn ymd ybg ymm yup yun) sz) := by
  refine Met.ofW (cc := cX3_marked) (maxL := 3) (ret := (some .int)) (by decide) rfl ?_
  intro p e s m args below meth c s₁ B hml hv
  obtain ⟨rfl, hsz, hP, hK, hD0⟩ := hv
  have hx := B.exec
  have hb := B.bytes
  have hr := B.returns
  have hts := atoms_spec (ws := wsX3_marked) B.pre
  have hown : s.vm.findClass RX3 = some m.cls := findClass_of_methodNamed B.named
  have hlocks := B.notSynchronized
  subst hsz
  have hD := hD0.self (sz := s.heap.size)
  generalize hAe : va_A (wM cI cZ md yth ybd yro yrow ymk yrm yst ypc ybu ybn ymg ysp yjn ymd ybg ymm yup yun) s.heap.size = A at hD ⊢
  have hA : ∀ q : Nat, s.heap.size ≤ q → A q := fun q h => by rw [← hAe]; exact Or.inr h
  have hS : va_S A s.heap s.heap [] := va_S.rf
  generalize eL : ([] : List Loc) = locs at hS ⊢
  obtain ⟨H, eH⟩ : ∃ z : Heap, z = s.heap := ⟨_, rfl⟩
  have hP : va_P (dC, dI) vwCl (wM cI cZ md yth ybd yro yrow ymk yrm yst ypc ybu ybn ymg ysp yjn ymd ybg ymm yup yun) H := by rw [eH]; exact hP
  have hS : va_S A s.heap H locs := by rw [eH]; exact hS
  refine z_heap eH ?_
  have hl := lv_entry ([.ref (md 0)]) (n := 3) (Nat.le_of_ble_eq_true rfl)
  rw [lg_entry_eq]
  generalize (lg_sl ([.ref (md 0)]) ++ List.replicate (3 - (lg_sl ([.ref (md 0)])).length) Slot.unset).toArray = ls at hl ⊢
  have hl : lv_has ls 3 [(0, .ref (md 0))] := hl
  have zw0 := hts (.fieldLink RX3 36 "LearnedLedgeModel" "thrown" "I") (by decide +kernel)
  have zw1 := hts (.fieldLink RX3 51 "LearnedLedgeModel" "rowMany" "I") (by decide +kernel)
  have zw2 := hts (.fieldLink RX3 20 "LearnedLedgeModel" "isMarked" "[Z") (by decide +kernel)
  have ziX3 : ∀ w ∈ u_ws RX3 TX3 18, w ∈ wsX3_marked := by decide +kernel
  refine lv_aload_n hx hb dX3_marked_0 rfl (lv_at hl 0 rfl) ?_
  refine lv_iconst (v := 0) hx hb dX3_marked_1 (by decide) ?_
  refine va_put (D := (dC, dI)) (ci := 3) (v := .int 0) (ty := .int) (C := RX3) (T := TX3) (N := 18) hx hb hts ziX3 tyX3 tyX3_ok nmX3 hown hK hP hD hS 0 rfl rfl 0 (by decide) zw0 (fun _ h9 => h9) rfl (by decide +kernel) rfl rfl (Nat.le_of_ble_eq_true rfl) dX3_marked_2 (fun H locs hP hD hS => ?_)
  have hP : va_P (dC, dI) vwCl (wM cI cZ md 0 ybd yro yrow ymk yrm yst ypc ybu ybn ymg ysp yjn ymd ybg ymm yup yun) H := hP
  have hD : va_D A (wM cI cZ md 0 ybd yro yrow ymk yrm yst ypc ybu ybn ymg ysp yjn ymd ybg ymm yup yun) := hD
  refine lv_iconst (v := 0) hx hb dX3_marked_5 (by decide) ?_
  refine lv_istore_n (lv' := [(1, .int 0), (0, .ref (md 0))]) hx hb dX3_marked_6 rfl hl (by decide) rfl (fun ls hl => ?_)
  refine lv_iconst (v := 0) hx hb dX3_marked_7 (by decide) ?_
  refine lv_istore_n (lv' := [(2, .int 0), (1, .int 0), (0, .ref (md 0))]) hx hb dX3_marked_8 rfl hl (by decide) rfl (fun ls hl => ?_)
  obtain ⟨z_9, hq_9, hm⟩ := ob hm
  have K_9 : ∀ (x1_3 : Int32), z_9 = x1_3 → ∀ (ls : Array Slot), lv_has ls 3 [(1, .int x1_3)] → W p l e (headSpec wsX3_marked ({ frames := 0, cells := 0, slots := 0, locals := 0 } : Room)).room s m ([.ref (md 0)] : List Value).toArray below meth c H locs 0 0 (MQ below (zQi (dC, dI) (wM cI cZ md u_yth ybd yro yrow ymk yrm yst ypc ybu ybn ymg ysp yjn ymd ybg ymm yup yun) [(cI, .int), (cZ, .boolean)] A r) ([.ref (md 0)] : List Value).toArray s 0 0 A) (F0 m 40 ls []) := by
    intro x1_3 ez ls hl
    rw [ez] at hm
    refine lv_iload_n hx hb dX3_marked_40 rfl (lv_at hl 0 rfl) ?_
    cases o2 hm
    exact W.iret hx hb hr (fun t ht hW => ⟨⟨_, (), rfl, rfl, by rw [ht]; exact hP, va_K.moved hW.alike hK, hD⟩, hS.F ht⟩) hS.2.2 dX3_marked_41
  have L_9 : ∀ (n : Nat) (x2 : Int32) (x1 : Int32), X3_marked_L9 ymk yrm n x2 x1 = some z_9 → ∀ (ls : Array Slot), lv_has ls 3 [(2, .int x2), (1, .int x1), (0, .ref (md 0))] → W p l e (headSpec wsX3_marked ({ frames := 0, cells := 0, slots := 0, locals := 0 } : Room)).room s m ([.ref (md 0)] : List Value).toArray below meth c H locs 0 0 (MQ below (zQi (dC, dI) (wM cI cZ md u_yth ybd yro yrow ymk yrm yst ypc ybu ybn ymg ysp yjn ymd ybg ymm yup yun) [(cI, .int), (cZ, .boolean)] A r) ([.ref (md 0)] : List Value).toArray s 0 0 A) (F0 m 9 ls []) := by
    intro n
    induction n with
    | zero => intro x2 x1 hm; cases hm
    | succ n ih_9 =>
      intro x2 x1 hm ls hl
      refine lv_iload_n hx hb dX3_marked_9 rfl (lv_at hl 0 rfl) ?_
      refine lv_aload_n hx hb dX3_marked_10 rfl (lv_at hl 2 rfl) ?_
      refine va_get (D := (dC, dI)) (ci := 3) (v := .int yrm) (C := RX3) (T := TX3) (N := 18) hx hb hts ziX3 hown hK hP 0 rfl rfl 5 (by decide) zw1 (fun _ h9 => h9) rfl dX3_marked_11 ?_
      refine lv_icmp_ge (tgt := 40) hx hb dX3_marked_14 (by decide) (fun c_14 => ?_) (fun c_14 => ?_)
      · have hm := it_t hm c_14
        exact K_9 x1 (o2 hm) _ (lv_sub hl [1] rfl)
      · have hm := it_f hm c_14
        refine lv_iload_n hx hb dX3_marked_17 rfl (lv_at hl 1 rfl) ?_
        refine lv_aload_n hx hb dX3_marked_18 rfl (lv_at hl 2 rfl) ?_
        refine va_get (D := (dC, dI)) (ci := 3) (v := .ref (md 2)) (C := RX3) (T := TX3) (N := 18) hx hb hts ziX3 hown hK hP 0 rfl rfl 4 (by decide) zw2 (fun _ h9 => h9) rfl dX3_marked_19 ?_
        refine lv_iload_n hx hb dX3_marked_22 rfl (lv_at hl 0 rfl) ?_
        obtain ⟨c_23, hm⟩ := ck hm
        refine va_zald hx hb hK hP 2 1 rfl rfl c_23 dX3_marked_23 ?_
        refine lv_if_eq (tgt := 31) hx hb dX3_marked_24 (by decide) (fun c_24 => ?_) (fun c_24 => ?_)
        · have hm := it_t hm c_24
          refine lv_iconst (v := 0) hx hb dX3_marked_31 (by decide) ?_
          refine lv_iadd hx hb dX3_marked_32 ?_
          refine lv_topi (fun x1_1 e_x1_1 => ?_)
          have hm := bnd_e hm e_x1_1
          refine lv_istore_n (lv' := [(1, .int x1_1), (2, .int x2), (0, .ref (md 0))]) hx hb dX3_marked_33 rfl hl (by decide) rfl (fun ls hl => ?_)
          obtain ⟨x2_1, e_x2_1⟩ : ∃ y : Int32, y = x2 + 1 := ⟨_, rfl⟩
          have hm := bnd_e hm e_x2_1
          refine lv_iinc (v := x2_1) (lv' := [(2, .int x2_1), (1, .int x1_1), (0, .ref (md 0))]) hx hb dX3_marked_34 hl (k := 1) rfl (by rw [e_x2_1]; rfl) (by decide) rfl (fun ls hl => ?_)
          refine lv_goto (tgt := 9) hx hb dX3_marked_37 (by decide) ?_
          exact ih_9 x2_1 x1_1 hm _ (lv_sub hl [0, 1, 2] rfl)
        · have hm := it_f hm c_24
          refine lv_iconst (v := 1) hx hb dX3_marked_27 (by decide) ?_
          refine lv_goto (tgt := 32) hx hb dX3_marked_28 (by decide) ?_
          refine lv_iadd hx hb dX3_marked_32 ?_
          refine lv_topi (fun x1_2 e_x1_2 => ?_)
          have hm := bnd_e hm e_x1_2
          refine lv_istore_n (lv' := [(1, .int x1_2), (2, .int x2), (0, .ref (md 0))]) hx hb dX3_marked_33 rfl hl (by decide) rfl (fun ls hl => ?_)
          obtain ⟨x2_2, e_x2_2⟩ : ∃ y : Int32, y = x2 + 1 := ⟨_, rfl⟩
          have hm := bnd_e hm e_x2_2
          refine lv_iinc (v := x2_2) (lv' := [(2, .int x2_2), (1, .int x1_2), (0, .ref (md 0))]) hx hb dX3_marked_34 hl (k := 1) rfl (by rw [e_x2_2]; rfl) (by decide) rfl (fun ls hl => ?_)
          refine lv_goto (tgt := 9) hx hb dX3_marked_37 (by decide) ?_
          exact ih_9 x2_2 x1_2 hm _ (lv_sub hl [0, 1, 2] rfl)
  exact L_9 F 0 0 hq_9 _ (lv_sub hl [0, 1, 2] rfl)
set_option maxHeartbeats 4000000 in
set_option maxRecDepth 100000 in
theorem c_X3_rowSize (l : Launch) (dC : Nat → ClassId) (dI : Nat → Nat → Nat) (cI : ClassId) (cZ : ClassId) (md : Nat → Nat) (yth : Int32) (ybd : Int32) (yro : Int32) (yrow : Nat → Int32) (ymk : Nat → Int32) (yrm : Int32) (yst : Nat → Int32) (ypc : Int32) (ybu : Nat → Int32) (ybn : Int32) (ymg : Int32) (ysp : Int32) (yjn : Int32) (ymd : Nat → Int32) (ybg : Nat → Int32) (ymm : Int32) (yup : Int64) (yun : Int64) (F : Nat) (sz : Nat) (r : Int32) (u_yth : Int32) (hm : X3_rowSize F yth yrm = some (r, u_yth)) : Met l yX3_rowSize wsX3_rowSize ({ frames := 0, cells := 0, slots := 0, locals := 0 }) (va_Pc [.ref (md 0)] (zW (dC, dI) (wM cI cZ md yth ybd yro yrow ymk yrm yst ypc ybu ybn ymg ysp yjn ymd ybg ymm yup yun) [(cI, .int), (cZ, .boolean)] sz)) (zQi (dC, dI) (wM cI cZ md u_yth ybd yro yrow ymk yrm yst ypc ybu ybn ymg ysp yjn ymd ybg ymm yup yun) [(cI, .int), (cZ, .boolean)] (va_A (wM cI cZ md yth ybd yro yrow ymk yrm yst ypc ybu ybn ymg ysp yjn ymd ybg ymm yup yun) sz) r) 0 0 (va_A (wM cI cZ md yth ybd yro yrow ymk yrm yst ypc ybu ybn ymg ysp yjn ymd ybg ymm yup yun) sz) := by
  refine Met.ofW (cc := cX3_rowSize) (maxL := 1) (ret := (some .int)) (by decide) rfl ?_
  intro p e s m args below meth c s₁ B hml hv
  obtain ⟨rfl, hsz, hP, hK, hD0⟩ := hv
  have hx := B.exec
  have hb := B.bytes
  have hr := B.returns
  have hts := atoms_spec (ws := wsX3_rowSize) B.pre
  have hown : s.vm.findClass RX3 = some m.cls := findClass_of_methodNamed B.named
  have hlocks := B.notSynchronized
  subst hsz
  have hD := hD0.self (sz := s.heap.size)
  generalize hAe : va_A (wM cI cZ md yth ybd yro yrow ymk yrm yst ypc ybu ybn ymg ysp yjn ymd ybg ymm yup yun) s.heap.size = A at hD ⊢
  have hA : ∀ q : Nat, s.heap.size ≤ q → A q := fun q h => by rw [← hAe]; exact Or.inr h
  have hS : va_S A s.heap s.heap [] := va_S.rf
  generalize eL : ([] : List Loc) = locs at hS ⊢
  obtain ⟨H, eH⟩ : ∃ z : Heap, z = s.heap := ⟨_, rfl⟩
  have hP : va_P (dC, dI) vwCl (wM cI cZ md yth ybd yro yrow ymk yrm yst ypc ybu ybn ymg ysp yjn ymd ybg ymm yup yun) H := by rw [eH]; exact hP
  have hS : va_S A s.heap H locs := by rw [eH]; exact hS
  refine z_heap eH ?_
  have hl := lv_entry ([.ref (md 0)]) (n := 1) (Nat.le_of_ble_eq_true rfl)
  rw [lg_entry_eq]
  generalize (lg_sl ([.ref (md 0)]) ++ List.replicate (1 - (lg_sl ([.ref (md 0)])).length) Slot.unset).toArray = ls at hl ⊢
  have hl : lv_has ls 1 [(0, .ref (md 0))] := hl
  have zw0 := hts (.fieldLink RX3 36 "LearnedLedgeModel" "thrown" "I") (by decide +kernel)
  have zw1 := hts (.fieldLink RX3 51 "LearnedLedgeModel" "rowMany" "I") (by decide +kernel)
  have ziX3 : ∀ w ∈ u_ws RX3 TX3 18, w ∈ wsX3_rowSize := by decide +kernel
  refine lv_aload_n hx hb dX3_rowSize_0 rfl (lv_at hl 0 rfl) ?_
  refine lv_iconst (v := 0) hx hb dX3_rowSize_1 (by decide) ?_
  refine va_put (D := (dC, dI)) (ci := 3) (v := .int 0) (ty := .int) (C := RX3) (T := TX3) (N := 18) hx hb hts ziX3 tyX3 tyX3_ok nmX3 hown hK hP hD hS 0 rfl rfl 0 (by decide) zw0 (fun _ h9 => h9) rfl (by decide +kernel) rfl rfl (Nat.le_of_ble_eq_true rfl) dX3_rowSize_2 (fun H locs hP hD hS => ?_)
  have hP : va_P (dC, dI) vwCl (wM cI cZ md 0 ybd yro yrow ymk yrm yst ypc ybu ybn ymg ysp yjn ymd ybg ymm yup yun) H := hP
  have hD : va_D A (wM cI cZ md 0 ybd yro yrow ymk yrm yst ypc ybu ybn ymg ysp yjn ymd ybg ymm yup yun) := hD
  refine lv_aload_n hx hb dX3_rowSize_5 rfl (lv_at hl 0 rfl) ?_
  refine va_get (D := (dC, dI)) (ci := 3) (v := .int yrm) (C := RX3) (T := TX3) (N := 18) hx hb hts ziX3 hown hK hP 0 rfl rfl 5 (by decide) zw1 (fun _ h9 => h9) rfl dX3_rowSize_6 ?_
  cases o2 hm
  exact W.iret hx hb hr (fun t ht hW => ⟨⟨_, (), rfl, rfl, by rw [ht]; exact hP, va_K.moved hW.alike hK, hD⟩, hS.F ht⟩) hS.2.2 dX3_rowSize_9
set_option maxHeartbeats 4000000 in
set_option maxRecDepth 100000 in
theorem c_X3_merges (l : Launch) (dC : Nat → ClassId) (dI : Nat → Nat → Nat) (cI : ClassId) (cZ : ClassId) (md : Nat → Nat) (yth : Int32) (ybd : Int32) (yro : Int32) (yrow : Nat → Int32) (ymk : Nat → Int32) (yrm : Int32) (yst : Nat → Int32) (ypc : Int32) (ybu : Nat → Int32) (ybn : Int32) (ymg : Int32) (ysp : Int32) (yjn : Int32) (ymd : Nat → Int32) (ybg : Nat → Int32) (ymm : Int32) (yup : Int64) (yun : Int64) (F : Nat) (sz : Nat) (r : Int32) (u_yth : Int32) (hm : X3_merges F yth ymg = some (r, u_yth)) : Met l yX3_merges wsX3_merges ({ frames := 0, cells := 0, slots := 0, locals := 0 }) (va_Pc [.ref (md 0)] (zW (dC, dI) (wM cI cZ md yth ybd yro yrow ymk yrm yst ypc ybu ybn ymg ysp yjn ymd ybg ymm yup yun) [(cI, .int), (cZ, .boolean)] sz)) (zQi (dC, dI) (wM cI cZ md u_yth ybd yro yrow ymk yrm yst ypc ybu ybn ymg ysp yjn ymd ybg ymm yup yun) [(cI, .int), (cZ, .boolean)] (va_A (wM cI cZ md yth ybd yro yrow ymk yrm yst ypc ybu ybn ymg ysp yjn ymd ybg ymm yup yun) sz) r) 0 0 (va_A (wM cI cZ md yth ybd yro yrow ymk yrm yst ypc ybu ybn ymg ysp yjn ymd ybg ymm yup yun) sz) := by
  refine Met.ofW (cc := cX3_merges) (maxL := 1) (ret := (some .int)) (by decide) rfl ?_
  intro p e s m args below meth c s₁ B hml hv
  obtain ⟨rfl, hsz, hP, hK, hD0⟩ := hv
  have hx := B.exec
  have hb := B.bytes
  have hr := B.returns
  have hts := atoms_spec (ws := wsX3_merges) B.pre
  have hown : s.vm.findClass RX3 = some m.cls := findClass_of_methodNamed B.named
  have hlocks := B.notSynchronized
  subst hsz
  have hD := hD0.self (sz := s.heap.size)
  generalize hAe : va_A (wM cI cZ md yth ybd yro yrow ymk yrm yst ypc ybu ybn ymg ysp yjn ymd ybg ymm yup yun) s.heap.size = A at hD ⊢
  have hA : ∀ q : Nat, s.heap.size ≤ q → A q := fun q h => by rw [← hAe]; exact Or.inr h
  have hS : va_S A s.heap s.heap [] := va_S.rf
  generalize eL : ([] : List Loc) = locs at hS ⊢
  obtain ⟨H, eH⟩ : ∃ z : Heap, z = s.heap := ⟨_, rfl⟩
  have hP : va_P (dC, dI) vwCl (wM cI cZ md yth ybd yro yrow ymk yrm yst ypc ybu ybn ymg ysp yjn ymd ybg ymm yup yun) H := by rw [eH]; exact hP
  have hS : va_S A s.heap H locs := by rw [eH]; exact hS
  refine z_heap eH ?_
  have hl := lv_entry ([.ref (md 0)]) (n := 1) (Nat.le_of_ble_eq_true rfl)
  rw [lg_entry_eq]
  generalize (lg_sl ([.ref (md 0)]) ++ List.replicate (1 - (lg_sl ([.ref (md 0)])).length) Slot.unset).toArray = ls at hl ⊢
  have hl : lv_has ls 1 [(0, .ref (md 0))] := hl
  have zw0 := hts (.fieldLink RX3 36 "LearnedLedgeModel" "thrown" "I") (by decide +kernel)
  have zw1 := hts (.fieldLink RX3 130 "LearnedLedgeModel" "merges" "I") (by decide +kernel)
  have ziX3 : ∀ w ∈ u_ws RX3 TX3 18, w ∈ wsX3_merges := by decide +kernel
  refine lv_aload_n hx hb dX3_merges_0 rfl (lv_at hl 0 rfl) ?_
  refine lv_iconst (v := 0) hx hb dX3_merges_1 (by decide) ?_
  refine va_put (D := (dC, dI)) (ci := 3) (v := .int 0) (ty := .int) (C := RX3) (T := TX3) (N := 18) hx hb hts ziX3 tyX3 tyX3_ok nmX3 hown hK hP hD hS 0 rfl rfl 0 (by decide) zw0 (fun _ h9 => h9) rfl (by decide +kernel) rfl rfl (Nat.le_of_ble_eq_true rfl) dX3_merges_2 (fun H locs hP hD hS => ?_)
  have hP : va_P (dC, dI) vwCl (wM cI cZ md 0 ybd yro yrow ymk yrm yst ypc ybu ybn ymg ysp yjn ymd ybg ymm yup yun) H := hP
  have hD : va_D A (wM cI cZ md 0 ybd yro yrow ymk yrm yst ypc ybu ybn ymg ysp yjn ymd ybg ymm yup yun) := hD
  refine lv_aload_n hx hb dX3_merges_5 rfl (lv_at hl 0 rfl) ?_
  refine va_get (D := (dC, dI)) (ci := 3) (v := .int ymg) (C := RX3) (T := TX3) (N := 18) hx hb hts ziX3 hown hK hP 0 rfl rfl 10 (by decide) zw1 (fun _ h9 => h9) rfl dX3_merges_6 ?_
  cases o2 hm
  exact W.iret hx hb hr (fun t ht hW => ⟨⟨_, (), rfl, rfl, by rw [ht]; exact hP, va_K.moved hW.alike hK, hD⟩, hS.F ht⟩) hS.2.2 dX3_merges_9
set_option maxHeartbeats 4000000 in
set_option maxRecDepth 100000 in
theorem c_X3_splits (l : Launch) (dC : Nat → ClassId) (dI : Nat → Nat → Nat) (cI : ClassId) (cZ : ClassId) (md : Nat → Nat) (yth : Int32) (ybd : Int32) (yro : Int32) (yrow : Nat → Int32) (ymk : Nat → Int32) (yrm : Int32) (yst : Nat → Int32) (ypc : Int32) (ybu : Nat → Int32) (ybn : Int32) (ymg : Int32) (ysp : Int32) (yjn : Int32) (ymd : Nat → Int32) (ybg : Nat → Int32) (ymm : Int32) (yup : Int64) (yun : Int64) (F : Nat) (sz : Nat) (r : Int32) (u_yth : Int32) (hm : X3_splits F yth ysp = some (r, u_yth)) : Met l yX3_splits wsX3_splits ({ frames := 0, cells := 0, slots := 0, locals := 0 }) (va_Pc [.ref (md 0)] (zW (dC, dI) (wM cI cZ md yth ybd yro yrow ymk yrm yst ypc ybu ybn ymg ysp yjn ymd ybg ymm yup yun) [(cI, .int), (cZ, .boolean)] sz)) (zQi (dC, dI) (wM cI cZ md u_yth ybd yro yrow ymk yrm yst ypc ybu ybn ymg ysp yjn ymd ybg ymm yup yun) [(cI, .int), (cZ, .boolean)] (va_A (wM cI cZ md yth ybd yro yrow ymk yrm yst ypc ybu ybn ymg ysp yjn ymd ybg ymm yup yun) sz) r) 0 0 (va_A (wM cI cZ md yth ybd yro yrow ymk yrm yst ypc ybu ybn ymg ysp yjn ymd ybg ymm yup yun) sz) := by
  refine Met.ofW (cc := cX3_splits) (maxL := 1) (ret := (some .int)) (by decide) rfl ?_
  intro p e s m args below meth c s₁ B hml hv
  obtain ⟨rfl, hsz, hP, hK, hD0⟩ := hv
  have hx := B.exec
  have hb := B.bytes
  have hr := B.returns
  have hts := atoms_spec (ws := wsX3_splits) B.pre
  have hown : s.vm.findClass RX3 = some m.cls := findClass_of_methodNamed B.named
  have hlocks := B.notSynchronized
  subst hsz
  have hD := hD0.self (sz := s.heap.size)
  generalize hAe : va_A (wM cI cZ md yth ybd yro yrow ymk yrm yst ypc ybu ybn ymg ysp yjn ymd ybg ymm yup yun) s.heap.size = A at hD ⊢
  have hA : ∀ q : Nat, s.heap.size ≤ q → A q := fun q h => by rw [← hAe]; exact Or.inr h
  have hS : va_S A s.heap s.heap [] := va_S.rf
  generalize eL : ([] : List Loc) = locs at hS ⊢
  obtain ⟨H, eH⟩ : ∃ z : Heap, z = s.heap := ⟨_, rfl⟩
  have hP : va_P (dC, dI) vwCl (wM cI cZ md yth ybd yro yrow ymk yrm yst ypc ybu ybn ymg ysp yjn ymd ybg ymm yup yun) H := by rw [eH]; exact hP
  have hS : va_S A s.heap H locs := by rw [eH]; exact hS
  refine z_heap eH ?_
  have hl := lv_entry ([.ref (md 0)]) (n := 1) (Nat.le_of_ble_eq_true rfl)
  rw [lg_entry_eq]
  generalize (lg_sl ([.ref (md 0)]) ++ List.replicate (1 - (lg_sl ([.ref (md 0)])).length) Slot.unset).toArray = ls at hl ⊢
  have hl : lv_has ls 1 [(0, .ref (md 0))] := hl
  have zw0 := hts (.fieldLink RX3 36 "LearnedLedgeModel" "thrown" "I") (by decide +kernel)
  have zw1 := hts (.fieldLink RX3 121 "LearnedLedgeModel" "splits" "I") (by decide +kernel)
  have ziX3 : ∀ w ∈ u_ws RX3 TX3 18, w ∈ wsX3_splits := by decide +kernel
  refine lv_aload_n hx hb dX3_splits_0 rfl (lv_at hl 0 rfl) ?_
  refine lv_iconst (v := 0) hx hb dX3_splits_1 (by decide) ?_
  refine va_put (D := (dC, dI)) (ci := 3) (v := .int 0) (ty := .int) (C := RX3) (T := TX3) (N := 18) hx hb hts ziX3 tyX3 tyX3_ok nmX3 hown hK hP hD hS 0 rfl rfl 0 (by decide) zw0 (fun _ h9 => h9) rfl (by decide +kernel) rfl rfl (Nat.le_of_ble_eq_true rfl) dX3_splits_2 (fun H locs hP hD hS => ?_)
  have hP : va_P (dC, dI) vwCl (wM cI cZ md 0 ybd yro yrow ymk yrm yst ypc ybu ybn ymg ysp yjn ymd ybg ymm yup yun) H := hP
  have hD : va_D A (wM cI cZ md 0 ybd yro yrow ymk yrm yst ypc ybu ybn ymg ysp yjn ymd ybg ymm yup yun) := hD
  refine lv_aload_n hx hb dX3_splits_5 rfl (lv_at hl 0 rfl) ?_
  refine va_get (D := (dC, dI)) (ci := 3) (v := .int ysp) (C := RX3) (T := TX3) (N := 18) hx hb hts ziX3 hown hK hP 0 rfl rfl 11 (by decide) zw1 (fun _ h9 => h9) rfl dX3_splits_6 ?_
  cases o2 hm
  exact W.iret hx hb hr (fun t ht hW => ⟨⟨_, (), rfl, rfl, by rw [ht]; exact hP, va_K.moved hW.alike hK, hD⟩, hS.F ht⟩) hS.2.2 dX3_splits_9
set_option maxHeartbeats 4000000 in
set_option maxRecDepth 100000 in
theorem c_X3_joins (l : Launch) (dC : Nat → ClassId) (dI : Nat → Nat → Nat) (cI : ClassId) (cZ : ClassId) (md : Nat → Nat) (yth : Int32) (ybd : Int32) (yro : Int32) (yrow : Nat → Int32) (ymk : Nat → Int32) (yrm : Int32) (yst : Nat → Int32) (ypc : Int32) (ybu : Nat → Int32) (ybn : Int32) (ymg : Int32) (ysp : Int32) (yjn : Int32) (ymd : Nat → Int32) (ybg : Nat → Int32) (ymm : Int32) (yup : Int64) (yun : Int64) (F : Nat) (sz : Nat) (r : Int32) (u_yth : Int32) (hm : X3_joins F yth yjn = some (r, u_yth)) : Met l yX3_joins wsX3_joins ({ frames := 0, cells := 0, slots := 0, locals := 0 }) (va_Pc [.ref (md 0)] (zW (dC, dI) (wM cI cZ md yth ybd yro yrow ymk yrm yst ypc ybu ybn ymg ysp yjn ymd ybg ymm yup yun) [(cI, .int), (cZ, .boolean)] sz)) (zQi (dC, dI) (wM cI cZ md u_yth ybd yro yrow ymk yrm yst ypc ybu ybn ymg ysp yjn ymd ybg ymm yup yun) [(cI, .int), (cZ, .boolean)] (va_A (wM cI cZ md yth ybd yro yrow ymk yrm yst ypc ybu ybn ymg ysp yjn ymd ybg ymm yup yun) sz) r) 0 0 (va_A (wM cI cZ md yth ybd yro yrow ymk yrm yst ypc ybu ybn ymg ysp yjn ymd ybg ymm yup yun) sz) := by
  refine Met.ofW (cc := cX3_joins) (maxL := 1) (ret := (some .int)) (by decide) rfl ?_
  intro p e s m args below meth c s₁ B hml hv
  obtain ⟨rfl, hsz, hP, hK, hD0⟩ := hv
  have hx := B.exec
  have hb := B.bytes
  have hr := B.returns
  have hts := atoms_spec (ws := wsX3_joins) B.pre
  have hown : s.vm.findClass RX3 = some m.cls := findClass_of_methodNamed B.named
  have hlocks := B.notSynchronized
  subst hsz
  have hD := hD0.self (sz := s.heap.size)
  generalize hAe : va_A (wM cI cZ md yth ybd yro yrow ymk yrm yst ypc ybu ybn ymg ysp yjn ymd ybg ymm yup yun) s.heap.size = A at hD ⊢
  have hA : ∀ q : Nat, s.heap.size ≤ q → A q := fun q h => by rw [← hAe]; exact Or.inr h
  have hS : va_S A s.heap s.heap [] := va_S.rf
  generalize eL : ([] : List Loc) = locs at hS ⊢
  obtain ⟨H, eH⟩ : ∃ z : Heap, z = s.heap := ⟨_, rfl⟩
  have hP : va_P (dC, dI) vwCl (wM cI cZ md yth ybd yro yrow ymk yrm yst ypc ybu ybn ymg ysp yjn ymd ybg ymm yup yun) H := by rw [eH]; exact hP
  have hS : va_S A s.heap H locs := by rw [eH]; exact hS
  refine z_heap eH ?_
  have hl := lv_entry ([.ref (md 0)]) (n := 1) (Nat.le_of_ble_eq_true rfl)
  rw [lg_entry_eq]
  generalize (lg_sl ([.ref (md 0)]) ++ List.replicate (1 - (lg_sl ([.ref (md 0)])).length) Slot.unset).toArray = ls at hl ⊢
  have hl : lv_has ls 1 [(0, .ref (md 0))] := hl
  have zw0 := hts (.fieldLink RX3 36 "LearnedLedgeModel" "thrown" "I") (by decide +kernel)
  have zw1 := hts (.fieldLink RX3 111 "LearnedLedgeModel" "joins" "I") (by decide +kernel)
  have ziX3 : ∀ w ∈ u_ws RX3 TX3 18, w ∈ wsX3_joins := by decide +kernel
  refine lv_aload_n hx hb dX3_joins_0 rfl (lv_at hl 0 rfl) ?_
  refine lv_iconst (v := 0) hx hb dX3_joins_1 (by decide) ?_
  refine va_put (D := (dC, dI)) (ci := 3) (v := .int 0) (ty := .int) (C := RX3) (T := TX3) (N := 18) hx hb hts ziX3 tyX3 tyX3_ok nmX3 hown hK hP hD hS 0 rfl rfl 0 (by decide) zw0 (fun _ h9 => h9) rfl (by decide +kernel) rfl rfl (Nat.le_of_ble_eq_true rfl) dX3_joins_2 (fun H locs hP hD hS => ?_)
  have hP : va_P (dC, dI) vwCl (wM cI cZ md 0 ybd yro yrow ymk yrm yst ypc ybu ybn ymg ysp yjn ymd ybg ymm yup yun) H := hP
  have hD : va_D A (wM cI cZ md 0 ybd yro yrow ymk yrm yst ypc ybu ybn ymg ysp yjn ymd ybg ymm yup yun) := hD
  refine lv_aload_n hx hb dX3_joins_5 rfl (lv_at hl 0 rfl) ?_
  refine va_get (D := (dC, dI)) (ci := 3) (v := .int yjn) (C := RX3) (T := TX3) (N := 18) hx hb hts ziX3 hown hK hP 0 rfl rfl 12 (by decide) zw1 (fun _ h9 => h9) rfl dX3_joins_6 ?_
  cases o2 hm
  exact W.iret hx hb hr (fun t ht hW => ⟨⟨_, (), rfl, rfl, by rw [ht]; exact hP, va_K.moved hW.alike hK, hD⟩, hS.F ht⟩) hS.2.2 dX3_joins_9
