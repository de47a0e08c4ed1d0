set_option maxHeartbeats 4000000 in
set_option maxRecDepth 100000 in
theorem c_X3_becomes (l : Launch) (dC : Nat → ClassId) (dI : Nat → Nat → Nat) (cI : ClassId) (cZ : ClassId) (md : Nat → Nat) (yth : Int32) (ybd : Int32) (yro : Int32) (yrow : Nat → Int32) (ymk : Nat → Int32) (yrm : Int32) (yst : Nat → Int32) (ypc : Int32) (ybu : Nat → Int32) (ybn : Int32) (ymg : Int32) (ysp : Int32) (yjn : Int32) (ymd : Nat → Int32) (ybg : Nat → Int32) (ymm : Int32) (yup : Int64) (yun : Int64) (F : Nat) (p1 : Int32) (sz : Nat) (u_yrow : Nat → Int32) (u_ymk : Nat → Int32) (u_yrm : Int32) (u_yst : Nat → Int32) (u_ypc : Int32) (u_ybn : Int32) (hm : X3_becomes F yrow ymk yrm yst ypc ybn ymd ybg ymm p1 = some (u_yrow, u_ymk, u_yrm, u_yst, u_ypc, u_ybn)) : Met l yX3_becomes wsX3_becomes ({ frames := 0, cells := 0, slots := 0, locals := 0 }) (va_Pc [.ref (md 0), .int p1] (zW (dC, dI) (wM cI cZ md yth ybd yro yrow ymk yrm yst ypc ybu ybn ymg ysp yjn ymd ybg ymm yup yun) [(cI, .int), (cZ, .boolean)] sz)) (zQv (dC, dI) (wM cI cZ md yth ybd yro u_yrow u_ymk u_yrm u_yst u_ypc ybu u_ybn ymg ysp yjn ymd ybg ymm yup yun) [(cI, .int), (cZ, .boolean)] (va_A (wM cI cZ md yth ybd yro yrow ymk yrm yst ypc ybu ybn ymg ysp yjn ymd ybg ymm yup yun) sz)) 0 0 (va_A (wM cI cZ md yth ybd yro yrow ymk yrm yst ypc ybu ybn ymg ysp yjn ymd ybg ymm yup yun) sz) := by
  refine Met.ofW (cc := cX3_becomes) (maxL := 3) (ret := none) (by decide) rfl ?_
  intro p e s m args below meth c s₁ B hml hv
  obtain ⟨rfl, hsz, hP, hK, hD0⟩ := hv
  have hx := B.exec
  have hb := B.bytes
  have hr := B.returns
  have hts := atoms_spec (ws := wsX3_becomes) B.pre
  have hown : s.vm.findClass RX3 = some m.cls := findClass_of_methodNamed B.named
  have hlocks := B.notSynchronized
  subst hsz
  have hD := hD0.self (sz := s.heap.size)
  generalize hAe : va_A (wM cI cZ md yth ybd yro yrow ymk yrm yst ypc ybu ybn ymg ysp yjn ymd ybg ymm yup yun) s.heap.size = A at hD ⊢
  have hA : ∀ q : Nat, s.heap.size ≤ q → A q := fun q h => by rw [← hAe]; exact Or.inr h
  have hS : va_S A s.heap s.heap [] := va_S.rf
  generalize eL : ([] : List Loc) = locs at hS ⊢
  obtain ⟨H, eH⟩ : ∃ z : Heap, z = s.heap := ⟨_, rfl⟩
  have hP : va_P (dC, dI) vwCl (wM cI cZ md yth ybd yro yrow ymk yrm yst ypc ybu ybn ymg ysp yjn ymd ybg ymm yup yun) H := by rw [eH]; exact hP
  have hS : va_S A s.heap H locs := by rw [eH]; exact hS
  refine z_heap eH ?_
  have hl := lv_entry ([.ref (md 0), .int p1]) (n := 3) (Nat.le_of_ble_eq_true rfl)
  rw [lg_entry_eq]
  generalize (lg_sl ([.ref (md 0), .int p1]) ++ List.replicate (3 - (lg_sl ([.ref (md 0), .int p1])).length) Slot.unset).toArray = ls at hl ⊢
  have hl : lv_has ls 3 [(0, .ref (md 0)), (1, .int p1)] := hl
  have zw0 := hts (.fieldLink RX3 102 "LearnedLedgeModel" "madeMany" "I") (List.mem_cons_of_mem _ (List.mem_append_left _ (List.mem_of_getElem? (i := 0) rfl)))
  have zw1 := hts (.fieldLink RX3 51 "LearnedLedgeModel" "rowMany" "I") (List.mem_cons_of_mem _ (List.mem_append_left _ (List.mem_of_getElem? (i := 1) rfl)))
  have zw2 := hts (.fieldLink RX3 48 "LearnedLedgeModel" "pieces" "I") (List.mem_cons_of_mem _ (List.mem_append_left _ (List.mem_of_getElem? (i := 2) rfl)))
  have zw3 := hts (.fieldLink RX3 69 "LearnedLedgeModel" "buffered" "I") (List.mem_cons_of_mem _ (List.mem_append_left _ (List.mem_of_getElem? (i := 3) rfl)))
  have zw4 := hts (.fieldLink RX3 16 "LearnedLedgeModel" "row" "[I") (List.mem_cons_of_mem _ (List.mem_append_left _ (List.mem_of_getElem? (i := 4) rfl)))
  have zw5 := hts (.fieldLink RX3 30 "LearnedLedgeModel" "made" "[I") (List.mem_cons_of_mem _ (List.mem_append_left _ (List.mem_of_getElem? (i := 5) rfl)))
  have zw6 := hts (.fieldLink RX3 20 "LearnedLedgeModel" "isMarked" "[Z") (List.mem_cons_of_mem _ (List.mem_append_left _ (List.mem_of_getElem? (i := 6) rfl)))
  have zw7 := hts (.fieldLink RX3 24 "LearnedLedgeModel" "start" "[I") (List.mem_cons_of_mem _ (List.mem_append_left _ (List.mem_of_getElem? (i := 7) rfl)))
  have zw8 := hts (.fieldLink RX3 33 "LearnedLedgeModel" "begun" "[I") (List.mem_cons_of_mem _ (List.mem_append_left _ (List.mem_of_getElem? (i := 8) rfl)))
  have ziX3 : ∀ w ∈ u_ws RX3 TX3 18, w ∈ wsX3_becomes := (fun _ h9 => (List.mem_cons_of_mem _ (List.mem_append_right _ h9)))
  refine lv_aload_n hx hb dX3_becomes_0 rfl (lv_at hl 0 rfl) ?_
  refine lv_aload_n hx hb dX3_becomes_1 rfl (lv_at hl 0 rfl) ?_
  refine va_get (D := (dC, dI)) (ci := 3) (v := .int ymm) (C := RX3) (T := TX3) (N := 18) hx hb hts ziX3 hown hK hP 0 rfl rfl 15 (by decide) zw0 (fun _ h9 => h9) rfl dX3_becomes_2 ?_
  refine va_put (D := (dC, dI)) (ci := 3) (v := .int ymm) (ty := .int) (C := RX3) (T := TX3) (N := 18) hx hb hts ziX3 tyX3 tyX3_ok nmX3 hown hK hP hD hS 0 rfl rfl 5 (by decide) zw1 (fun _ h9 => h9) rfl (by decide +kernel) rfl rfl (Nat.le_of_ble_eq_true rfl) dX3_becomes_5 (fun H locs hP hD hS => ?_)
  have hP : va_P (dC, dI) vwCl (wM cI cZ md yth ybd yro yrow ymk ymm yst ypc ybu ybn ymg ysp yjn ymd ybg ymm yup yun) H := hP
  have hD : va_D A (wM cI cZ md yth ybd yro yrow ymk ymm yst ypc ybu ybn ymg ysp yjn ymd ybg ymm yup yun) := hD
  refine lv_aload_n hx hb dX3_becomes_8 rfl (lv_at hl 0 rfl) ?_
  refine lv_iload_n hx hb dX3_becomes_9 rfl (lv_at hl 1 rfl) ?_
  refine va_put (D := (dC, dI)) (ci := 3) (v := .int p1) (ty := .int) (C := RX3) (T := TX3) (N := 18) hx hb hts ziX3 tyX3 tyX3_ok nmX3 hown hK hP hD hS 0 rfl rfl 7 (by decide) zw2 (fun _ h9 => h9) rfl (by decide +kernel) rfl rfl (Nat.le_of_ble_eq_true rfl) dX3_becomes_10 (fun H locs hP hD hS => ?_)
  have hP : va_P (dC, dI) vwCl (wM cI cZ md yth ybd yro yrow ymk ymm yst p1 ybu ybn ymg ysp yjn ymd ybg ymm yup yun) H := hP
  have hD : va_D A (wM cI cZ md yth ybd yro yrow ymk ymm yst p1 ybu ybn ymg ysp yjn ymd ybg ymm yup yun) := hD
  refine lv_aload_n hx hb dX3_becomes_13 rfl (lv_at hl 0 rfl) ?_
  refine lv_iconst (v := 0) hx hb dX3_becomes_14 (by decide) ?_
  refine va_put (D := (dC, dI)) (ci := 3) (v := .int 0) (ty := .int) (C := RX3) (T := TX3) (N := 18) hx hb hts ziX3 tyX3 tyX3_ok nmX3 hown hK hP hD hS 0 rfl rfl 9 (by decide) zw3 (fun _ h9 => h9) rfl (by decide +kernel) rfl rfl (Nat.le_of_ble_eq_true rfl) dX3_becomes_15 (fun H locs hP hD hS => ?_)
  have hP : va_P (dC, dI) vwCl (wM cI cZ md yth ybd yro yrow ymk ymm yst p1 ybu 0 ymg ysp yjn ymd ybg ymm yup yun) H := hP
  have hD : va_D A (wM cI cZ md yth ybd yro yrow ymk ymm yst p1 ybu 0 ymg ysp yjn ymd ybg ymm yup yun) := hD
  refine lv_iconst (v := 0) hx hb dX3_becomes_18 (by decide) ?_
  refine lv_istore_n (lv' := [(2, .int 0), (0, .ref (md 0)), (1, .int p1)]) hx hb dX3_becomes_19 rfl hl (by decide) rfl (fun ls hl => ?_)
  obtain ⟨z_20, hq_20, hm⟩ := ob hm
  have K_20 : ∀ (yrowx20 : Nat → Int32), ∀ (ymkx20 : Nat → Int32), z_20 = (yrowx20, ymkx20) → ∀ (H : Heap) (locs : List Loc), va_P (dC, dI) vwCl (wM cI cZ md yth ybd yro yrowx20 ymkx20 ymm yst p1 ybu 0 ymg ysp yjn ymd ybg ymm yup yun) H → va_D A (wM cI cZ md yth ybd yro yrowx20 ymkx20 ymm yst p1 ybu 0 ymg ysp yjn ymd ybg ymm yup yun) → va_S A s.heap H locs → ∀ (ls : Array Slot), lv_has ls 3 [(0, .ref (md 0))] → W p l e (headSpec wsX3_becomes ({ frames := 0, cells := 0, slots := 0, locals := 0 } : Room)).room s m ([.ref (md 0), .int p1] : List Value).toArray below meth c H locs 0 0 (MQ below (zQv (dC, dI) (wM cI cZ md yth ybd yro u_yrow u_ymk u_yrm u_yst u_ypc ybu u_ybn ymg ysp yjn ymd ybg ymm yup yun) [(cI, .int), (cZ, .boolean)] A) ([.ref (md 0), .int p1] : List Value).toArray s 0 0 A) (F0 m 53 ls []) := by
    intro yrowx20 ymkx20 ez H locs hP hD hS ls hl
    rw [ez] at hm
    refine lv_iconst (v := 0) hx hb dX3_becomes_53 (by decide) ?_
    refine lv_istore_n (lv' := [(2, .int 0), (0, .ref (md 0))]) hx hb dX3_becomes_54 rfl hl (by decide) rfl (fun ls hl => ?_)
    obtain ⟨z_55, hq_55, hm⟩ := ob hm
    have K_55 : ∀ (ystx55 : Nat → Int32), z_55 = ystx55 → ∀ (H : Heap) (locs : List Loc), va_P (dC, dI) vwCl (wM cI cZ md yth ybd yro yrowx20 ymkx20 ymm ystx55 p1 ybu 0 ymg ysp yjn ymd ybg ymm yup yun) H → va_D A (wM cI cZ md yth ybd yro yrowx20 ymkx20 ymm ystx55 p1 ybu 0 ymg ysp yjn ymd ybg ymm yup yun) → va_S A s.heap H locs → ∀ (ls : Array Slot), lv_has ls 3 [] → W p l e (headSpec wsX3_becomes ({ frames := 0, cells := 0, slots := 0, locals := 0 } : Room)).room s m ([.ref (md 0), .int p1] : List Value).toArray below meth c H locs 0 0 (MQ below (zQv (dC, dI) (wM cI cZ md yth ybd yro u_yrow u_ymk u_yrm u_yst u_ypc ybu u_ybn ymg ysp yjn ymd ybg ymm yup yun) [(cI, .int), (cZ, .boolean)] A) ([.ref (md 0), .int p1] : List Value).toArray s 0 0 A) (F0 m 81 ls []) := by
      intro ystx55 ez H locs hP hD hS ls hl
      rw [ez] at hm
      cases o2 hm
      exact W.vret hx hb hr (fun t ht hW => ⟨⟨(), rfl, trivial, by rw [ht]; exact hP, va_K.moved hW.alike hK, hD⟩, hS.F ht⟩) hS.2.2 dX3_becomes_81
    have L_55 : ∀ (n : Nat) (x2_2 : Int32) (ystl55 : Nat → Int32), X3_becomes_L55 p1 ybg n x2_2 ystl55 = some z_55 → ∀ (H : Heap) (locs : List Loc), va_P (dC, dI) vwCl (wM cI cZ md yth ybd yro yrowx20 ymkx20 ymm ystl55 p1 ybu 0 ymg ysp yjn ymd ybg ymm yup yun) H → va_D A (wM cI cZ md yth ybd yro yrowx20 ymkx20 ymm ystl55 p1 ybu 0 ymg ysp yjn ymd ybg ymm yup yun) → va_S A s.heap H locs → ∀ (ls : Array Slot), lv_has ls 3 [(2, .int x2_2), (0, .ref (md 0))] → W p l e (headSpec wsX3_becomes ({ frames := 0, cells := 0, slots := 0, locals := 0 } : Room)).room s m ([.ref (md 0), .int p1] : List Value).toArray below meth c H locs 0 0 (MQ below (zQv (dC, dI) (wM cI cZ md yth ybd yro u_yrow u_ymk u_yrm u_yst u_ypc ybu u_ybn ymg ysp yjn ymd ybg ymm yup yun) [(cI, .int), (cZ, .boolean)] A) ([.ref (md 0), .int p1] : List Value).toArray s 0 0 A) (F0 m 55 ls []) := by
      intro n
      induction n with
      | zero => intro x2_2 ystl55 hm; cases hm
      | succ n ih_55 =>
        intro x2_2 ystl55 hm H locs hP hD hS ls hl
        refine lv_iload_n hx hb dX3_becomes_55 rfl (lv_at hl 0 rfl) ?_
        refine lv_aload_n hx hb dX3_becomes_56 rfl (lv_at hl 1 rfl) ?_
        refine va_get (D := (dC, dI)) (ci := 3) (v := .int p1) (C := RX3) (T := TX3) (N := 18) hx hb hts ziX3 hown hK hP 0 rfl rfl 7 (by decide) zw2 (fun _ h9 => h9) rfl dX3_becomes_57 ?_
        refine lv_icmp_ge (tgt := 81) hx hb dX3_becomes_60 (by decide) (fun c_60 => ?_) (fun c_60 => ?_)
        · have hm := it_t hm c_60
          exact K_55 ystl55 (o2 hm) _ _ hP hD hS _ (lv_sub hl [] rfl)
        · have hm := it_f hm c_60
          refine lv_aload_n hx hb dX3_becomes_63 rfl (lv_at hl 1 rfl) ?_
          refine va_get (D := (dC, dI)) (ci := 3) (v := .ref (md 3)) (C := RX3) (T := TX3) (N := 18) hx hb hts ziX3 hown hK hP 0 rfl rfl 6 (by decide) zw7 (fun _ h9 => h9) rfl dX3_becomes_64 ?_
          refine lv_iload_n hx hb dX3_becomes_67 rfl (lv_at hl 0 rfl) ?_
          refine lv_aload_n hx hb dX3_becomes_68 rfl (lv_at hl 1 rfl) ?_
          refine va_get (D := (dC, dI)) (ci := 3) (v := .ref (md 6)) (C := RX3) (T := TX3) (N := 18) hx hb hts ziX3 hown hK hP 0 rfl rfl 14 (by decide) zw8 (fun _ h9 => h9) rfl dX3_becomes_69 ?_
          refine lv_iload_n hx hb dX3_becomes_72 rfl (lv_at hl 0 rfl) ?_
          obtain ⟨c_73, hm⟩ := ck hm
          refine va_iald hx hb hK hP 6 0 rfl rfl c_73 dX3_becomes_73 ?_
          obtain ⟨c_74, hm⟩ := ck hm
          refine va_iast hx hb hK hP hD hS 3 0 rfl rfl c_74 dX3_becomes_74 (fun H locs hP hD hS => ?_)
          have hP : va_P (dC, dI) vwCl (wM cI cZ md yth ybd yro yrowx20 ymkx20 ymm (upd ystl55 (Int32.toNatClampNeg x2_2) (ybg (Int32.toNatClampNeg x2_2))) p1 ybu 0 ymg ysp yjn ymd ybg ymm yup yun) H := hP
          have hD : va_D A (wM cI cZ md yth ybd yro yrowx20 ymkx20 ymm (upd ystl55 (Int32.toNatClampNeg x2_2) (ybg (Int32.toNatClampNeg x2_2))) p1 ybu 0 ymg ysp yjn ymd ybg ymm yup yun) := hD
          obtain ⟨x2_3, e_x2_3⟩ : ∃ y : Int32, y = x2_2 + 1 := ⟨_, rfl⟩
          have hm := bnd_e hm e_x2_3
          refine lv_iinc (v := x2_3) (lv' := [(2, .int x2_3), (0, .ref (md 0))]) hx hb dX3_becomes_75 hl (k := 0) rfl (by rw [e_x2_3]; rfl) (by decide) rfl (fun ls hl => ?_)
          refine lv_goto (tgt := 55) hx hb dX3_becomes_78 (by decide) ?_
          exact ih_55 x2_3 (upd ystl55 (Int32.toNatClampNeg x2_2) (ybg (Int32.toNatClampNeg x2_2))) hm _ _ hP hD hS _ (lv_sub hl [0, 1] rfl)
    exact L_55 F 0 yst hq_55 _ _ hP hD hS _ (lv_sub hl [0, 1] rfl)
  have L_20 : ∀ (n : Nat) (x2 : Int32) (yrowl20 : Nat → Int32) (ymkl20 : Nat → Int32), X3_becomes_L20 ymd ymm n x2 yrowl20 ymkl20 = some z_20 → ∀ (H : Heap) (locs : List Loc), va_P (dC, dI) vwCl (wM cI cZ md yth ybd yro yrowl20 ymkl20 ymm yst p1 ybu 0 ymg ysp yjn ymd ybg ymm yup yun) H → va_D A (wM cI cZ md yth ybd yro yrowl20 ymkl20 ymm yst p1 ybu 0 ymg ysp yjn ymd ybg ymm yup yun) → va_S A s.heap H locs → ∀ (ls : Array Slot), lv_has ls 3 [(2, .int x2), (0, .ref (md 0))] → W p l e (headSpec wsX3_becomes ({ frames := 0, cells := 0, slots := 0, locals := 0 } : Room)).room s m ([.ref (md 0), .int p1] : List Value).toArray below meth c H locs 0 0 (MQ below (zQv (dC, dI) (wM cI cZ md yth ybd yro u_yrow u_ymk u_yrm u_yst u_ypc ybu u_ybn ymg ysp yjn ymd ybg ymm yup yun) [(cI, .int), (cZ, .boolean)] A) ([.ref (md 0), .int p1] : List Value).toArray s 0 0 A) (F0 m 20 ls []) := by
    intro n
    induction n with
    | zero => intro x2 yrowl20 ymkl20 hm; cases hm
    | succ n ih_20 =>
      intro x2 yrowl20 ymkl20 hm H locs hP hD hS ls hl
      refine lv_iload_n hx hb dX3_becomes_20 rfl (lv_at hl 0 rfl) ?_
      refine lv_aload_n hx hb dX3_becomes_21 rfl (lv_at hl 1 rfl) ?_
      refine va_get (D := (dC, dI)) (ci := 3) (v := .int ymm) (C := RX3) (T := TX3) (N := 18) hx hb hts ziX3 hown hK hP 0 rfl rfl 5 (by decide) zw1 (fun _ h9 => h9) rfl dX3_becomes_22 ?_
      refine lv_icmp_ge (tgt := 53) hx hb dX3_becomes_25 (by decide) (fun c_25 => ?_) (fun c_25 => ?_)
      · have hm := it_t hm c_25
        exact K_20 yrowl20 ymkl20 (o2 hm) _ _ hP hD hS _ (lv_sub hl [1] rfl)
      · have hm := it_f hm c_25
        refine lv_aload_n hx hb dX3_becomes_28 rfl (lv_at hl 1 rfl) ?_
        refine va_get (D := (dC, dI)) (ci := 3) (v := .ref (md 1)) (C := RX3) (T := TX3) (N := 18) hx hb hts ziX3 hown hK hP 0 rfl rfl 3 (by decide) zw4 (fun _ h9 => h9) rfl dX3_becomes_29 ?_
        refine lv_iload_n hx hb dX3_becomes_32 rfl (lv_at hl 0 rfl) ?_
        refine lv_aload_n hx hb dX3_becomes_33 rfl (lv_at hl 1 rfl) ?_
        refine va_get (D := (dC, dI)) (ci := 3) (v := .ref (md 5)) (C := RX3) (T := TX3) (N := 18) hx hb hts ziX3 hown hK hP 0 rfl rfl 13 (by decide) zw5 (fun _ h9 => h9) rfl dX3_becomes_34 ?_
        refine lv_iload_n hx hb dX3_becomes_37 rfl (lv_at hl 0 rfl) ?_
        obtain ⟨c_38, hm⟩ := ck hm
        refine va_iald hx hb hK hP 5 0 rfl rfl c_38 dX3_becomes_38 ?_
        obtain ⟨c_39, hm⟩ := ck hm
        refine va_iast hx hb hK hP hD hS 1 0 rfl rfl c_39 dX3_becomes_39 (fun H locs hP hD hS => ?_)
        have hP : va_P (dC, dI) vwCl (wM cI cZ md yth ybd yro (upd yrowl20 (Int32.toNatClampNeg x2) (ymd (Int32.toNatClampNeg x2))) ymkl20 ymm yst p1 ybu 0 ymg ysp yjn ymd ybg ymm yup yun) H := hP
        have hD : va_D A (wM cI cZ md yth ybd yro (upd yrowl20 (Int32.toNatClampNeg x2) (ymd (Int32.toNatClampNeg x2))) ymkl20 ymm yst p1 ybu 0 ymg ysp yjn ymd ybg ymm yup yun) := hD
        refine lv_aload_n hx hb dX3_becomes_40 rfl (lv_at hl 1 rfl) ?_
        refine va_get (D := (dC, dI)) (ci := 3) (v := .ref (md 2)) (C := RX3) (T := TX3) (N := 18) hx hb hts ziX3 hown hK hP 0 rfl rfl 4 (by decide) zw6 (fun _ h9 => h9) rfl dX3_becomes_41 ?_
        refine lv_iload_n hx hb dX3_becomes_44 rfl (lv_at hl 0 rfl) ?_
        refine lv_iconst (v := 0) hx hb dX3_becomes_45 (by decide) ?_
        obtain ⟨c_46, hm⟩ := ck hm
        refine va_zast hx hb hK hP hD hS 2 1 rfl rfl c_46 dX3_becomes_46 (fun H locs hP hD hS => ?_)
        have hP : va_P (dC, dI) vwCl (wM cI cZ md yth ybd yro (upd yrowl20 (Int32.toNatClampNeg x2) (ymd (Int32.toNatClampNeg x2))) (upd ymkl20 (Int32.toNatClampNeg x2) 0) ymm yst p1 ybu 0 ymg ysp yjn ymd ybg ymm yup yun) H := hP
        have hD : va_D A (wM cI cZ md yth ybd yro (upd yrowl20 (Int32.toNatClampNeg x2) (ymd (Int32.toNatClampNeg x2))) (upd ymkl20 (Int32.toNatClampNeg x2) 0) ymm yst p1 ybu 0 ymg ysp yjn ymd ybg ymm yup yun) := hD
        obtain ⟨x2_1, e_x2_1⟩ : ∃ y : Int32, y = x2 + 1 := ⟨_, rfl⟩
        have hm := bnd_e hm e_x2_1
        refine lv_iinc (v := x2_1) (lv' := [(2, .int x2_1), (0, .ref (md 0))]) hx hb dX3_becomes_47 hl (k := 0) rfl (by rw [e_x2_1]; rfl) (by decide) rfl (fun ls hl => ?_)
        refine lv_goto (tgt := 20) hx hb dX3_becomes_50 (by decide) ?_
        exact ih_20 x2_1 (upd yrowl20 (Int32.toNatClampNeg x2) (ymd (Int32.toNatClampNeg x2))) (upd ymkl20 (Int32.toNatClampNeg x2) 0) hm _ _ hP hD hS _ (lv_sub hl [0, 1] rfl)
  exact L_20 F 0 yrow ymk hq_20 _ _ hP hD hS _ (lv_sub hl [0, 1] rfl)
set_option maxHeartbeats 4000000 in
set_option maxRecDepth 100000 in
theorem c_X3_joinsPieces (l : Launch) (dC : Nat → ClassId) (dI : Nat → Nat → Nat) (cI : ClassId) (cZ : ClassId) (md : Nat → Nat) (yth : Int32) (ybd : Int32) (yro : Int32) (yrow : Nat → Int32) (ymk : Nat → Int32) (yrm : Int32) (yst : Nat → Int32) (ypc : Int32) (ybu : Nat → Int32) (ybn : Int32) (ymg : Int32) (ysp : Int32) (yjn : Int32) (ymd : Nat → Int32) (ybg : Nat → Int32) (ymm : Int32) (yup : Int64) (yun : Int64) (F : Nat) (sz : Nat) (u_yst : Nat → Int32) (u_ypc : Int32) (u_yjn : Int32) (u_yup : Int64) (u_yun : Int64) (hm : X3_joinsPieces F ybd yrow yrm yst ypc yjn yup yun = some (u_yst, u_ypc, u_yjn, u_yup, u_yun)) : Met l yX3_joinsPieces wsX3_joinsPieces ({ frames := 1, cells := 0, slots := 0, locals := 32 }) (va_Pc [.ref (md 0)] (zW (dC, dI) (wM cI cZ md yth ybd yro yrow ymk yrm yst ypc ybu ybn ymg ysp yjn ymd ybg ymm yup yun) [(cI, .int), (cZ, .boolean)] sz)) (zQv (dC, dI) (wM cI cZ md yth ybd yro yrow ymk yrm u_yst u_ypc ybu ybn ymg ysp u_yjn ymd ybg ymm u_yup u_yun) [(cI, .int), (cZ, .boolean)] (va_A (wM cI cZ md yth ybd yro yrow ymk yrm yst ypc ybu ybn ymg ysp yjn ymd ybg ymm yup yun) sz)) 0 0 (va_A (wM cI cZ md yth ybd yro yrow ymk yrm yst ypc ybu ybn ymg ysp yjn ymd ybg ymm yup yun) sz) := by
  refine Met.ofW (cc := cX3_joinsPieces) (maxL := 3) (ret := none) (by decide) rfl ?_
  intro p e s m args below meth c s₁ B hml hv
  obtain ⟨rfl, hsz, hP, hK, hD0⟩ := hv
  have hx := B.exec
  have hb := B.bytes
  have hr := B.returns
  have hts := atoms_spec (ws := wsX3_joinsPieces) B.pre
  have hown : s.vm.findClass RX3 = some m.cls := findClass_of_methodNamed B.named
  have hlocks := B.notSynchronized
  subst hsz
  have hD := hD0.self (sz := s.heap.size)
  generalize hAe : va_A (wM cI cZ md yth ybd yro yrow ymk yrm yst ypc ybu ybn ymg ysp yjn ymd ybg ymm yup yun) s.heap.size = A at hD ⊢
  have hA : ∀ q : Nat, s.heap.size ≤ q → A q := fun q h => by rw [← hAe]; exact Or.inr h
  have hS : va_S A s.heap s.heap [] := va_S.rf
  generalize eL : ([] : List Loc) = locs at hS ⊢
  obtain ⟨H, eH⟩ : ∃ z : Heap, z = s.heap := ⟨_, rfl⟩
  have hP : va_P (dC, dI) vwCl (wM cI cZ md yth ybd yro yrow ymk yrm yst ypc ybu ybn ymg ysp yjn ymd ybg ymm yup yun) H := by rw [eH]; exact hP
  have hS : va_S A s.heap H locs := by rw [eH]; exact hS
  refine z_heap eH ?_
  have hl := lv_entry ([.ref (md 0)]) (n := 3) (Nat.le_of_ble_eq_true rfl)
  rw [lg_entry_eq]
  generalize (lg_sl ([.ref (md 0)]) ++ List.replicate (3 - (lg_sl ([.ref (md 0)])).length) Slot.unset).toArray = ls at hl ⊢
  have hl : lv_has ls 3 [(0, .ref (md 0))] := hl
  have zw0 := hts (.fieldLink RX3 48 "LearnedLedgeModel" "pieces" "I") (List.mem_cons_of_mem _ (List.mem_append_left _ (List.mem_of_getElem? (i := 0) rfl)))
  have zw1 := hts (.fieldLink RX3 16 "LearnedLedgeModel" "row" "[I") (List.mem_cons_of_mem _ (List.mem_append_left _ (List.mem_of_getElem? (i := 1) rfl)))
  have zw2 := hts (.fieldLink RX3 24 "LearnedLedgeModel" "start" "[I") (List.mem_cons_of_mem _ (List.mem_append_left _ (List.mem_of_getElem? (i := 2) rfl)))
  have zw3 := hts (.fieldLink RX3 111 "LearnedLedgeModel" "joins" "I") (List.mem_cons_of_mem _ (List.mem_append_left _ (List.mem_of_getElem? (i := 3) rfl)))
  have ziX3 : ∀ w ∈ u_ws RX3 TX3 18, w ∈ wsX3_joinsPieces := (fun _ h9 => (List.mem_cons_of_mem _ (List.mem_append_right _ h9)))
  refine lv_iconst (v := 0) hx hb dX3_joinsPieces_0 (by decide) ?_
  refine lv_istore_n (lv' := [(1, .int 0), (0, .ref (md 0))]) hx hb dX3_joinsPieces_1 rfl hl (by decide) rfl (fun ls hl => ?_)
  obtain ⟨z_2, hq_2, hm⟩ := ob hm
  have K_2 : ∀ (ystx2 : Nat → Int32), ∀ (ypcx2 : Int32), ∀ (yjnx2 : Int32), ∀ (yupx2 : Int64), ∀ (yunx2 : Int64), z_2 = (ystx2, ypcx2, yjnx2, yupx2, yunx2) → ∀ (H : Heap) (locs : List Loc), va_P (dC, dI) vwCl (wM cI cZ md yth ybd yro yrow ymk yrm ystx2 ypcx2 ybu ybn ymg ysp yjnx2 ymd ybg ymm yupx2 yunx2) H → va_D A (wM cI cZ md yth ybd yro yrow ymk yrm ystx2 ypcx2 ybu ybn ymg ysp yjnx2 ymd ybg ymm yupx2 yunx2) → va_S A s.heap H locs → ∀ (ls : Array Slot), lv_has ls 3 [] → W p l e (headSpec wsX3_joinsPieces ({ frames := 1, cells := 0, slots := 0, locals := 32 } : Room)).room s m ([.ref (md 0)] : List Value).toArray below meth c H locs 0 0 (MQ below (zQv (dC, dI) (wM cI cZ md yth ybd yro yrow ymk yrm u_yst u_ypc ybu ybn ymg ysp u_yjn ymd ybg ymm u_yup u_yun) [(cI, .int), (cZ, .boolean)] A) ([.ref (md 0)] : List Value).toArray s 0 0 A) (F0 m 99 ls []) := by
    intro ystx2 ypcx2 yjnx2 yupx2 yunx2 ez H locs hP hD hS ls hl
    rw [ez] at hm
    cases o2 hm
    exact W.vret hx hb hr (fun t ht hW => ⟨⟨(), rfl, trivial, by rw [ht]; exact hP, va_K.moved hW.alike hK, hD⟩, hS.F ht⟩) hS.2.2 dX3_joinsPieces_99
  have L_2 : ∀ (n : Nat) (x1 : Int32) (ystl2 : Nat → Int32) (ypcl2 : Int32) (yjnl2 : Int32) (yupl2 : Int64) (yunl2 : Int64), X3_joinsPieces_L2 ybd yrow yrm F n x1 ystl2 ypcl2 yjnl2 yupl2 yunl2 = some z_2 → ∀ (H : Heap) (locs : List Loc), va_P (dC, dI) vwCl (wM cI cZ md yth ybd yro yrow ymk yrm ystl2 ypcl2 ybu ybn ymg ysp yjnl2 ymd ybg ymm yupl2 yunl2) H → va_D A (wM cI cZ md yth ybd yro yrow ymk yrm ystl2 ypcl2 ybu ybn ymg ysp yjnl2 ymd ybg ymm yupl2 yunl2) → va_S A s.heap H locs → ∀ (ls : Array Slot), lv_has ls 3 [(1, .int x1), (0, .ref (md 0))] → W p l e (headSpec wsX3_joinsPieces ({ frames := 1, cells := 0, slots := 0, locals := 32 } : Room)).room s m ([.ref (md 0)] : List Value).toArray below meth c H locs 0 0 (MQ below (zQv (dC, dI) (wM cI cZ md yth ybd yro yrow ymk yrm u_yst u_ypc ybu ybn ymg ysp u_yjn ymd ybg ymm u_yup u_yun) [(cI, .int), (cZ, .boolean)] A) ([.ref (md 0)] : List Value).toArray s 0 0 A) (F0 m 2 ls []) := by
    intro n
    induction n with
    | zero => intro x1 ystl2 ypcl2 yjnl2 yupl2 yunl2 hm; cases hm
    | succ n ih_2 =>
      intro x1 ystl2 ypcl2 yjnl2 yupl2 yunl2 hm H locs hP hD hS ls hl
      refine lv_iload_n hx hb dX3_joinsPieces_2 rfl (lv_at hl 0 rfl) ?_
      refine lv_iconst (v := 1) hx hb dX3_joinsPieces_3 (by decide) ?_
      refine lv_iadd hx hb dX3_joinsPieces_4 ?_
      refine lv_aload_n hx hb dX3_joinsPieces_5 rfl (lv_at hl 1 rfl) ?_
      refine va_get (D := (dC, dI)) (ci := 3) (v := .int ypcl2) (C := RX3) (T := TX3) (N := 18) hx hb hts ziX3 hown hK hP 0 rfl rfl 7 (by decide) zw0 (fun _ h9 => h9) rfl dX3_joinsPieces_6 ?_
      refine lv_icmp_ge (tgt := 99) hx hb dX3_joinsPieces_9 (by decide) (fun c_9 => ?_) (fun c_9 => ?_)
      · have hm := it_t hm c_9
        exact K_2 ystl2 ypcl2 yjnl2 yupl2 yunl2 (o2 hm) _ _ hP hD hS _ (lv_sub hl [] rfl)
      · have hm := it_f hm c_9
        refine lv_aload_n hx hb dX3_joinsPieces_12 rfl (lv_at hl 1 rfl) ?_
        refine lv_aload_n hx hb dX3_joinsPieces_13 rfl (lv_at hl 1 rfl) ?_
        refine va_get (D := (dC, dI)) (ci := 3) (v := .ref (md 1)) (C := RX3) (T := TX3) (N := 18) hx hb hts ziX3 hown hK hP 0 rfl rfl 3 (by decide) zw1 (fun _ h9 => h9) rfl dX3_joinsPieces_14 ?_
        refine lv_aload_n hx hb dX3_joinsPieces_17 rfl (lv_at hl 1 rfl) ?_
        refine va_get (D := (dC, dI)) (ci := 3) (v := .ref (md 3)) (C := RX3) (T := TX3) (N := 18) hx hb hts ziX3 hown hK hP 0 rfl rfl 6 (by decide) zw2 (fun _ h9 => h9) rfl dX3_joinsPieces_18 ?_
        refine lv_iload_n hx hb dX3_joinsPieces_21 rfl (lv_at hl 0 rfl) ?_
        obtain ⟨c_22, hm⟩ := ck hm
        refine va_iald hx hb hK hP 3 0 rfl rfl c_22 dX3_joinsPieces_22 ?_
        refine lv_aload_n hx hb dX3_joinsPieces_23 rfl (lv_at hl 1 rfl) ?_
        refine lv_iload_n hx hb dX3_joinsPieces_24 rfl (lv_at hl 0 rfl) ?_
        refine lv_iconst (v := 1) hx hb dX3_joinsPieces_25 (by decide) ?_
        refine lv_iadd hx hb dX3_joinsPieces_26 ?_
        obtain ⟨r27, h_27, hm⟩ := ob hm
        refine z_callRi (As := [.int (x1 + 1)]) (rest := [.int (ystl2 (Int32.toNatClampNeg x1)), .ref (md 1), .ref (md 0)]) (ci := 3) (q := (RX3, TX3, 18)) ⟨hx, hb, hml, hown, hts⟩ (c_X3_behind l dC dI cI cZ md yth ybd yro yrow ymk yrm ystl2 ypcl2 ybu ybn ymg ysp yjnl2 ymd ybg ymm yupl2 yunl2 F (x1 + 1) r27 h_27) (cwV 1 hts gX3_joinsPieces_X3_behind rfl rfl rfl kv_X3_behind ⟨Nat.le_of_ble_eq_true rfl, Nat.le_of_ble_eq_true rfl⟩) hK hP rfl rfl rfl rfl hl.1 rfl (Nat.le_of_ble_eq_true rfl) dX3_joinsPieces_27 ⟨Nat.zero_le _, Nat.zero_le _⟩ ?_
        obtain ⟨⟨r30, yup30, yun30⟩, h_30, hm⟩ := ob hm
        refine z_callWi (wc := (wM cI cZ md yth ybd yro yrow ymk yrm ystl2 ypcl2 ybu ybn ymg ysp yjnl2 ymd ybg ymm yupl2 yunl2)) (w1 := (wM cI cZ md yth ybd yro yrow ymk yrm ystl2 ypcl2 ybu ybn ymg ysp yjnl2 ymd ybg ymm yup30 yun30)) (ws := (wM cI cZ md yth ybd yro yrow ymk yrm ystl2 ypcl2 ybu ybn ymg ysp yjnl2 ymd ybg ymm yupl2 yunl2)) (ws' := (wM cI cZ md yth ybd yro yrow ymk yrm ystl2 ypcl2 ybu ybn ymg ysp yjnl2 ymd ybg ymm yup30 yun30)) (As := [.ref (md 1), .int (ystl2 (Int32.toNatClampNeg x1)), .int r27]) (rest := []) (ci := 3) (q := (RX3, TX3, 18)) ⟨hx, hb, hml, hown, hts⟩ (c_X3_fits_row l dC dI cI cZ md yth ybd yro yrow ymk yrm ystl2 ypcl2 ybu ybn ymg ysp yjnl2 ymd ybg ymm yupl2 yunl2 F (ystl2 (Int32.toNatClampNeg x1)) r27 H.size r30 yup30 yun30 h_30) (cwV 3 hts gX3_joinsPieces_X3_fits rfl rfl rfl kv_X3_fits ⟨Nat.le_of_ble_eq_true rfl, Nat.le_of_ble_eq_true rfl⟩) hK hP hD hS hA (z_spAll (wM cI cZ md yth ybd yro yrow ymk yrm ystl2 ypcl2 ybu ybn ymg ysp yjnl2 ymd ybg ymm yupl2 yunl2) (wM cI cZ md yth ybd yro yrow ymk yrm ystl2 ypcl2 ybu ybn ymg ysp yjnl2 ymd ybg ymm yup30 yun30)) ((paM cI cZ md yth ybd yro yrow ymk yrm ystl2 ypcl2 ybu ybn ymg ysp yjnl2 ymd ybg ymm yup30 yun30).trans (paM cI cZ md yth ybd yro yrow ymk yrm ystl2 ypcl2 ybu ybn ymg ysp yjnl2 ymd ybg ymm yupl2 yunl2).symm) rfl rfl rfl rfl hl.1 rfl (Nat.le_of_ble_eq_true rfl) dX3_joinsPieces_30 ⟨Nat.zero_le _, Nat.zero_le _⟩ (fun H locs hP hD hS => ?_)
        refine lv_if_ne (tgt := 42) hx hb dX3_joinsPieces_33 (by decide) (fun c_33 => ?_) (fun c_33 => ?_)
        · have hm := it_f hm c_33
          refine lv_iload_n hx hb dX3_joinsPieces_42 rfl (lv_at hl 0 rfl) ?_
          refine lv_iconst (v := 1) hx hb dX3_joinsPieces_43 (by decide) ?_
          refine lv_iadd hx hb dX3_joinsPieces_44 ?_
          refine lv_topi (fun x2 e_x2 => ?_)
          have hm := bnd_e hm e_x2
          refine lv_istore_n (lv' := [(2, .int x2), (1, .int x1), (0, .ref (md 0))]) hx hb dX3_joinsPieces_45 rfl hl (by decide) rfl (fun ls hl => ?_)
          obtain ⟨z_46, hq_46, hm⟩ := ob hm
          have K_46 : ∀ (ystx46 : Nat → Int32), z_46 = ystx46 → ∀ (H : Heap) (locs : List Loc), va_P (dC, dI) vwCl (wM cI cZ md yth ybd yro yrow ymk yrm ystx46 ypcl2 ybu ybn ymg ysp yjnl2 ymd ybg ymm yup30 yun30) H → va_D A (wM cI cZ md yth ybd yro yrow ymk yrm ystx46 ypcl2 ybu ybn ymg ysp yjnl2 ymd ybg ymm yup30 yun30) → va_S A s.heap H locs → ∀ (ls : Array Slot), lv_has ls 3 [(1, .int x1), (0, .ref (md 0))] → W p l e (headSpec wsX3_joinsPieces ({ frames := 1, cells := 0, slots := 0, locals := 32 } : Room)).room s m ([.ref (md 0)] : List Value).toArray below meth c H locs 0 0 (MQ below (zQv (dC, dI) (wM cI cZ md yth ybd yro yrow ymk yrm u_yst u_ypc ybu ybn ymg ysp u_yjn ymd ybg ymm u_yup u_yun) [(cI, .int), (cZ, .boolean)] A) ([.ref (md 0)] : List Value).toArray s 0 0 A) (F0 m 76 ls []) := by
            intro ystx46 ez H locs hP hD hS ls hl
            rw [ez] at hm
            refine lv_aload_n hx hb dX3_joinsPieces_76 rfl (lv_at hl 1 rfl) ?_
            refine lv_dup hx hb dX3_joinsPieces_77 rfl ?_
            refine va_get (D := (dC, dI)) (ci := 3) (v := .int ypcl2) (C := RX3) (T := TX3) (N := 18) hx hb hts ziX3 hown hK hP 0 rfl rfl 7 (by decide) zw0 (fun _ h9 => h9) rfl dX3_joinsPieces_78 ?_
            refine lv_iconst (v := 1) hx hb dX3_joinsPieces_81 (by decide) ?_
            refine lv_isub hx hb dX3_joinsPieces_82 ?_
            refine va_put (D := (dC, dI)) (ci := 3) (v := .int (ypcl2 - 1)) (ty := .int) (C := RX3) (T := TX3) (N := 18) hx hb hts ziX3 tyX3 tyX3_ok nmX3 hown hK hP hD hS 0 rfl rfl 7 (by decide) zw0 (fun _ h9 => h9) rfl (by decide +kernel) rfl rfl (Nat.le_of_ble_eq_true rfl) dX3_joinsPieces_83 (fun H locs hP hD hS => ?_)
            have hP : va_P (dC, dI) vwCl (wM cI cZ md yth ybd yro yrow ymk yrm ystx46 (ypcl2 - 1) ybu ybn ymg ysp yjnl2 ymd ybg ymm yup30 yun30) H := hP
            have hD : va_D A (wM cI cZ md yth ybd yro yrow ymk yrm ystx46 (ypcl2 - 1) ybu ybn ymg ysp yjnl2 ymd ybg ymm yup30 yun30) := hD
            refine lv_aload_n hx hb dX3_joinsPieces_86 rfl (lv_at hl 1 rfl) ?_
            refine lv_dup hx hb dX3_joinsPieces_87 rfl ?_
            refine va_get (D := (dC, dI)) (ci := 3) (v := .int yjnl2) (C := RX3) (T := TX3) (N := 18) hx hb hts ziX3 hown hK hP 0 rfl rfl 12 (by decide) zw3 (fun _ h9 => h9) rfl dX3_joinsPieces_88 ?_
            refine lv_iconst (v := 1) hx hb dX3_joinsPieces_91 (by decide) ?_
            refine lv_iadd hx hb dX3_joinsPieces_92 ?_
            refine va_put (D := (dC, dI)) (ci := 3) (v := .int (yjnl2 + 1)) (ty := .int) (C := RX3) (T := TX3) (N := 18) hx hb hts ziX3 tyX3 tyX3_ok nmX3 hown hK hP hD hS 0 rfl rfl 12 (by decide) zw3 (fun _ h9 => h9) rfl (by decide +kernel) rfl rfl (Nat.le_of_ble_eq_true rfl) dX3_joinsPieces_93 (fun H locs hP hD hS => ?_)
            have hP : va_P (dC, dI) vwCl (wM cI cZ md yth ybd yro yrow ymk yrm ystx46 (ypcl2 - 1) ybu ybn ymg ysp (yjnl2 + 1) ymd ybg ymm yup30 yun30) H := hP
            have hD : va_D A (wM cI cZ md yth ybd yro yrow ymk yrm ystx46 (ypcl2 - 1) ybu ybn ymg ysp (yjnl2 + 1) ymd ybg ymm yup30 yun30) := hD
            refine lv_goto (tgt := 2) hx hb dX3_joinsPieces_96 (by decide) ?_
            exact ih_2 x1 ystx46 (ypcl2 - 1) (yjnl2 + 1) yup30 yun30 hm _ _ hP hD hS _ (lv_sub hl [0, 1] rfl)
          have L_46 : ∀ (n : Nat) (x2_1 : Int32) (ystl46 : Nat → Int32), X3_joinsPieces_L46 ypcl2 n x2_1 ystl46 = some z_46 → ∀ (H : Heap) (locs : List Loc), va_P (dC, dI) vwCl (wM cI cZ md yth ybd yro yrow ymk yrm ystl46 ypcl2 ybu ybn ymg ysp yjnl2 ymd ybg ymm yup30 yun30) H → va_D A (wM cI cZ md yth ybd yro yrow ymk yrm ystl46 ypcl2 ybu ybn ymg ysp yjnl2 ymd ybg ymm yup30 yun30) → va_S A s.heap H locs → ∀ (ls : Array Slot), lv_has ls 3 [(2, .int x2_1), (1, .int x1), (0, .ref (md 0))] → W p l e (headSpec wsX3_joinsPieces ({ frames := 1, cells := 0, slots := 0, locals := 32 } : Room)).room s m ([.ref (md 0)] : List Value).toArray below meth c H locs 0 0 (MQ below (zQv (dC, dI) (wM cI cZ md yth ybd yro yrow ymk yrm u_yst u_ypc ybu ybn ymg ysp u_yjn ymd ybg ymm u_yup u_yun) [(cI, .int), (cZ, .boolean)] A) ([.ref (md 0)] : List Value).toArray s 0 0 A) (F0 m 46 ls []) := by
            intro n
            induction n with
            | zero => intro x2_1 ystl46 hm; cases hm
            | succ n ih_46 =>
              intro x2_1 ystl46 hm H locs hP hD hS ls hl
              refine lv_iload_n hx hb dX3_joinsPieces_46 rfl (lv_at hl 0 rfl) ?_
              refine lv_iconst (v := 1) hx hb dX3_joinsPieces_47 (by decide) ?_
              refine lv_iadd hx hb dX3_joinsPieces_48 ?_
              refine lv_aload_n hx hb dX3_joinsPieces_49 rfl (lv_at hl 2 rfl) ?_
              refine va_get (D := (dC, dI)) (ci := 3) (v := .int ypcl2) (C := RX3) (T := TX3) (N := 18) hx hb hts ziX3 hown hK hP 0 rfl rfl 7 (by decide) zw0 (fun _ h9 => h9) rfl dX3_joinsPieces_50 ?_
              refine lv_icmp_ge (tgt := 76) hx hb dX3_joinsPieces_53 (by decide) (fun c_53 => ?_) (fun c_53 => ?_)
              · have hm := it_t hm c_53
                exact K_46 ystl46 (o2 hm) _ _ hP hD hS _ (lv_sub hl [1, 2] rfl)
              · have hm := it_f hm c_53
                refine lv_aload_n hx hb dX3_joinsPieces_56 rfl (lv_at hl 2 rfl) ?_
                refine va_get (D := (dC, dI)) (ci := 3) (v := .ref (md 3)) (C := RX3) (T := TX3) (N := 18) hx hb hts ziX3 hown hK hP 0 rfl rfl 6 (by decide) zw2 (fun _ h9 => h9) rfl dX3_joinsPieces_57 ?_
                refine lv_iload_n hx hb dX3_joinsPieces_60 rfl (lv_at hl 0 rfl) ?_
                refine lv_aload_n hx hb dX3_joinsPieces_61 rfl (lv_at hl 2 rfl) ?_
                refine va_get (D := (dC, dI)) (ci := 3) (v := .ref (md 3)) (C := RX3) (T := TX3) (N := 18) hx hb hts ziX3 hown hK hP 0 rfl rfl 6 (by decide) zw2 (fun _ h9 => h9) rfl dX3_joinsPieces_62 ?_
                refine lv_iload_n hx hb dX3_joinsPieces_65 rfl (lv_at hl 0 rfl) ?_
                refine lv_iconst (v := 1) hx hb dX3_joinsPieces_66 (by decide) ?_
                refine lv_iadd hx hb dX3_joinsPieces_67 ?_
                obtain ⟨c_68, hm⟩ := ck hm
                refine va_iald hx hb hK hP 3 0 rfl rfl c_68 dX3_joinsPieces_68 ?_
                obtain ⟨c_69, hm⟩ := ck hm
                refine va_iast hx hb hK hP hD hS 3 0 rfl rfl c_69 dX3_joinsPieces_69 (fun H locs hP hD hS => ?_)
                have hP : va_P (dC, dI) vwCl (wM cI cZ md yth ybd yro yrow ymk yrm (upd ystl46 (Int32.toNatClampNeg x2_1) (ystl46 (Int32.toNatClampNeg (x2_1 + 1)))) ypcl2 ybu ybn ymg ysp yjnl2 ymd ybg ymm yup30 yun30) H := hP
                have hD : va_D A (wM cI cZ md yth ybd yro yrow ymk yrm (upd ystl46 (Int32.toNatClampNeg x2_1) (ystl46 (Int32.toNatClampNeg (x2_1 + 1)))) ypcl2 ybu ybn ymg ysp yjnl2 ymd ybg ymm yup30 yun30) := hD
                obtain ⟨x2_2, e_x2_2⟩ : ∃ y : Int32, y = x2_1 + 1 := ⟨_, rfl⟩
                have hm := bnd_e hm e_x2_2
                refine lv_iinc (v := x2_2) (lv' := [(2, .int x2_2), (1, .int x1), (0, .ref (md 0))]) hx hb dX3_joinsPieces_70 hl (k := 0) rfl (by rw [e_x2_2]; rfl) (by decide) rfl (fun ls hl => ?_)
                refine lv_goto (tgt := 46) hx hb dX3_joinsPieces_73 (by decide) ?_
                exact ih_46 x2_2 (upd ystl46 (Int32.toNatClampNeg x2_1) (ystl46 (Int32.toNatClampNeg (x2_1 + 1)))) hm _ _ hP hD hS _ (lv_sub hl [0, 1, 2] rfl)
          exact L_46 F x2 ystl2 hq_46 _ _ hP hD hS _ (lv_sub hl [0, 1, 2] rfl)
        · have hm := it_t hm c_33
          obtain ⟨x1_1, e_x1_1⟩ : ∃ y : Int32, y = x1 + 1 := ⟨_, rfl⟩
          have hm := bnd_e hm e_x1_1
          refine lv_iinc (v := x1_1) (lv' := [(1, .int x1_1), (0, .ref (md 0))]) hx hb dX3_joinsPieces_36 hl (k := 0) rfl (by rw [e_x1_1]; rfl) (by decide) rfl (fun ls hl => ?_)
          refine lv_goto (tgt := 2) hx hb dX3_joinsPieces_39 (by decide) ?_
          exact ih_2 x1_1 ystl2 ypcl2 yjnl2 yup30 yun30 hm _ _ hP hD hS _ (lv_sub hl [0, 1] rfl)
  exact L_2 F 0 yst ypc yjn yup yun hq_2 _ _ hP hD hS _ (lv_sub hl [0, 1] rfl)
