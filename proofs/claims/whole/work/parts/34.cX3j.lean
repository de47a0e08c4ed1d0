set_option maxHeartbeats 4000000 in
set_option maxRecDepth 100000 in
theorem c_X3_remove (l : Launch) (dC : Nat → ClassId) (dI : Nat → Nat → Nat) (cI : ClassId) (cZ : ClassId) (md : Nat → Nat) (yth : Int32) (ybd : Int32) (yro : Int32) (yrow : Nat → Int32) (ymk : Nat → Int32) (yrm : Int32) (yst : Nat → Int32) (ypc : Int32) (ybu : Nat → Int32) (ybn : Int32) (ymg : Int32) (ysp : Int32) (yjn : Int32) (ymd : Nat → Int32) (ybg : Nat → Int32) (ymm : Int32) (yup : Int64) (yun : Int64) (F : Nat) (p1 : Int32) (sz : Nat) (r : Int32) (u_yth : Int32) (u_ymk : Nat → Int32) (u_ybu : Nat → Int32) (u_ybn : Int32) (hm : X3_remove F yth yrow ymk yrm ybu ybn p1 = some (r, u_yth, u_ymk, u_ybu, u_ybn)) : Met l yX3_remove wsX3_remove ({ frames := 3, cells := 0, slots := 0, locals := 65 }) (va_Pc [.ref (md 0), .int p1] (zW (dC, dI) (wM cI cZ md yth ybd yro yrow ymk yrm yst ypc ybu ybn ymg ysp yjn ymd ybg ymm yup yun) [(cI, .int), (cZ, .boolean)] sz)) (zQi (dC, dI) (wM cI cZ md u_yth ybd yro yrow u_ymk yrm yst ypc u_ybu u_ybn ymg ysp yjn ymd ybg ymm yup yun) [(cI, .int), (cZ, .boolean)] (va_A (wM cI cZ md yth ybd yro yrow ymk yrm yst ypc ybu ybn ymg ysp yjn ymd ybg ymm yup yun) sz) r) 0 0 (va_A (wM cI cZ md yth ybd yro yrow ymk yrm yst ypc ybu ybn ymg ysp yjn ymd ybg ymm yup yun) sz) := by
  refine Met.ofW (cc := cX3_remove) (maxL := 4) (ret := (some .int)) (by decide) rfl ?_
  intro p e s m args below meth c s₁ B hml hv
  obtain ⟨rfl, hsz, hP, hK, hD0⟩ := hv
  have hx := B.exec
  have hb := B.bytes
  have hr := B.returns
  have hts := atoms_spec (ws := wsX3_remove) B.pre
  have hown : s.vm.findClass RX3 = some m.cls := findClass_of_methodNamed B.named
  have hlocks := B.notSynchronized
  subst hsz
  have hD := hD0.self (sz := s.heap.size)
  generalize hAe : va_A (wM cI cZ md yth ybd yro yrow ymk yrm yst ypc ybu ybn ymg ysp yjn ymd ybg ymm yup yun) s.heap.size = A at hD ⊢
  have hA : ∀ q : Nat, s.heap.size ≤ q → A q := fun q h => by rw [← hAe]; exact Or.inr h
  have hS : va_S A s.heap s.heap [] := va_S.rf
  generalize eL : ([] : List Loc) = locs at hS ⊢
  obtain ⟨H, eH⟩ : ∃ z : Heap, z = s.heap := ⟨_, rfl⟩
  have hP : va_P (dC, dI) vwCl (wM cI cZ md yth ybd yro yrow ymk yrm yst ypc ybu ybn ymg ysp yjn ymd ybg ymm yup yun) H := by rw [eH]; exact hP
  have hS : va_S A s.heap H locs := by rw [eH]; exact hS
  refine z_heap eH ?_
  have hl := lv_entry ([.ref (md 0), .int p1]) (n := 4) (Nat.le_of_ble_eq_true rfl)
  rw [lg_entry_eq]
  generalize (lg_sl ([.ref (md 0), .int p1]) ++ List.replicate (4 - (lg_sl ([.ref (md 0), .int p1])).length) Slot.unset).toArray = ls at hl ⊢
  have hl : lv_has ls 4 [(0, .ref (md 0)), (1, .int p1)] := hl
  have zw0 := hts (.fieldLink RX3 36 "LearnedLedgeModel" "thrown" "I") (List.mem_cons_of_mem _ (List.mem_append_left _ (List.mem_append_left _ (List.mem_of_getElem? (i := 0) rfl))))
  have zw1 := hts (.fieldLink RX3 69 "LearnedLedgeModel" "buffered" "I") (List.mem_cons_of_mem _ (List.mem_append_left _ (List.mem_append_left _ (List.mem_of_getElem? (i := 2) rfl))))
  have zw2 := hts (.fieldLink RX3 27 "LearnedLedgeModel" "buffer" "[I") (List.mem_cons_of_mem _ (List.mem_append_left _ (List.mem_append_left _ (List.mem_of_getElem? (i := 3) rfl))))
  have zw3 := hts (.fieldLink RX3 20 "LearnedLedgeModel" "isMarked" "[Z") (List.mem_cons_of_mem _ (List.mem_append_left _ (List.mem_append_left _ (List.mem_of_getElem? (i := 1) rfl))))
  have ziX3 : ∀ w ∈ u_ws RX3 TX3 18, w ∈ wsX3_remove := (fun _ h9 => (List.mem_cons_of_mem _ (List.mem_append_right _ h9)))
  refine lv_aload_n hx hb dX3_remove_0 rfl (lv_at hl 0 rfl) ?_
  refine lv_aload_n hx hb dX3_remove_1 rfl (lv_at hl 0 rfl) ?_
  refine lv_iload_n hx hb dX3_remove_2 rfl (lv_at hl 1 rfl) ?_
  obtain ⟨r3, h_3, hm⟩ := ob hm
  refine z_callRi (As := [.int p1]) (rest := [.ref (md 0)]) (ci := 3) (q := (RX3, TX3, 18)) ⟨hx, hb, hml, hown, hts⟩ (c_X3_isThere l dC dI cI cZ md yth ybd yro yrow ymk yrm yst ypc ybu ybn ymg ysp yjn ymd ybg ymm yup yun F p1 r3 h_3) (cwV 1 hts gX3_remove_X3_isThere rfl rfl rfl kv_X3_isThere ⟨Nat.le_of_ble_eq_true rfl, Nat.le_of_ble_eq_true rfl⟩) hK hP rfl rfl rfl rfl hl.1 rfl (Nat.le_of_ble_eq_true rfl) dX3_remove_3 ⟨Nat.zero_le _, Nat.zero_le _⟩ ?_
  obtain ⟨y14, e_y14⟩ : ∃ y : Int32, y = (if r3 = 0 then 1 else 0) := ⟨_, rfl⟩
  have hm := bnd_e hm e_y14
  have J_14 : W p l e (headSpec wsX3_remove ({ frames := 3, cells := 0, slots := 0, locals := 65 } : Room)).room s m ([.ref (md 0), .int p1] : List Value).toArray below meth c H locs 0 0 (MQ below (zQi (dC, dI) (wM cI cZ md u_yth ybd yro yrow u_ymk yrm yst ypc u_ybu u_ybn ymg ysp yjn ymd ybg ymm yup yun) [(cI, .int), (cZ, .boolean)] A r) ([.ref (md 0), .int p1] : List Value).toArray s 0 0 A) (F0 m 14 ls [.int y14, .ref (md 0)]) := by
    refine va_put (D := (dC, dI)) (ci := 3) (v := .int y14) (ty := .int) (C := RX3) (T := TX3) (N := 18) hx hb hts ziX3 tyX3 tyX3_ok nmX3 hown hK hP hD hS 0 rfl rfl 0 (by decide) zw0 (fun _ h9 => h9) rfl (by decide +kernel) rfl rfl (Nat.le_of_ble_eq_true rfl) dX3_remove_14 (fun H locs hP hD hS => ?_)
    have hP : va_P (dC, dI) vwCl (wM cI cZ md y14 ybd yro yrow ymk yrm yst ypc ybu ybn ymg ysp yjn ymd ybg ymm yup yun) H := hP
    have hD : va_D A (wM cI cZ md y14 ybd yro yrow ymk yrm yst ypc ybu ybn ymg ysp yjn ymd ybg ymm yup yun) := hD
    refine lv_aload_n hx hb dX3_remove_17 rfl (lv_at hl 0 rfl) ?_
    refine va_get (D := (dC, dI)) (ci := 3) (v := .int y14) (C := RX3) (T := TX3) (N := 18) hx hb hts ziX3 hown hK hP 0 rfl rfl 0 (by decide) zw0 (fun _ h9 => h9) rfl dX3_remove_18 ?_
    refine lv_if_le (tgt := 26) hx hb dX3_remove_21 (by decide) (fun c_21 => ?_) (fun c_21 => ?_)
    · have hm := it_t hm c_21
      refine lv_aload_n hx hb dX3_remove_26 rfl (lv_at hl 0 rfl) ?_
      refine lv_iload_n hx hb dX3_remove_27 rfl (lv_at hl 1 rfl) ?_
      obtain ⟨r28, h_28, hm⟩ := ob hm
      refine z_callRi (As := [.int p1]) (rest := []) (ci := 3) (q := (RX3, TX3, 18)) ⟨hx, hb, hml, hown, hts⟩ (c_X3_isBuffered l dC dI cI cZ md y14 ybd yro yrow ymk yrm yst ypc ybu ybn ymg ysp yjn ymd ybg ymm yup yun F p1 r28 h_28) (cwV 1 hts gX3_remove_X3_isBuffered rfl rfl rfl kv_X3_isBuffered ⟨Nat.le_of_ble_eq_true rfl, Nat.le_of_ble_eq_true rfl⟩) hK hP rfl rfl rfl rfl hl.1 rfl (Nat.le_of_ble_eq_true rfl) dX3_remove_28 ⟨Nat.zero_le _, Nat.zero_le _⟩ ?_
      refine lv_if_ne (tgt := 50) hx hb dX3_remove_31 (by decide) (fun c_31 => ?_) (fun c_31 => ?_)
      · have hm := it_f hm c_31
        refine lv_iconst (v := 0) hx hb dX3_remove_50 (by decide) ?_
        refine lv_istore_n (lv' := [(2, .int 0), (0, .ref (md 0)), (1, .int p1)]) hx hb dX3_remove_51 rfl hl (by decide) rfl (fun ls hl => ?_)
        refine lv_iconst (v := 0) hx hb dX3_remove_52 (by decide) ?_
        refine lv_istore_n (lv' := [(3, .int 0), (2, .int 0), (0, .ref (md 0)), (1, .int p1)]) hx hb dX3_remove_53 rfl hl (by decide) rfl (fun ls hl => ?_)
        obtain ⟨z_54, hq_54, hm⟩ := ob hm
        have K_54 : ∀ (x2_2 : Int32), ∀ (ybux54 : Nat → Int32), z_54 = (x2_2, ybux54) → ∀ (H : Heap) (locs : List Loc), va_P (dC, dI) vwCl (wM cI cZ md y14 ybd yro yrow ymk yrm yst ypc ybux54 ybn ymg ysp yjn ymd ybg ymm yup yun) H → va_D A (wM cI cZ md y14 ybd yro yrow ymk yrm yst ypc ybux54 ybn ymg ysp yjn ymd ybg ymm yup yun) → va_S A s.heap H locs → ∀ (ls : Array Slot), lv_has ls 4 [(2, .int x2_2), (0, .ref (md 0))] → W p l e (headSpec wsX3_remove ({ frames := 3, cells := 0, slots := 0, locals := 65 } : Room)).room s m ([.ref (md 0), .int p1] : List Value).toArray below meth c H locs 0 0 (MQ below (zQi (dC, dI) (wM cI cZ md u_yth ybd yro yrow u_ymk yrm yst ypc u_ybu u_ybn ymg ysp yjn ymd ybg ymm yup yun) [(cI, .int), (cZ, .boolean)] A r) ([.ref (md 0), .int p1] : List Value).toArray s 0 0 A) (F0 m 93 ls []) := by
          intro x2_2 ybux54 ez H locs hP hD hS ls hl
          rw [ez] at hm
          refine lv_aload_n hx hb dX3_remove_93 rfl (lv_at hl 1 rfl) ?_
          refine lv_iload_n hx hb dX3_remove_94 rfl (lv_at hl 0 rfl) ?_
          refine va_put (D := (dC, dI)) (ci := 3) (v := .int x2_2) (ty := .int) (C := RX3) (T := TX3) (N := 18) hx hb hts ziX3 tyX3 tyX3_ok nmX3 hown hK hP hD hS 0 rfl rfl 9 (by decide) zw1 (fun _ h9 => h9) rfl (by decide +kernel) rfl rfl (Nat.le_of_ble_eq_true rfl) dX3_remove_95 (fun H locs hP hD hS => ?_)
          have hP : va_P (dC, dI) vwCl (wM cI cZ md y14 ybd yro yrow ymk yrm yst ypc ybux54 x2_2 ymg ysp yjn ymd ybg ymm yup yun) H := hP
          have hD : va_D A (wM cI cZ md y14 ybd yro yrow ymk yrm yst ypc ybux54 x2_2 ymg ysp yjn ymd ybg ymm yup yun) := hD
          refine lv_aload_n hx hb dX3_remove_98 rfl (lv_at hl 1 rfl) ?_
          obtain ⟨r99, h_99, hm⟩ := ob hm
          refine z_callRi (As := []) (rest := []) (ci := 3) (q := (RX3, TX3, 18)) ⟨hx, hb, hml, hown, hts⟩ (c_X3_keys l dC dI cI cZ md y14 ybd yro yrow ymk yrm yst ypc ybux54 x2_2 ymg ysp yjn ymd ybg ymm yup yun F r99 h_99) (cwV 0 hts gX3_remove_X3_keys rfl rfl rfl kv_X3_keys ⟨Nat.le_of_ble_eq_true rfl, Nat.le_of_ble_eq_true rfl⟩) hK hP rfl rfl rfl rfl hl.1 rfl (Nat.le_of_ble_eq_true rfl) dX3_remove_99 ⟨Nat.zero_le _, Nat.zero_le _⟩ ?_
          cases o2 hm
          exact W.iret hx hb hr (fun t ht hW => ⟨⟨_, (), rfl, rfl, by rw [ht]; exact hP, va_K.moved hW.alike hK, hD⟩, hS.F ht⟩) hS.2.2 dX3_remove_102
        have L_54 : ∀ (n : Nat) (x3 : Int32) (x2 : Int32) (ybul54 : Nat → Int32), X3_remove_L54 p1 ybn n x3 x2 ybul54 = some z_54 → ∀ (H : Heap) (locs : List Loc), va_P (dC, dI) vwCl (wM cI cZ md y14 ybd yro yrow ymk yrm yst ypc ybul54 ybn ymg ysp yjn ymd ybg ymm yup yun) H → va_D A (wM cI cZ md y14 ybd yro yrow ymk yrm yst ypc ybul54 ybn ymg ysp yjn ymd ybg ymm yup yun) → va_S A s.heap H locs → ∀ (ls : Array Slot), lv_has ls 4 [(3, .int x3), (2, .int x2), (0, .ref (md 0)), (1, .int p1)] → W p l e (headSpec wsX3_remove ({ frames := 3, cells := 0, slots := 0, locals := 65 } : Room)).room s m ([.ref (md 0), .int p1] : List Value).toArray below meth c H locs 0 0 (MQ below (zQi (dC, dI) (wM cI cZ md u_yth ybd yro yrow u_ymk yrm yst ypc u_ybu u_ybn ymg ysp yjn ymd ybg ymm yup yun) [(cI, .int), (cZ, .boolean)] A r) ([.ref (md 0), .int p1] : List Value).toArray s 0 0 A) (F0 m 54 ls []) := by
          intro n
          induction n with
          | zero => intro x3 x2 ybul54 hm; cases hm
          | succ n ih_54 =>
            intro x3 x2 ybul54 hm H locs hP hD hS ls hl
            refine lv_iload_n hx hb dX3_remove_54 rfl (lv_at hl 0 rfl) ?_
            refine lv_aload_n hx hb dX3_remove_55 rfl (lv_at hl 2 rfl) ?_
            refine va_get (D := (dC, dI)) (ci := 3) (v := .int ybn) (C := RX3) (T := TX3) (N := 18) hx hb hts ziX3 hown hK hP 0 rfl rfl 9 (by decide) zw1 (fun _ h9 => h9) rfl dX3_remove_56 ?_
            refine lv_icmp_ge (tgt := 93) hx hb dX3_remove_59 (by decide) (fun c_59 => ?_) (fun c_59 => ?_)
            · have hm := it_t hm c_59
              exact K_54 x2 ybul54 (o2 hm) _ _ hP hD hS _ (lv_sub hl [1, 2] rfl)
            · have hm := it_f hm c_59
              refine lv_aload_n hx hb dX3_remove_62 rfl (lv_at hl 2 rfl) ?_
              refine va_get (D := (dC, dI)) (ci := 3) (v := .ref (md 4)) (C := RX3) (T := TX3) (N := 18) hx hb hts ziX3 hown hK hP 0 rfl rfl 8 (by decide) zw2 (fun _ h9 => h9) rfl dX3_remove_63 ?_
              refine lv_iload_n hx hb dX3_remove_66 rfl (lv_at hl 0 rfl) ?_
              obtain ⟨c_67, hm⟩ := ck hm
              refine va_iald hx hb hK hP 4 0 rfl rfl c_67 dX3_remove_67 ?_
              refine lv_iload_n hx hb dX3_remove_68 rfl (lv_at hl 3 rfl) ?_
              refine lv_icmp_eq (tgt := 87) hx hb dX3_remove_69 (by decide) (fun c_69 => ?_) (fun c_69 => ?_)
              · have hm := it_t hm c_69
                obtain ⟨x3_1, e_x3_1⟩ : ∃ y : Int32, y = x3 + 1 := ⟨_, rfl⟩
                have hm := bnd_e hm e_x3_1
                refine lv_iinc (v := x3_1) (lv' := [(3, .int x3_1), (2, .int x2), (0, .ref (md 0)), (1, .int p1)]) hx hb dX3_remove_87 hl (k := 0) rfl (by rw [e_x3_1]; rfl) (by decide) rfl (fun ls hl => ?_)
                refine lv_goto (tgt := 54) hx hb dX3_remove_90 (by decide) ?_
                exact ih_54 x3_1 x2 ybul54 hm _ _ hP hD hS _ (lv_sub hl [0, 1, 2, 3] rfl)
              · have hm := it_f hm c_69
                refine lv_aload_n hx hb dX3_remove_72 rfl (lv_at hl 2 rfl) ?_
                refine va_get (D := (dC, dI)) (ci := 3) (v := .ref (md 4)) (C := RX3) (T := TX3) (N := 18) hx hb hts ziX3 hown hK hP 0 rfl rfl 8 (by decide) zw2 (fun _ h9 => h9) rfl dX3_remove_73 ?_
                refine lv_iload_n hx hb dX3_remove_76 rfl (lv_at hl 1 rfl) ?_
                refine lv_aload_n hx hb dX3_remove_77 rfl (lv_at hl 2 rfl) ?_
                refine va_get (D := (dC, dI)) (ci := 3) (v := .ref (md 4)) (C := RX3) (T := TX3) (N := 18) hx hb hts ziX3 hown hK hP 0 rfl rfl 8 (by decide) zw2 (fun _ h9 => h9) rfl dX3_remove_78 ?_
                refine lv_iload_n hx hb dX3_remove_81 rfl (lv_at hl 0 rfl) ?_
                obtain ⟨c_82, hm⟩ := ck hm
                refine va_iald hx hb hK hP 4 0 rfl rfl c_82 dX3_remove_82 ?_
                obtain ⟨c_83, hm⟩ := ck hm
                refine va_iast hx hb hK hP hD hS 4 0 rfl rfl c_83 dX3_remove_83 (fun H locs hP hD hS => ?_)
                have hP : va_P (dC, dI) vwCl (wM cI cZ md y14 ybd yro yrow ymk yrm yst ypc (upd ybul54 (Int32.toNatClampNeg x2) (ybul54 (Int32.toNatClampNeg x3))) ybn ymg ysp yjn ymd ybg ymm yup yun) H := hP
                have hD : va_D A (wM cI cZ md y14 ybd yro yrow ymk yrm yst ypc (upd ybul54 (Int32.toNatClampNeg x2) (ybul54 (Int32.toNatClampNeg x3))) ybn ymg ysp yjn ymd ybg ymm yup yun) := hD
                obtain ⟨x2_1, e_x2_1⟩ : ∃ y : Int32, y = x2 + 1 := ⟨_, rfl⟩
                have hm := bnd_e hm e_x2_1
                refine lv_iinc (v := x2_1) (lv' := [(2, .int x2_1), (3, .int x3), (0, .ref (md 0)), (1, .int p1)]) hx hb dX3_remove_84 hl (k := 1) rfl (by rw [e_x2_1]; rfl) (by decide) rfl (fun ls hl => ?_)
                obtain ⟨x3_2, e_x3_2⟩ : ∃ y : Int32, y = x3 + 1 := ⟨_, rfl⟩
                have hm := bnd_e hm e_x3_2
                refine lv_iinc (v := x3_2) (lv' := [(3, .int x3_2), (2, .int x2_1), (0, .ref (md 0)), (1, .int p1)]) hx hb dX3_remove_87 hl (k := 1) rfl (by rw [e_x3_2]; rfl) (by decide) rfl (fun ls hl => ?_)
                refine lv_goto (tgt := 54) hx hb dX3_remove_90 (by decide) ?_
                exact ih_54 x3_2 x2_1 (upd ybul54 (Int32.toNatClampNeg x2) (ybul54 (Int32.toNatClampNeg x3))) hm _ _ hP hD hS _ (lv_sub hl [0, 1, 2, 3] rfl)
        exact L_54 F 0 0 ybu hq_54 _ _ hP hD hS _ (lv_sub hl [0, 1, 2, 3] rfl)
      · have hm := it_t hm c_31
        refine lv_aload_n hx hb dX3_remove_34 rfl (lv_at hl 0 rfl) ?_
        refine va_get (D := (dC, dI)) (ci := 3) (v := .ref (md 2)) (C := RX3) (T := TX3) (N := 18) hx hb hts ziX3 hown hK hP 0 rfl rfl 4 (by decide) zw3 (fun _ h9 => h9) rfl dX3_remove_35 ?_
        refine lv_aload_n hx hb dX3_remove_38 rfl (lv_at hl 0 rfl) ?_
        refine lv_iload_n hx hb dX3_remove_39 rfl (lv_at hl 1 rfl) ?_
        obtain ⟨r40, h_40, hm⟩ := ob hm
        refine z_callRi (As := [.int p1]) (rest := [.ref (md 2)]) (ci := 3) (q := (RX3, TX3, 18)) ⟨hx, hb, hml, hown, hts⟩ (c_X3_placeOf l dC dI cI cZ md y14 ybd yro yrow ymk yrm yst ypc ybu ybn ymg ysp yjn ymd ybg ymm yup yun F p1 r40 h_40) (cwV 1 hts gX3_remove_X3_placeOf rfl rfl rfl kv_X3_placeOf ⟨Nat.le_of_ble_eq_true rfl, Nat.le_of_ble_eq_true rfl⟩) hK hP rfl rfl rfl rfl hl.1 rfl (Nat.le_of_ble_eq_true rfl) dX3_remove_40 ⟨Nat.zero_le _, Nat.zero_le _⟩ ?_
        refine lv_iconst (v := 1) hx hb dX3_remove_43 (by decide) ?_
        obtain ⟨c_44, hm⟩ := ck hm
        refine va_zast hx hb hK hP hD hS 2 1 rfl rfl c_44 dX3_remove_44 (fun H locs hP hD hS => ?_)
        have hP : va_P (dC, dI) vwCl (wM cI cZ md y14 ybd yro yrow (upd ymk (Int32.toNatClampNeg r40) 1) yrm yst ypc ybu ybn ymg ysp yjn ymd ybg ymm yup yun) H := hP
        have hD : va_D A (wM cI cZ md y14 ybd yro yrow (upd ymk (Int32.toNatClampNeg r40) 1) yrm yst ypc ybu ybn ymg ysp yjn ymd ybg ymm yup yun) := hD
        refine lv_aload_n hx hb dX3_remove_45 rfl (lv_at hl 0 rfl) ?_
        obtain ⟨r46, h_46, hm⟩ := ob hm
        refine z_callRi (As := []) (rest := []) (ci := 3) (q := (RX3, TX3, 18)) ⟨hx, hb, hml, hown, hts⟩ (c_X3_keys l dC dI cI cZ md y14 ybd yro yrow (upd ymk (Int32.toNatClampNeg r40) 1) yrm yst ypc ybu ybn ymg ysp yjn ymd ybg ymm yup yun F r46 h_46) (cwV 0 hts gX3_remove_X3_keys rfl rfl rfl kv_X3_keys ⟨Nat.le_of_ble_eq_true rfl, Nat.le_of_ble_eq_true rfl⟩) hK hP rfl rfl rfl rfl hl.1 rfl (Nat.le_of_ble_eq_true rfl) dX3_remove_46 ⟨Nat.zero_le _, Nat.zero_le _⟩ ?_
        cases o2 hm
        exact W.iret hx hb hr (fun t ht hW => ⟨⟨_, (), rfl, rfl, by rw [ht]; exact hP, va_K.moved hW.alike hK, hD⟩, hS.F ht⟩) hS.2.2 dX3_remove_49
    · have hm := it_f hm c_21
      refine lv_iconst (v := 0) hx hb dX3_remove_24 (by decide) ?_
      cases o2 hm
      exact W.iret hx hb hr (fun t ht hW => ⟨⟨_, (), rfl, rfl, by rw [ht]; exact hP, va_K.moved hW.alike hK, hD⟩, hS.F ht⟩) hS.2.2 dX3_remove_25
  refine lv_if_eq (tgt := 13) hx hb dX3_remove_6 (by decide) (fun c_6 => ?_) (fun c_6 => ?_)
  · refine lv_iconst (v := 1) hx hb dX3_remove_13 (by decide) ?_
    have e9 : y14 = 1 := by rw [e_y14, if_pos c_6]
    rw [e9] at J_14
    exact J_14
  · refine lv_iconst (v := 0) hx hb dX3_remove_9 (by decide) ?_
    refine lv_goto (tgt := 14) hx hb dX3_remove_10 (by decide) ?_
    have e9 : y14 = 0 := by rw [e_y14, if_neg c_6]
    rw [e9] at J_14
    exact J_14
set_option maxHeartbeats 4000000 in
set_option maxRecDepth 100000 in
theorem c_X3_merge (l : Launch) (dC : Nat → ClassId) (dI : Nat → Nat → Nat) (cI : ClassId) (cZ : ClassId) (md : Nat → Nat) (yth : Int32) (ybd : Int32) (yro : Int32) (yrow : Nat → Int32) (ymk : Nat → Int32) (yrm : Int32) (yst : Nat → Int32) (ypc : Int32) (ybu : Nat → Int32) (ybn : Int32) (ymg : Int32) (ysp : Int32) (yjn : Int32) (ymd : Nat → Int32) (ybg : Nat → Int32) (ymm : Int32) (yup : Int64) (yun : Int64) (F : Nat) (sz : Nat) (r : Int32) (u_yth : Int32) (u_yrow : Nat → Int32) (u_ymk : Nat → Int32) (u_yrm : Int32) (u_yst : Nat → Int32) (u_ypc : Int32) (u_ybn : Int32) (u_ymg : Int32) (u_ysp : Int32) (u_yjn : Int32) (u_ymd : Nat → Int32) (u_ybg : Nat → Int32) (u_ymm : Int32) (u_yup : Int64) (u_yun : Int64) (hm : X3_merge F yth ybd yrow ymk yrm yst ypc ybu ybn ymg ysp yjn ymd ybg ymm yup yun = some (r, u_yth, u_yrow, u_ymk, u_yrm, u_yst, u_ypc, u_ybn, u_ymg, u_ysp, u_yjn, u_ymd, u_ybg, u_ymm, u_yup, u_yun)) : Met l yX3_merge wsX3_merge ({ frames := 3, cells := 0, slots := 0, locals := 81 }) (va_Pc [.ref (md 0)] (zW (dC, dI) (wM cI cZ md yth ybd yro yrow ymk yrm yst ypc ybu ybn ymg ysp yjn ymd ybg ymm yup yun) [(cI, .int), (cZ, .boolean)] sz)) (zQi (dC, dI) (wM cI cZ md u_yth ybd yro u_yrow u_ymk u_yrm u_yst u_ypc ybu u_ybn u_ymg u_ysp u_yjn u_ymd u_ybg u_ymm u_yup u_yun) [(cI, .int), (cZ, .boolean)] (va_A (wM cI cZ md yth ybd yro yrow ymk yrm yst ypc ybu ybn ymg ysp yjn ymd ybg ymm yup yun) sz) r) 0 0 (va_A (wM cI cZ md yth ybd yro yrow ymk yrm yst ypc ybu ybn ymg ysp yjn ymd ybg ymm yup yun) sz) := by
  refine Met.ofW (cc := cX3_merge) (maxL := 1) (ret := (some .int)) (by decide) rfl ?_
  intro p e s m args below meth c s₁ B hml hv
  obtain ⟨rfl, hsz, hP, hK, hD0⟩ := hv
  have hx := B.exec
  have hb := B.bytes
  have hr := B.returns
  have hts := atoms_spec (ws := wsX3_merge) B.pre
  have hown : s.vm.findClass RX3 = some m.cls := findClass_of_methodNamed B.named
  have hlocks := B.notSynchronized
  subst hsz
  have hD := hD0.self (sz := s.heap.size)
  generalize hAe : va_A (wM cI cZ md yth ybd yro yrow ymk yrm yst ypc ybu ybn ymg ysp yjn ymd ybg ymm yup yun) s.heap.size = A at hD ⊢
  have hA : ∀ q : Nat, s.heap.size ≤ q → A q := fun q h => by rw [← hAe]; exact Or.inr h
  have hS : va_S A s.heap s.heap [] := va_S.rf
  generalize eL : ([] : List Loc) = locs at hS ⊢
  obtain ⟨H, eH⟩ : ∃ z : Heap, z = s.heap := ⟨_, rfl⟩
  have hP : va_P (dC, dI) vwCl (wM cI cZ md yth ybd yro yrow ymk yrm yst ypc ybu ybn ymg ysp yjn ymd ybg ymm yup yun) H := by rw [eH]; exact hP
  have hS : va_S A s.heap H locs := by rw [eH]; exact hS
  refine z_heap eH ?_
  have hl := lv_entry ([.ref (md 0)]) (n := 1) (Nat.le_of_ble_eq_true rfl)
  rw [lg_entry_eq]
  generalize (lg_sl ([.ref (md 0)]) ++ List.replicate (1 - (lg_sl ([.ref (md 0)])).length) Slot.unset).toArray = ls at hl ⊢
  have hl : lv_has ls 1 [(0, .ref (md 0))] := hl
  have zw0 := hts (.fieldLink RX3 36 "LearnedLedgeModel" "thrown" "I") (List.mem_cons_of_mem _ (List.mem_append_left _ (List.mem_append_left _ (List.mem_of_getElem? (i := 0) rfl))))
  have zw1 := hts (.fieldLink RX3 48 "LearnedLedgeModel" "pieces" "I") (List.mem_cons_of_mem _ (List.mem_append_left _ (List.mem_append_left _ (List.mem_of_getElem? (i := 1) rfl))))
  have ziX3 : ∀ w ∈ u_ws RX3 TX3 18, w ∈ wsX3_merge := (fun _ h9 => (List.mem_cons_of_mem _ (List.mem_append_right _ h9)))
  refine lv_aload_n hx hb dX3_merge_0 rfl (lv_at hl 0 rfl) ?_
  refine lv_iconst (v := 0) hx hb dX3_merge_1 (by decide) ?_
  refine va_put (D := (dC, dI)) (ci := 3) (v := .int 0) (ty := .int) (C := RX3) (T := TX3) (N := 18) hx hb hts ziX3 tyX3 tyX3_ok nmX3 hown hK hP hD hS 0 rfl rfl 0 (by decide) zw0 (fun _ h9 => h9) rfl (by decide +kernel) rfl rfl (Nat.le_of_ble_eq_true rfl) dX3_merge_2 (fun H locs hP hD hS => ?_)
  have hP : va_P (dC, dI) vwCl (wM cI cZ md 0 ybd yro yrow ymk yrm yst ypc ybu ybn ymg ysp yjn ymd ybg ymm yup yun) H := hP
  have hD : va_D A (wM cI cZ md 0 ybd yro yrow ymk yrm yst ypc ybu ybn ymg ysp yjn ymd ybg ymm yup yun) := hD
  refine lv_aload_n hx hb dX3_merge_5 rfl (lv_at hl 0 rfl) ?_
  obtain ⟨⟨yrow6, ymk6, yrm6, yst6, ypc6, ybn6, ymg6, ysp6, yjn6, ymd6, ybg6, ymm6, yup6, yun6⟩, h_6, hm⟩ := ob hm
  refine z_callWv (wc := (wM cI cZ md 0 ybd yro yrow ymk yrm yst ypc ybu ybn ymg ysp yjn ymd ybg ymm yup yun)) (w1 := (wM cI cZ md 0 ybd yro yrow6 ymk6 yrm6 yst6 ypc6 ybu ybn6 ymg6 ysp6 yjn6 ymd6 ybg6 ymm6 yup6 yun6)) (ws := (wM cI cZ md 0 ybd yro yrow ymk yrm yst ypc ybu ybn ymg ysp yjn ymd ybg ymm yup yun)) (ws' := (wM cI cZ md 0 ybd yro yrow6 ymk6 yrm6 yst6 ypc6 ybu ybn6 ymg6 ysp6 yjn6 ymd6 ybg6 ymm6 yup6 yun6)) (As := []) (rest := []) (ci := 3) (q := (RX3, TX3, 18)) ⟨hx, hb, hml, hown, hts⟩ (c_X3_mergesAll l dC dI cI cZ md 0 ybd yro yrow ymk yrm yst ypc ybu ybn ymg ysp yjn ymd ybg ymm yup yun F H.size yrow6 ymk6 yrm6 yst6 ypc6 ybn6 ymg6 ysp6 yjn6 ymd6 ybg6 ymm6 yup6 yun6 h_6) (cwV 0 hts gX3_merge_X3_mergesAll rfl rfl rfl kv_X3_mergesAll ⟨Nat.le_of_ble_eq_true rfl, Nat.le_of_ble_eq_true rfl⟩) hK hP hD hS hA (z_spAll (wM cI cZ md 0 ybd yro yrow ymk yrm yst ypc ybu ybn ymg ysp yjn ymd ybg ymm yup yun) (wM cI cZ md 0 ybd yro yrow6 ymk6 yrm6 yst6 ypc6 ybu ybn6 ymg6 ysp6 yjn6 ymd6 ybg6 ymm6 yup6 yun6)) ((paM cI cZ md 0 ybd yro yrow6 ymk6 yrm6 yst6 ypc6 ybu ybn6 ymg6 ysp6 yjn6 ymd6 ybg6 ymm6 yup6 yun6).trans (paM cI cZ md 0 ybd yro yrow ymk yrm yst ypc ybu ybn ymg ysp yjn ymd ybg ymm yup yun).symm) rfl rfl rfl rfl hl.1 rfl (Nat.le_of_ble_eq_true rfl) dX3_merge_6 ⟨Nat.zero_le _, Nat.zero_le _⟩ (fun H locs hP hD hS => ?_)
  refine lv_aload_n hx hb dX3_merge_9 rfl (lv_at hl 0 rfl) ?_
  refine va_get (D := (dC, dI)) (ci := 3) (v := .int ypc6) (C := RX3) (T := TX3) (N := 18) hx hb hts ziX3 hown hK hP 0 rfl rfl 7 (by decide) zw1 (fun _ h9 => h9) rfl dX3_merge_10 ?_
  cases o2 hm
  exact W.iret hx hb hr (fun t ht hW => ⟨⟨_, (), rfl, rfl, by rw [ht]; exact hP, va_K.moved hW.alike hK, hD⟩, hS.F ht⟩) hS.2.2 dX3_merge_13
