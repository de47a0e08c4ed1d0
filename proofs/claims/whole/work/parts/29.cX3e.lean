set_option maxHeartbeats 4000000 in
set_option maxRecDepth 100000 in
theorem c_X3_gathers (l : Launch) (dC : Nat → ClassId) (dI : Nat → Nat → Nat) (cI : ClassId) (cZ : ClassId) (md : Nat → Nat) (yth : Int32) (ybd : Int32) (yro : Int32) (yrow : Nat → Int32) (ymk : Nat → Int32) (yrm : Int32) (yst : Nat → Int32) (ypc : Int32) (ybu : Nat → Int32) (ybn : Int32) (ymg : Int32) (ysp : Int32) (yjn : Int32) (ymd : Nat → Int32) (ybg : Nat → Int32) (ymm : Int32) (yup : Int64) (yun : Int64) (F : Nat) (p1 : Int32) (sz : Nat) (r : Int32) (u_ymd : Nat → Int32) (u_ymm : Int32) (hm : X3_gathers F yrow ymk yrm yst ypc ybu ybn ymd ymm p1 = some (r, u_ymd, u_ymm)) : Met l yX3_gathers wsX3_gathers ({ frames := 1, cells := 0, slots := 0, locals := 23 }) (va_Pc [.ref (md 0), .int p1] (zW (dC, dI) (wM cI cZ md yth ybd yro yrow ymk yrm yst ypc ybu ybn ymg ysp yjn ymd ybg ymm yup yun) [(cI, .int), (cZ, .boolean)] sz)) (zQi (dC, dI) (wM cI cZ md yth ybd yro yrow ymk yrm yst ypc ybu ybn ymg ysp yjn u_ymd ybg u_ymm yup yun) [(cI, .int), (cZ, .boolean)] (va_A (wM cI cZ md yth ybd yro yrow ymk yrm yst ypc ybu ybn ymg ysp yjn ymd ybg ymm yup yun) sz) r) 0 0 (va_A (wM cI cZ md yth ybd yro yrow ymk yrm yst ypc ybu ybn ymg ysp yjn ymd ybg ymm yup yun) sz) := by
  refine Met.ofW (cc := cX3_gathers) (maxL := 5) (ret := (some .boolean)) (by decide) rfl ?_
  intro p e s m args below meth c s₁ B hml hv
  obtain ⟨rfl, hsz, hP, hK, hD0⟩ := hv
  have hx := B.exec
  have hb := B.bytes
  have hr := B.returns
  have hts := atoms_spec (ws := wsX3_gathers) B.pre
  have hown : s.vm.findClass RX3 = some m.cls := findClass_of_methodNamed B.named
  have hlocks := B.notSynchronized
  subst hsz
  have hD := hD0.self (sz := s.heap.size)
  generalize hAe : va_A (wM cI cZ md yth ybd yro yrow ymk yrm yst ypc ybu ybn ymg ysp yjn ymd ybg ymm yup yun) s.heap.size = A at hD ⊢
  have hA : ∀ q : Nat, s.heap.size ≤ q → A q := fun q h => by rw [← hAe]; exact Or.inr h
  have hS : va_S A s.heap s.heap [] := va_S.rf
  generalize eL : ([] : List Loc) = locs at hS ⊢
  obtain ⟨H, eH⟩ : ∃ z : Heap, z = s.heap := ⟨_, rfl⟩
  have hP : va_P (dC, dI) vwCl (wM cI cZ md yth ybd yro yrow ymk yrm yst ypc ybu ybn ymg ysp yjn ymd ybg ymm yup yun) H := by rw [eH]; exact hP
  have hS : va_S A s.heap H locs := by rw [eH]; exact hS
  refine z_heap eH ?_
  have hl := lv_entry ([.ref (md 0), .int p1]) (n := 5) (Nat.le_of_ble_eq_true rfl)
  rw [lg_entry_eq]
  generalize (lg_sl ([.ref (md 0), .int p1]) ++ List.replicate (5 - (lg_sl ([.ref (md 0), .int p1])).length) Slot.unset).toArray = ls at hl ⊢
  have hl : lv_has ls 5 [(0, .ref (md 0)), (1, .int p1)] := hl
  have zw0 := hts (.fieldLink RX3 24 "LearnedLedgeModel" "start" "[I") (List.mem_cons_of_mem _ (List.mem_append_left _ (List.mem_of_getElem? (i := 0) rfl)))
  have zw1 := hts (.fieldLink RX3 20 "LearnedLedgeModel" "isMarked" "[Z") (List.mem_cons_of_mem _ (List.mem_append_left _ (List.mem_of_getElem? (i := 1) rfl)))
  have zw2 := hts (.fieldLink RX3 16 "LearnedLedgeModel" "row" "[I") (List.mem_cons_of_mem _ (List.mem_append_left _ (List.mem_of_getElem? (i := 2) rfl)))
  have zw3 := hts (.fieldLink RX3 69 "LearnedLedgeModel" "buffered" "I") (List.mem_cons_of_mem _ (List.mem_append_left _ (List.mem_of_getElem? (i := 3) rfl)))
  have zw4 := hts (.fieldLink RX3 27 "LearnedLedgeModel" "buffer" "[I") (List.mem_cons_of_mem _ (List.mem_append_left _ (List.mem_of_getElem? (i := 4) rfl)))
  have ziX3 : ∀ w ∈ u_ws RX3 TX3 18, w ∈ wsX3_gathers := (fun _ h9 => (List.mem_cons_of_mem _ (List.mem_append_right _ h9)))
  refine lv_iconst (v := 0) hx hb dX3_gathers_0 (by decide) ?_
  refine lv_istore_n (lv' := [(2, .int 0), (0, .ref (md 0)), (1, .int p1)]) hx hb dX3_gathers_1 rfl hl (by decide) rfl (fun ls hl => ?_)
  refine lv_aload_n hx hb dX3_gathers_2 rfl (lv_at hl 1 rfl) ?_
  refine va_get (D := (dC, dI)) (ci := 3) (v := .ref (md 3)) (C := RX3) (T := TX3) (N := 18) hx hb hts ziX3 hown hK hP 0 rfl rfl 6 (by decide) zw0 (fun _ h9 => h9) rfl dX3_gathers_3 ?_
  refine lv_iload_n hx hb dX3_gathers_6 rfl (lv_at hl 2 rfl) ?_
  obtain ⟨c_7, hm⟩ := ck hm
  refine va_iald hx hb hK hP 3 0 rfl rfl c_7 dX3_gathers_7 ?_
  refine lv_topi (fun x3 e_x3 => ?_)
  have hm := bnd_e hm e_x3
  refine lv_istore_n (lv' := [(3, .int x3), (2, .int 0), (0, .ref (md 0)), (1, .int p1)]) hx hb dX3_gathers_8 rfl hl (by decide) rfl (fun ls hl => ?_)
  obtain ⟨z_9, hq_9, hm⟩ := ob hm
  have K_9 : ∀ (x2_1 : Int32), ∀ (ymdx9 : Nat → Int32), ∀ (ymmx9 : Int32), z_9 = (x2_1, ymdx9, ymmx9) → ∀ (H : Heap) (locs : List Loc), va_P (dC, dI) vwCl (wM cI cZ md yth ybd yro yrow ymk yrm yst ypc ybu ybn ymg ysp yjn ymdx9 ybg ymmx9 yup yun) H → va_D A (wM cI cZ md yth ybd yro yrow ymk yrm yst ypc ybu ybn ymg ysp yjn ymdx9 ybg ymmx9 yup yun) → va_S A s.heap H locs → ∀ (ls : Array Slot), lv_has ls 5 [(2, .int x2_1), (0, .ref (md 0)), (1, .int p1)] → W p l e (headSpec wsX3_gathers ({ frames := 1, cells := 0, slots := 0, locals := 23 } : Room)).room s m ([.ref (md 0), .int p1] : List Value).toArray below meth c H locs 0 0 (MQ below (zQi (dC, dI) (wM cI cZ md yth ybd yro yrow ymk yrm yst ypc ybu ybn ymg ysp yjn u_ymd ybg u_ymm yup yun) [(cI, .int), (cZ, .boolean)] A r) ([.ref (md 0), .int p1] : List Value).toArray s 0 0 A) (F0 m 48 ls []) := by
    intro x2_1 ymdx9 ymmx9 ez H locs hP hD hS ls hl
    rw [ez] at hm
    refine lv_iconst (v := 0) hx hb dX3_gathers_48 (by decide) ?_
    refine lv_istore_n (lv' := [(3, .int 0), (2, .int x2_1), (0, .ref (md 0)), (1, .int p1)]) hx hb dX3_gathers_49 rfl hl (by decide) rfl (fun ls hl => ?_)
    obtain ⟨z_50, hq_50, hm⟩ := ob hm
    have K_50 : ∀ (x2_3 : Int32), ∀ (ymdx50 : Nat → Int32), ∀ (ymmx50 : Int32), z_50 = (x2_3, ymdx50, ymmx50) → ∀ (H : Heap) (locs : List Loc), va_P (dC, dI) vwCl (wM cI cZ md yth ybd yro yrow ymk yrm yst ypc ybu ybn ymg ysp yjn ymdx50 ybg ymmx50 yup yun) H → va_D A (wM cI cZ md yth ybd yro yrow ymk yrm yst ypc ybu ybn ymg ysp yjn ymdx50 ybg ymmx50 yup yun) → va_S A s.heap H locs → ∀ (ls : Array Slot), lv_has ls 5 [(2, .int x2_3)] → W p l e (headSpec wsX3_gathers ({ frames := 1, cells := 0, slots := 0, locals := 23 } : Room)).room s m ([.ref (md 0), .int p1] : List Value).toArray below meth c H locs 0 0 (MQ below (zQi (dC, dI) (wM cI cZ md yth ybd yro yrow ymk yrm yst ypc ybu ybn ymg ysp yjn u_ymd ybg u_ymm yup yun) [(cI, .int), (cZ, .boolean)] A r) ([.ref (md 0), .int p1] : List Value).toArray s 0 0 A) (F0 m 104 ls []) := by
      intro x2_3 ymdx50 ymmx50 ez H locs hP hD hS ls hl
      rw [ez] at hm
      refine lv_iload_n hx hb dX3_gathers_104 rfl (lv_at hl 0 rfl) ?_
      obtain ⟨c_105, hm⟩ := ck hm
      cases o2 hm
      exact W.zret hx hb hr (nar_b c_105) (fun t ht hW => ⟨⟨_, (), rfl, rfl, by rw [ht]; exact hP, va_K.moved hW.alike hK, hD⟩, hS.F ht⟩) hS.2.2 dX3_gathers_105
    have L_50 : ∀ (n : Nat) (x3_4 : Int32) (x2_2 : Int32) (ymdl50 : Nat → Int32) (ymml50 : Int32), X3_gathers_L50 p1 yrow yst ypc ybu ybn F n x3_4 x2_2 ymdl50 ymml50 = some z_50 → ∀ (H : Heap) (locs : List Loc), va_P (dC, dI) vwCl (wM cI cZ md yth ybd yro yrow ymk yrm yst ypc ybu ybn ymg ysp yjn ymdl50 ybg ymml50 yup yun) H → va_D A (wM cI cZ md yth ybd yro yrow ymk yrm yst ypc ybu ybn ymg ysp yjn ymdl50 ybg ymml50 yup yun) → va_S A s.heap H locs → ∀ (ls : Array Slot), lv_has ls 5 [(3, .int x3_4), (2, .int x2_2), (0, .ref (md 0)), (1, .int p1)] → W p l e (headSpec wsX3_gathers ({ frames := 1, cells := 0, slots := 0, locals := 23 } : Room)).room s m ([.ref (md 0), .int p1] : List Value).toArray below meth c H locs 0 0 (MQ below (zQi (dC, dI) (wM cI cZ md yth ybd yro yrow ymk yrm yst ypc ybu ybn ymg ysp yjn u_ymd ybg u_ymm yup yun) [(cI, .int), (cZ, .boolean)] A r) ([.ref (md 0), .int p1] : List Value).toArray s 0 0 A) (F0 m 50 ls []) := by
      intro n
      induction n with
      | zero => intro x3_4 x2_2 ymdl50 ymml50 hm; cases hm
      | succ n ih_50 =>
        intro x3_4 x2_2 ymdl50 ymml50 hm H locs hP hD hS ls hl
        refine lv_iload_n hx hb dX3_gathers_50 rfl (lv_at hl 0 rfl) ?_
        refine lv_aload_n hx hb dX3_gathers_51 rfl (lv_at hl 2 rfl) ?_
        refine va_get (D := (dC, dI)) (ci := 3) (v := .int ybn) (C := RX3) (T := TX3) (N := 18) hx hb hts ziX3 hown hK hP 0 rfl rfl 9 (by decide) zw3 (fun _ h9 => h9) rfl dX3_gathers_52 ?_
        refine lv_icmp_ge (tgt := 104) hx hb dX3_gathers_55 (by decide) (fun c_55 => ?_) (fun c_55 => ?_)
        · have hm := it_t hm c_55
          exact K_50 x2_2 ymdl50 ymml50 (o2 hm) _ _ hP hD hS _ (lv_sub hl [1] rfl)
        · have hm := it_f hm c_55
          refine lv_aload_n hx hb dX3_gathers_58 rfl (lv_at hl 2 rfl) ?_
          refine lv_aload_n hx hb dX3_gathers_59 rfl (lv_at hl 2 rfl) ?_
          refine va_get (D := (dC, dI)) (ci := 3) (v := .ref (md 4)) (C := RX3) (T := TX3) (N := 18) hx hb hts ziX3 hown hK hP 0 rfl rfl 8 (by decide) zw4 (fun _ h9 => h9) rfl dX3_gathers_60 ?_
          refine lv_iload_n hx hb dX3_gathers_63 rfl (lv_at hl 0 rfl) ?_
          obtain ⟨c_64, hm⟩ := ck hm
          refine va_iald hx hb hK hP 4 0 rfl rfl c_64 dX3_gathers_64 ?_
          obtain ⟨r65, h_65, hm⟩ := ob hm
          refine z_callRi (As := [.int (ybu (Int32.toNatClampNeg x3_4))]) (rest := []) (ci := 3) (q := (RX3, TX3, 18)) ⟨hx, hb, hml, hown, hts⟩ (c_X3_pieceOf l dC dI cI cZ md yth ybd yro yrow ymk yrm yst ypc ybu ybn ymg ysp yjn ymdl50 ybg ymml50 yup yun F (ybu (Int32.toNatClampNeg x3_4)) r65 h_65) (cwV 1 hts gX3_gathers_X3_pieceOf rfl rfl rfl kv_X3_pieceOf ⟨Nat.le_of_ble_eq_true rfl, Nat.le_of_ble_eq_true rfl⟩) hK hP rfl rfl rfl rfl hl.1 rfl (Nat.le_of_ble_eq_true rfl) dX3_gathers_65 ⟨Nat.zero_le _, Nat.zero_le _⟩ ?_
          refine lv_istore (lv' := [(4, .int r65), (3, .int x3_4), (2, .int x2_2), (0, .ref (md 0)), (1, .int p1)]) hx hb dX3_gathers_68 hl (by decide) rfl (fun ls hl => ?_)
          refine lv_iload hx hb dX3_gathers_70 (lv_at hl 0 rfl) ?_
          refine lv_iload_n hx hb dX3_gathers_72 rfl (lv_at hl 4 rfl) ?_
          refine lv_icmp_eq (tgt := 86) hx hb dX3_gathers_73 (by decide) (fun c_73 => ?_) (fun c_73 => ?_)
          · have hm := it_t hm c_73
            refine lv_aload_n hx hb dX3_gathers_86 rfl (lv_at hl 3 rfl) ?_
            refine lv_aload_n hx hb dX3_gathers_87 rfl (lv_at hl 3 rfl) ?_
            refine va_get (D := (dC, dI)) (ci := 3) (v := .ref (md 4)) (C := RX3) (T := TX3) (N := 18) hx hb hts ziX3 hown hK hP 0 rfl rfl 8 (by decide) zw4 (fun _ h9 => h9) rfl dX3_gathers_88 ?_
            refine lv_iload_n hx hb dX3_gathers_91 rfl (lv_at hl 1 rfl) ?_
            obtain ⟨c_92, hm⟩ := ck hm
            refine va_iald hx hb hK hP 4 0 rfl rfl c_92 dX3_gathers_92 ?_
            obtain ⟨⟨ymd93, ymm93⟩, h_93, hm⟩ := ob hm
            refine z_callWv (wc := (wM cI cZ md yth ybd yro yrow ymk yrm yst ypc ybu ybn ymg ysp yjn ymdl50 ybg ymml50 yup yun)) (w1 := (wM cI cZ md yth ybd yro yrow ymk yrm yst ypc ybu ybn ymg ysp yjn ymd93 ybg ymm93 yup yun)) (ws := (wM cI cZ md yth ybd yro yrow ymk yrm yst ypc ybu ybn ymg ysp yjn ymdl50 ybg ymml50 yup yun)) (ws' := (wM cI cZ md yth ybd yro yrow ymk yrm yst ypc ybu ybn ymg ysp yjn ymd93 ybg ymm93 yup yun)) (As := [.int (ybu (Int32.toNatClampNeg x3_4))]) (rest := []) (ci := 3) (q := (RX3, TX3, 18)) ⟨hx, hb, hml, hown, hts⟩ (c_X3_makes l dC dI cI cZ md yth ybd yro yrow ymk yrm yst ypc ybu ybn ymg ysp yjn ymdl50 ybg ymml50 yup yun F (ybu (Int32.toNatClampNeg x3_4)) H.size ymd93 ymm93 h_93) (cwV 1 hts gX3_gathers_X3_makes rfl rfl rfl kv_X3_makes ⟨Nat.le_of_ble_eq_true rfl, Nat.le_of_ble_eq_true rfl⟩) hK hP hD hS hA (z_spAll (wM cI cZ md yth ybd yro yrow ymk yrm yst ypc ybu ybn ymg ysp yjn ymdl50 ybg ymml50 yup yun) (wM cI cZ md yth ybd yro yrow ymk yrm yst ypc ybu ybn ymg ysp yjn ymd93 ybg ymm93 yup yun)) ((paM cI cZ md yth ybd yro yrow ymk yrm yst ypc ybu ybn ymg ysp yjn ymd93 ybg ymm93 yup yun).trans (paM cI cZ md yth ybd yro yrow ymk yrm yst ypc ybu ybn ymg ysp yjn ymdl50 ybg ymml50 yup yun).symm) rfl rfl rfl rfl hl.1 rfl (Nat.le_of_ble_eq_true rfl) dX3_gathers_93 ⟨Nat.zero_le _, Nat.zero_le _⟩ (fun H locs hP hD hS => ?_)
            refine lv_iconst (v := 1) hx hb dX3_gathers_96 (by decide) ?_
            refine lv_istore_n (lv' := [(2, .int 1), (4, .int r65), (3, .int x3_4), (0, .ref (md 0)), (1, .int p1)]) hx hb dX3_gathers_97 rfl hl (by decide) rfl (fun ls hl => ?_)
            obtain ⟨x3_5, e_x3_5⟩ : ∃ y : Int32, y = x3_4 + 1 := ⟨_, rfl⟩
            have hm := bnd_e hm e_x3_5
            refine lv_iinc (v := x3_5) (lv' := [(3, .int x3_5), (2, .int 1), (4, .int r65), (0, .ref (md 0)), (1, .int p1)]) hx hb dX3_gathers_98 hl (k := 2) rfl (by rw [e_x3_5]; rfl) (by decide) rfl (fun ls hl => ?_)
            refine lv_goto (tgt := 50) hx hb dX3_gathers_101 (by decide) ?_
            exact ih_50 x3_5 1 ymd93 ymm93 hm _ _ hP hD hS _ (lv_sub hl [0, 1, 3, 4] rfl)
          · have hm := it_f hm c_73
            refine lv_iload hx hb dX3_gathers_76 (lv_at hl 0 rfl) ?_
            refine lv_iconst (v := (-1)) hx hb dX3_gathers_78 (by decide) ?_
            refine lv_icmp_ne (tgt := 98) hx hb dX3_gathers_79 (by decide) (fun c_79 => ?_) (fun c_79 => ?_)
            · have hm := it_f hm c_79
              obtain ⟨x3_6, e_x3_6⟩ : ∃ y : Int32, y = x3_4 + 1 := ⟨_, rfl⟩
              have hm := bnd_e hm e_x3_6
              refine lv_iinc (v := x3_6) (lv' := [(3, .int x3_6), (4, .int r65), (2, .int x2_2), (0, .ref (md 0)), (1, .int p1)]) hx hb dX3_gathers_98 hl (k := 1) rfl (by rw [e_x3_6]; rfl) (by decide) rfl (fun ls hl => ?_)
              refine lv_goto (tgt := 50) hx hb dX3_gathers_101 (by decide) ?_
              exact ih_50 x3_6 x2_2 ymdl50 ymml50 hm _ _ hP hD hS _ (lv_sub hl [0, 2, 3, 4] rfl)
            · have hm := it_t hm c_79
              refine lv_iload_n hx hb dX3_gathers_82 rfl (lv_at hl 4 rfl) ?_
              refine lv_if_ne (tgt := 98) hx hb dX3_gathers_83 (by decide) (fun c_83 => ?_) (fun c_83 => ?_)
              · have hm := it_f hm c_83
                obtain ⟨x3_7, e_x3_7⟩ : ∃ y : Int32, y = x3_4 + 1 := ⟨_, rfl⟩
                have hm := bnd_e hm e_x3_7
                refine lv_iinc (v := x3_7) (lv' := [(3, .int x3_7), (4, .int r65), (2, .int x2_2), (0, .ref (md 0)), (1, .int p1)]) hx hb dX3_gathers_98 hl (k := 1) rfl (by rw [e_x3_7]; rfl) (by decide) rfl (fun ls hl => ?_)
                refine lv_goto (tgt := 50) hx hb dX3_gathers_101 (by decide) ?_
                exact ih_50 x3_7 x2_2 ymdl50 ymml50 hm _ _ hP hD hS _ (lv_sub hl [0, 2, 3, 4] rfl)
              · have hm := it_t hm c_83
                refine lv_aload_n hx hb dX3_gathers_86 rfl (lv_at hl 3 rfl) ?_
                refine lv_aload_n hx hb dX3_gathers_87 rfl (lv_at hl 3 rfl) ?_
                refine va_get (D := (dC, dI)) (ci := 3) (v := .ref (md 4)) (C := RX3) (T := TX3) (N := 18) hx hb hts ziX3 hown hK hP 0 rfl rfl 8 (by decide) zw4 (fun _ h9 => h9) rfl dX3_gathers_88 ?_
                refine lv_iload_n hx hb dX3_gathers_91 rfl (lv_at hl 1 rfl) ?_
                obtain ⟨c_92, hm⟩ := ck hm
                refine va_iald hx hb hK hP 4 0 rfl rfl c_92 dX3_gathers_92 ?_
                obtain ⟨⟨ymd93_1, ymm93_1⟩, h_93, hm⟩ := ob hm
                refine z_callWv (wc := (wM cI cZ md yth ybd yro yrow ymk yrm yst ypc ybu ybn ymg ysp yjn ymdl50 ybg ymml50 yup yun)) (w1 := (wM cI cZ md yth ybd yro yrow ymk yrm yst ypc ybu ybn ymg ysp yjn ymd93_1 ybg ymm93_1 yup yun)) (ws := (wM cI cZ md yth ybd yro yrow ymk yrm yst ypc ybu ybn ymg ysp yjn ymdl50 ybg ymml50 yup yun)) (ws' := (wM cI cZ md yth ybd yro yrow ymk yrm yst ypc ybu ybn ymg ysp yjn ymd93_1 ybg ymm93_1 yup yun)) (As := [.int (ybu (Int32.toNatClampNeg x3_4))]) (rest := []) (ci := 3) (q := (RX3, TX3, 18)) ⟨hx, hb, hml, hown, hts⟩ (c_X3_makes l dC dI cI cZ md yth ybd yro yrow ymk yrm yst ypc ybu ybn ymg ysp yjn ymdl50 ybg ymml50 yup yun F (ybu (Int32.toNatClampNeg x3_4)) H.size ymd93_1 ymm93_1 h_93) (cwV 1 hts gX3_gathers_X3_makes rfl rfl rfl kv_X3_makes ⟨Nat.le_of_ble_eq_true rfl, Nat.le_of_ble_eq_true rfl⟩) hK hP hD hS hA (z_spAll (wM cI cZ md yth ybd yro yrow ymk yrm yst ypc ybu ybn ymg ysp yjn ymdl50 ybg ymml50 yup yun) (wM cI cZ md yth ybd yro yrow ymk yrm yst ypc ybu ybn ymg ysp yjn ymd93_1 ybg ymm93_1 yup yun)) ((paM cI cZ md yth ybd yro yrow ymk yrm yst ypc ybu ybn ymg ysp yjn ymd93_1 ybg ymm93_1 yup yun).trans (paM cI cZ md yth ybd yro yrow ymk yrm yst ypc ybu ybn ymg ysp yjn ymdl50 ybg ymml50 yup yun).symm) rfl rfl rfl rfl hl.1 rfl (Nat.le_of_ble_eq_true rfl) dX3_gathers_93 ⟨Nat.zero_le _, Nat.zero_le _⟩ (fun H locs hP hD hS => ?_)
                refine lv_iconst (v := 1) hx hb dX3_gathers_96 (by decide) ?_
                refine lv_istore_n (lv' := [(2, .int 1), (4, .int r65), (3, .int x3_4), (0, .ref (md 0)), (1, .int p1)]) hx hb dX3_gathers_97 rfl hl (by decide) rfl (fun ls hl => ?_)
                obtain ⟨x3_8, e_x3_8⟩ : ∃ y : Int32, y = x3_4 + 1 := ⟨_, rfl⟩
                have hm := bnd_e hm e_x3_8
                refine lv_iinc (v := x3_8) (lv' := [(3, .int x3_8), (2, .int 1), (4, .int r65), (0, .ref (md 0)), (1, .int p1)]) hx hb dX3_gathers_98 hl (k := 2) rfl (by rw [e_x3_8]; rfl) (by decide) rfl (fun ls hl => ?_)
                refine lv_goto (tgt := 50) hx hb dX3_gathers_101 (by decide) ?_
                exact ih_50 x3_8 1 ymd93_1 ymm93_1 hm _ _ hP hD hS _ (lv_sub hl [0, 1, 3, 4] rfl)
    exact L_50 F 0 x2_1 ymdx9 ymmx9 hq_50 _ _ hP hD hS _ (lv_sub hl [0, 1, 2, 3] rfl)
  have L_9 : ∀ (n : Nat) (x3_1 : Int32) (x2 : Int32) (ymdl9 : Nat → Int32) (ymml9 : Int32), X3_gathers_L9 p1 yrow ymk yrm yst ypc F n x3_1 x2 ymdl9 ymml9 = some z_9 → ∀ (H : Heap) (locs : List Loc), va_P (dC, dI) vwCl (wM cI cZ md yth ybd yro yrow ymk yrm yst ypc ybu ybn ymg ysp yjn ymdl9 ybg ymml9 yup yun) H → va_D A (wM cI cZ md yth ybd yro yrow ymk yrm yst ypc ybu ybn ymg ysp yjn ymdl9 ybg ymml9 yup yun) → va_S A s.heap H locs → ∀ (ls : Array Slot), lv_has ls 5 [(3, .int x3_1), (2, .int x2), (0, .ref (md 0)), (1, .int p1)] → W p l e (headSpec wsX3_gathers ({ frames := 1, cells := 0, slots := 0, locals := 23 } : Room)).room s m ([.ref (md 0), .int p1] : List Value).toArray below meth c H locs 0 0 (MQ below (zQi (dC, dI) (wM cI cZ md yth ybd yro yrow ymk yrm yst ypc ybu ybn ymg ysp yjn u_ymd ybg u_ymm yup yun) [(cI, .int), (cZ, .boolean)] A r) ([.ref (md 0), .int p1] : List Value).toArray s 0 0 A) (F0 m 9 ls []) := by
    intro n
    induction n with
    | zero => intro x3_1 x2 ymdl9 ymml9 hm; cases hm
    | succ n ih_9 =>
      intro x3_1 x2 ymdl9 ymml9 hm H locs hP hD hS ls hl
      refine lv_iload_n hx hb dX3_gathers_9 rfl (lv_at hl 0 rfl) ?_
      refine lv_aload_n hx hb dX3_gathers_10 rfl (lv_at hl 2 rfl) ?_
      refine lv_iload_n hx hb dX3_gathers_11 rfl (lv_at hl 3 rfl) ?_
      obtain ⟨r12, h_12, hm⟩ := ob hm
      refine z_callRi (As := [.int p1]) (rest := [.int x3_1]) (ci := 3) (q := (RX3, TX3, 18)) ⟨hx, hb, hml, hown, hts⟩ (c_X3_behind l dC dI cI cZ md yth ybd yro yrow ymk yrm yst ypc ybu ybn ymg ysp yjn ymdl9 ybg ymml9 yup yun F p1 r12 h_12) (cwV 1 hts gX3_gathers_X3_behind rfl rfl rfl kv_X3_behind ⟨Nat.le_of_ble_eq_true rfl, Nat.le_of_ble_eq_true rfl⟩) hK hP rfl rfl rfl rfl hl.1 rfl (Nat.le_of_ble_eq_true rfl) dX3_gathers_12 ⟨Nat.zero_le _, Nat.zero_le _⟩ ?_
      refine lv_icmp_ge (tgt := 48) hx hb dX3_gathers_15 (by decide) (fun c_15 => ?_) (fun c_15 => ?_)
      · have hm := it_t hm c_15
        exact K_9 x2 ymdl9 ymml9 (o2 hm) _ _ hP hD hS _ (lv_sub hl [1, 2, 3] rfl)
      · have hm := it_f hm c_15
        refine lv_aload_n hx hb dX3_gathers_18 rfl (lv_at hl 2 rfl) ?_
        refine va_get (D := (dC, dI)) (ci := 3) (v := .ref (md 2)) (C := RX3) (T := TX3) (N := 18) hx hb hts ziX3 hown hK hP 0 rfl rfl 4 (by decide) zw1 (fun _ h9 => h9) rfl dX3_gathers_19 ?_
        refine lv_iload_n hx hb dX3_gathers_22 rfl (lv_at hl 0 rfl) ?_
        obtain ⟨c_23, hm⟩ := ck hm
        refine va_zald hx hb hK hP 2 1 rfl rfl c_23 dX3_gathers_23 ?_
        refine lv_if_eq (tgt := 32) hx hb dX3_gathers_24 (by decide) (fun c_24 => ?_) (fun c_24 => ?_)
        · have hm := it_t hm c_24
          refine lv_aload_n hx hb dX3_gathers_32 rfl (lv_at hl 2 rfl) ?_
          refine lv_aload_n hx hb dX3_gathers_33 rfl (lv_at hl 2 rfl) ?_
          refine va_get (D := (dC, dI)) (ci := 3) (v := .ref (md 1)) (C := RX3) (T := TX3) (N := 18) hx hb hts ziX3 hown hK hP 0 rfl rfl 3 (by decide) zw2 (fun _ h9 => h9) rfl dX3_gathers_34 ?_
          refine lv_iload_n hx hb dX3_gathers_37 rfl (lv_at hl 0 rfl) ?_
          obtain ⟨c_38, hm⟩ := ck hm
          refine va_iald hx hb hK hP 1 0 rfl rfl c_38 dX3_gathers_38 ?_
          obtain ⟨⟨ymd39, ymm39⟩, h_39, hm⟩ := ob hm
          refine z_callWv (wc := (wM cI cZ md yth ybd yro yrow ymk yrm yst ypc ybu ybn ymg ysp yjn ymdl9 ybg ymml9 yup yun)) (w1 := (wM cI cZ md yth ybd yro yrow ymk yrm yst ypc ybu ybn ymg ysp yjn ymd39 ybg ymm39 yup yun)) (ws := (wM cI cZ md yth ybd yro yrow ymk yrm yst ypc ybu ybn ymg ysp yjn ymdl9 ybg ymml9 yup yun)) (ws' := (wM cI cZ md yth ybd yro yrow ymk yrm yst ypc ybu ybn ymg ysp yjn ymd39 ybg ymm39 yup yun)) (As := [.int (yrow (Int32.toNatClampNeg x3_1))]) (rest := []) (ci := 3) (q := (RX3, TX3, 18)) ⟨hx, hb, hml, hown, hts⟩ (c_X3_makes l dC dI cI cZ md yth ybd yro yrow ymk yrm yst ypc ybu ybn ymg ysp yjn ymdl9 ybg ymml9 yup yun F (yrow (Int32.toNatClampNeg x3_1)) H.size ymd39 ymm39 h_39) (cwV 1 hts gX3_gathers_X3_makes rfl rfl rfl kv_X3_makes ⟨Nat.le_of_ble_eq_true rfl, Nat.le_of_ble_eq_true rfl⟩) hK hP hD hS hA (z_spAll (wM cI cZ md yth ybd yro yrow ymk yrm yst ypc ybu ybn ymg ysp yjn ymdl9 ybg ymml9 yup yun) (wM cI cZ md yth ybd yro yrow ymk yrm yst ypc ybu ybn ymg ysp yjn ymd39 ybg ymm39 yup yun)) ((paM cI cZ md yth ybd yro yrow ymk yrm yst ypc ybu ybn ymg ysp yjn ymd39 ybg ymm39 yup yun).trans (paM cI cZ md yth ybd yro yrow ymk yrm yst ypc ybu ybn ymg ysp yjn ymdl9 ybg ymml9 yup yun).symm) rfl rfl rfl rfl hl.1 rfl (Nat.le_of_ble_eq_true rfl) dX3_gathers_39 ⟨Nat.zero_le _, Nat.zero_le _⟩ (fun H locs hP hD hS => ?_)
          obtain ⟨x3_2, e_x3_2⟩ : ∃ y : Int32, y = x3_1 + 1 := ⟨_, rfl⟩
          have hm := bnd_e hm e_x3_2
          refine lv_iinc (v := x3_2) (lv' := [(3, .int x3_2), (2, .int x2), (0, .ref (md 0)), (1, .int p1)]) hx hb dX3_gathers_42 hl (k := 0) rfl (by rw [e_x3_2]; rfl) (by decide) rfl (fun ls hl => ?_)
          refine lv_goto (tgt := 9) hx hb dX3_gathers_45 (by decide) ?_
          exact ih_9 x3_2 x2 ymd39 ymm39 hm _ _ hP hD hS _ (lv_sub hl [0, 1, 2, 3] rfl)
        · have hm := it_f hm c_24
          refine lv_iconst (v := 1) hx hb dX3_gathers_27 (by decide) ?_
          refine lv_istore_n (lv' := [(2, .int 1), (3, .int x3_1), (0, .ref (md 0)), (1, .int p1)]) hx hb dX3_gathers_28 rfl hl (by decide) rfl (fun ls hl => ?_)
          refine lv_goto (tgt := 42) hx hb dX3_gathers_29 (by decide) ?_
          obtain ⟨x3_3, e_x3_3⟩ : ∃ y : Int32, y = x3_1 + 1 := ⟨_, rfl⟩
          have hm := bnd_e hm e_x3_3
          refine lv_iinc (v := x3_3) (lv' := [(3, .int x3_3), (2, .int 1), (0, .ref (md 0)), (1, .int p1)]) hx hb dX3_gathers_42 hl (k := 1) rfl (by rw [e_x3_3]; rfl) (by decide) rfl (fun ls hl => ?_)
          refine lv_goto (tgt := 9) hx hb dX3_gathers_45 (by decide) ?_
          exact ih_9 x3_3 1 ymdl9 ymml9 hm _ _ hP hD hS _ (lv_sub hl [0, 1, 2, 3] rfl)
  exact L_9 F x3 0 ymd ymm hq_9 _ _ hP hD hS _ (lv_sub hl [0, 1, 2, 3] rfl)
