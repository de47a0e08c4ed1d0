set_option maxHeartbeats 4000000 in
set_option maxRecDepth 100000 in
theorem c_X2_mergeAll (l : Launch) (dC : Nat → ClassId) (dI : Nat → Nat → Nat) (cI : ClassId) (ad : Nat → Nat) (zk : zN) (zm : zN) (zb : zN) (zs : zN) (zr : zN) (zu : zN) (zt : zT) (zf : zN) (zg : zN) (zbd : Int32) (zro : Int32) (zmc : Int32) (zmg : Int32) (zsp : Int32) (zjn : Int32) (F : Nat) (sz : Nat) (u_zk : zN) (u_zm : zN) (u_zb : zN) (u_zs : zN) (u_zr : zN) (u_zu : zN) (u_zt : zT) (u_zf : zN) (u_zg : zN) (u_zmc : Int32) (u_zmg : Int32) (u_zsp : Int32) (u_zjn : Int32) (hm : X2_mergeAll F zk zm zb zs zr zu zt zf zg zbd zmc zmg zsp zjn = some (u_zk, u_zm, u_zb, u_zs, u_zr, u_zu, u_zt, u_zf, u_zg, u_zmc, u_zmg, u_zsp, u_zjn)) : Met l yX2_mergeAll wsX2_mergeAll ({ frames := 4, cells := 0, slots := 0, locals := 95 }) (va_Pc [.ref (ad 0)] (zW (dC, dI) (wL cI ad zk zm zb zs zr zu zt zf zg zbd zro zmc zmg zsp zjn) [(cI, .int)] sz)) (zQv (dC, dI) (wL cI ad u_zk u_zm u_zb u_zs u_zr u_zu u_zt u_zf u_zg zbd zro u_zmc u_zmg u_zsp u_zjn) [(cI, .int)] (va_A (wL cI ad zk zm zb zs zr zu zt zf zg zbd zro zmc zmg zsp zjn) sz)) 0 0 (va_A (wL cI ad zk zm zb zs zr zu zt zf zg zbd zro zmc zmg zsp zjn) sz) := by
  refine Met.ofW (cc := cX2_mergeAll) (maxL := 2) (ret := none) (by decide) rfl ?_
  intro p e s m args below meth c s₁ B hml hv
  obtain ⟨rfl, hsz, hP, hK, hD0⟩ := hv
  have hx := B.exec
  have hb := B.bytes
  have hr := B.returns
  have hts := atoms_spec (ws := wsX2_mergeAll) B.pre
  have hown : s.vm.findClass RX2 = some m.cls := findClass_of_methodNamed B.named
  have hlocks := B.notSynchronized
  subst hsz
  have hD := hD0.self (sz := s.heap.size)
  generalize hAe : va_A (wL cI ad zk zm zb zs zr zu zt zf zg zbd zro zmc zmg zsp zjn) s.heap.size = A at hD ⊢
  have hA : ∀ q : Nat, s.heap.size ≤ q → A q := fun q h => by rw [← hAe]; exact Or.inr h
  have hS : va_S A s.heap s.heap [] := va_S.rf
  generalize eL : ([] : List Loc) = locs at hS ⊢
  obtain ⟨H, eH⟩ : ∃ z : Heap, z = s.heap := ⟨_, rfl⟩
  have hP : va_P (dC, dI) vwCl (wL cI ad zk zm zb zs zr zu zt zf zg zbd zro zmc zmg zsp zjn) H := by rw [eH]; exact hP
  have hS : va_S A s.heap H locs := by rw [eH]; exact hS
  refine z_heap eH ?_
  have hl := lv_entry ([.ref (ad 0)]) (n := 2) (Nat.le_of_ble_eq_true rfl)
  rw [lg_entry_eq]
  generalize (lg_sl ([.ref (ad 0)]) ++ List.replicate (2 - (lg_sl ([.ref (ad 0)])).length) Slot.unset).toArray = ls at hl ⊢
  have hl : lv_has ls 2 [(0, .ref (ad 0))] := hl
  have zw0 := hts (.fieldLink RX2 40 "LearnedLedge" "freshKeys" "LLearnedLedge$Numbers;") (List.mem_cons_of_mem _ (List.mem_append_left _ (List.mem_append_left _ (List.mem_append_left _ (List.mem_append_left _ (List.mem_of_getElem? (i := 0) rfl))))))
  have zw1 := hts (.fieldLink RX2 43 "LearnedLedge" "freshStarts" "LLearnedLedge$Numbers;") (List.mem_cons_of_mem _ (List.mem_append_left _ (List.mem_append_left _ (List.mem_append_left _ (List.mem_append_left _ (List.mem_of_getElem? (i := 1) rfl))))))
  have zw2 := hts (.fieldLink RX2 24 "LearnedLedge" "starts" "LLearnedLedge$Numbers;") (List.mem_cons_of_mem _ (List.mem_append_left _ (List.mem_append_left _ (List.mem_append_left _ (List.mem_append_left _ (List.mem_of_getElem? (i := 2) rfl))))))
  have zw3 := hts (.fieldLink RX2 21 "LearnedLedge" "buffer" "LLearnedLedge$Numbers;") (List.mem_cons_of_mem _ (List.mem_append_left _ (List.mem_append_left _ (List.mem_append_left _ (List.mem_append_left _ (List.mem_of_getElem? (i := 3) rfl))))))
  have zw4 := hts (.fieldLink RX2 14 "LearnedLedge" "keys" "LLearnedLedge$Numbers;") (List.mem_cons_of_mem _ (List.mem_append_left _ (List.mem_append_left _ (List.mem_append_left _ (List.mem_append_left _ (List.mem_of_getElem? (i := 4) rfl))))))
  have zw5 := hts (.fieldLink RX2 18 "LearnedLedge" "marks" "LLearnedLedge$Numbers;") (List.mem_cons_of_mem _ (List.mem_append_left _ (List.mem_append_left _ (List.mem_append_left _ (List.mem_append_left _ (List.mem_of_getElem? (i := 5) rfl))))))
  have zw6 := hts (.fieldLink RX2 56 "LearnedLedge" "mergeCount" "I") (List.mem_cons_of_mem _ (List.mem_append_left _ (List.mem_append_left _ (List.mem_append_left _ (List.mem_append_left _ (List.mem_of_getElem? (i := 6) rfl))))))
  have ziX2 : ∀ w ∈ u_ws RX2 TX2 15, w ∈ wsX2_mergeAll := (fun _ h9 => (List.mem_cons_of_mem _ (List.mem_append_left _ (List.mem_append_left _ (List.mem_append_right _ h9)))))
  refine lv_aload_n hx hb dX2_mergeAll_0 rfl (lv_at hl 0 rfl) ?_
  refine va_get (D := (dC, dI)) (ci := 2) (v := .ref (ad 14)) (C := RX2) (T := TX2) (N := 15) hx hb hts ziX2 hown hK hP 0 rfl rfl 7 (by decide) zw0 (fun _ h9 => h9) rfl dX2_mergeAll_1 ?_
  obtain ⟨zf4, h_4, hm⟩ := ob hm
  refine z_callWv (wc := (wN cI (ad 14) (ad 15) 256 zf)) (w1 := (wN cI (ad 14) (ad 15) 256 zf4)) (ws := (wL cI ad zk zm zb zs zr zu zt zf zg zbd zro zmc zmg zsp zjn)) (ws' := (wL cI ad zk zm zb zs zr zu zt zf4 zg zbd zro zmc zmg zsp zjn)) (As := []) (rest := []) (ci := 0) (q := (RX0, TX0, 2)) ⟨hx, hb, hml, hown, hts⟩ (c_X0_clear l dC dI cI (ad 14) (ad 15) 256 zf F H.size zf4 h_4) (cwV 0 hts gX2_mergeAll_X0_clear rfl rfl rfl kv_X0_clear ⟨Nat.le_of_ble_eq_true rfl, Nat.le_of_ble_eq_true rfl⟩) hK hP hD hS hA (pjL_zf cI ad zk zm zb zs zr zu zt zf zg zbd zro zmc zmg zsp zjn zf4) ((paN cI (ad 14) (ad 15) 256 zf4).trans (paN cI (ad 14) (ad 15) 256 zf).symm) rfl rfl rfl rfl hl.1 rfl (Nat.le_of_ble_eq_true rfl) dX2_mergeAll_4 ⟨Nat.zero_le _, Nat.zero_le _⟩ (fun H locs hP hD hS => ?_)
  refine lv_aload_n hx hb dX2_mergeAll_7 rfl (lv_at hl 0 rfl) ?_
  refine va_get (D := (dC, dI)) (ci := 2) (v := .ref (ad 16)) (C := RX2) (T := TX2) (N := 15) hx hb hts ziX2 hown hK hP 0 rfl rfl 8 (by decide) zw1 (fun _ h9 => h9) rfl dX2_mergeAll_8 ?_
  obtain ⟨zg11, h_11, hm⟩ := ob hm
  refine z_callWv (wc := (wN cI (ad 16) (ad 17) 256 zg)) (w1 := (wN cI (ad 16) (ad 17) 256 zg11)) (ws := (wL cI ad zk zm zb zs zr zu zt zf4 zg zbd zro zmc zmg zsp zjn)) (ws' := (wL cI ad zk zm zb zs zr zu zt zf4 zg11 zbd zro zmc zmg zsp zjn)) (As := []) (rest := []) (ci := 0) (q := (RX0, TX0, 2)) ⟨hx, hb, hml, hown, hts⟩ (c_X0_clear l dC dI cI (ad 16) (ad 17) 256 zg F H.size zg11 h_11) (cwV 0 hts gX2_mergeAll_X0_clear rfl rfl rfl kv_X0_clear ⟨Nat.le_of_ble_eq_true rfl, Nat.le_of_ble_eq_true rfl⟩) hK hP hD hS hA (pjL_zg cI ad zk zm zb zs zr zu zt zf4 zg zbd zro zmc zmg zsp zjn zg11) ((paN cI (ad 16) (ad 17) 256 zg11).trans (paN cI (ad 16) (ad 17) 256 zg).symm) rfl rfl rfl rfl hl.1 rfl (Nat.le_of_ble_eq_true rfl) dX2_mergeAll_11 ⟨Nat.zero_le _, Nat.zero_le _⟩ (fun H locs hP hD hS => ?_)
  refine lv_aload_n hx hb dX2_mergeAll_14 rfl (lv_at hl 0 rfl) ?_
  refine va_get (D := (dC, dI)) (ci := 2) (v := .ref (ad 7)) (C := RX2) (T := TX2) (N := 15) hx hb hts ziX2 hown hK hP 0 rfl rfl 3 (by decide) zw2 (fun _ h9 => h9) rfl dX2_mergeAll_15 ?_
  obtain ⟨r18, h_18, hm⟩ := ob hm
  refine z_callRi (As := []) (rest := []) (ci := 0) (q := (RX0, TX0, 2)) ⟨hx, hb, hml, hown, hts⟩ (c_X0_length l dC dI cI (ad 7) (ad 8) 256 zs F r18 h_18) (cwV 0 hts gX2_mergeAll_X0_length rfl rfl rfl kv_X0_length ⟨Nat.le_of_ble_eq_true rfl, Nat.le_of_ble_eq_true rfl⟩) hK (z_mid (pjL_zs cI ad zk zm zb zs zr zu zt zf4 zg11 zbd zro zmc zmg zsp zjn zs) hP) rfl rfl rfl rfl hl.1 rfl (Nat.le_of_ble_eq_true rfl) dX2_mergeAll_18 ⟨Nat.zero_le _, Nat.zero_le _⟩ ?_
  obtain ⟨z_44, hq_44, hm⟩ := ob hm
  have J_44 : ∀ (ztj44 : zT), ∀ (zfj44 : zN), ∀ (zgj44 : zN), ∀ (zspj44 : Int32), z_44 = (ztj44, zfj44, zgj44, zspj44) → ∀ (H : Heap) (locs : List Loc), va_P (dC, dI) vwCl (wL cI ad zk zm zb zs zr zu ztj44 zfj44 zgj44 zbd zro zmc zmg zspj44 zjn) H → va_D A (wL cI ad zk zm zb zs zr zu ztj44 zfj44 zgj44 zbd zro zmc zmg zspj44 zjn) → va_S A s.heap H locs → W p l e (headSpec wsX2_mergeAll ({ frames := 4, cells := 0, slots := 0, locals := 95 } : Room)).room s m ([.ref (ad 0)] : List Value).toArray below meth c H locs 0 0 (MQ below (zQv (dC, dI) (wL cI ad u_zk u_zm u_zb u_zs u_zr u_zu u_zt u_zf u_zg zbd zro u_zmc u_zmg u_zsp u_zjn) [(cI, .int)] A) ([.ref (ad 0)] : List Value).toArray s 0 0 A) (F0 m 44 ls []) := by
    intro ztj44 zfj44 zgj44 zspj44 ez H locs hP hD hS
    rw [ez] at hm
    refine lv_iconst (v := 0) hx hb dX2_mergeAll_44 (by decide) ?_
    refine lv_istore_n (lv' := [(1, .int 0), (0, .ref (ad 0))]) hx hb dX2_mergeAll_45 rfl hl (by decide) rfl (fun ls hl => ?_)
    obtain ⟨z_46, hq_46, hm⟩ := ob hm
    have K_46 : ∀ (ztx46 : zT), ∀ (zfx46 : zN), ∀ (zgx46 : zN), ∀ (zspx46 : Int32), z_46 = (ztx46, zfx46, zgx46, zspx46) → ∀ (H : Heap) (locs : List Loc), va_P (dC, dI) vwCl (wL cI ad zk zm zb zs zr zu ztx46 zfx46 zgx46 zbd zro zmc zmg zspx46 zjn) H → va_D A (wL cI ad zk zm zb zs zr zu ztx46 zfx46 zgx46 zbd zro zmc zmg zspx46 zjn) → va_S A s.heap H locs → ∀ (ls : Array Slot), lv_has ls 2 [(0, .ref (ad 0))] → W p l e (headSpec wsX2_mergeAll ({ frames := 4, cells := 0, slots := 0, locals := 95 } : Room)).room s m ([.ref (ad 0)] : List Value).toArray below meth c H locs 0 0 (MQ below (zQv (dC, dI) (wL cI ad u_zk u_zm u_zb u_zs u_zr u_zu u_zt u_zf u_zg zbd zro u_zmc u_zmg u_zsp u_zjn) [(cI, .int)] A) ([.ref (ad 0)] : List Value).toArray s 0 0 A) (F0 m 68 ls []) := by
      intro ztx46 zfx46 zgx46 zspx46 ez H locs hP hD hS ls hl
      rw [ez] at hm
      refine lv_aload_n hx hb dX2_mergeAll_68 rfl (lv_at hl 0 rfl) ?_
      obtain ⟨⟨zk69, zm69, zb69, zs69, zr69, zu69, zmc69⟩, h_69, hm⟩ := ob hm
      refine z_callWv (wc := (wL cI ad zk zm zb zs zr zu ztx46 zfx46 zgx46 zbd zro zmc zmg zspx46 zjn)) (w1 := (wL cI ad zk69 zm69 zb69 zs69 zr69 zu69 ztx46 zfx46 zgx46 zbd zro zmc69 zmg zspx46 zjn)) (ws := (wL cI ad zk zm zb zs zr zu ztx46 zfx46 zgx46 zbd zro zmc zmg zspx46 zjn)) (ws' := (wL cI ad zk69 zm69 zb69 zs69 zr69 zu69 ztx46 zfx46 zgx46 zbd zro zmc69 zmg zspx46 zjn)) (As := []) (rest := []) (ci := 2) (q := (RX2, TX2, 15)) ⟨hx, hb, hml, hown, hts⟩ (c_X2_clearRow l dC dI cI ad zk zm zb zs zr zu ztx46 zfx46 zgx46 zbd zro zmc zmg zspx46 zjn F H.size zk69 zm69 zb69 zs69 zr69 zu69 zmc69 h_69) (cwV 0 hts gX2_mergeAll_X2_clearRow rfl rfl rfl kv_X2_clearRow ⟨Nat.le_of_ble_eq_true rfl, Nat.le_of_ble_eq_true rfl⟩) hK hP hD hS hA (z_spAll (wL cI ad zk zm zb zs zr zu ztx46 zfx46 zgx46 zbd zro zmc zmg zspx46 zjn) (wL cI ad zk69 zm69 zb69 zs69 zr69 zu69 ztx46 zfx46 zgx46 zbd zro zmc69 zmg zspx46 zjn)) ((paL cI ad zk69 zm69 zb69 zs69 zr69 zu69 ztx46 zfx46 zgx46 zbd zro zmc69 zmg zspx46 zjn).trans (paL cI ad zk zm zb zs zr zu ztx46 zfx46 zgx46 zbd zro zmc zmg zspx46 zjn).symm) rfl rfl rfl rfl hl.1 rfl (Nat.le_of_ble_eq_true rfl) dX2_mergeAll_69 ⟨Nat.zero_le _, Nat.zero_le _⟩ (fun H locs hP hD hS => ?_)
      refine lv_iconst (v := 0) hx hb dX2_mergeAll_72 (by decide) ?_
      refine lv_istore_n (lv' := [(1, .int 0), (0, .ref (ad 0))]) hx hb dX2_mergeAll_73 rfl hl (by decide) rfl (fun ls hl => ?_)
      obtain ⟨z_74, hq_74, hm⟩ := ob hm
      have K_74 : ∀ (zkx74 : zN), ∀ (zmx74 : zN), z_74 = (zkx74, zmx74) → ∀ (H : Heap) (locs : List Loc), va_P (dC, dI) vwCl (wL cI ad zkx74 zmx74 zb69 zs69 zr69 zu69 ztx46 zfx46 zgx46 zbd zro zmc69 zmg zspx46 zjn) H → va_D A (wL cI ad zkx74 zmx74 zb69 zs69 zr69 zu69 ztx46 zfx46 zgx46 zbd zro zmc69 zmg zspx46 zjn) → va_S A s.heap H locs → ∀ (ls : Array Slot), lv_has ls 2 [(0, .ref (ad 0))] → W p l e (headSpec wsX2_mergeAll ({ frames := 4, cells := 0, slots := 0, locals := 95 } : Room)).room s m ([.ref (ad 0)] : List Value).toArray below meth c H locs 0 0 (MQ below (zQv (dC, dI) (wL cI ad u_zk u_zm u_zb u_zs u_zr u_zu u_zt u_zf u_zg zbd zro u_zmc u_zmg u_zsp u_zjn) [(cI, .int)] A) ([.ref (ad 0)] : List Value).toArray s 0 0 A) (F0 m 114 ls []) := by
        intro zkx74 zmx74 ez H locs hP hD hS ls hl
        rw [ez] at hm
        refine lv_aload_n hx hb dX2_mergeAll_114 rfl (lv_at hl 0 rfl) ?_
        obtain ⟨⟨zs115, zr115, zu115, zt115, zjn115⟩, h_115, hm⟩ := ob hm
        refine z_callWv (wc := (wL cI ad zkx74 zmx74 zb69 zs69 zr69 zu69 ztx46 zfx46 zgx46 zbd zro zmc69 zmg zspx46 zjn)) (w1 := (wL cI ad zkx74 zmx74 zb69 zs115 zr115 zu115 zt115 zfx46 zgx46 zbd zro zmc69 zmg zspx46 zjn115)) (ws := (wL cI ad zkx74 zmx74 zb69 zs69 zr69 zu69 ztx46 zfx46 zgx46 zbd zro zmc69 zmg zspx46 zjn)) (ws' := (wL cI ad zkx74 zmx74 zb69 zs115 zr115 zu115 zt115 zfx46 zgx46 zbd zro zmc69 zmg zspx46 zjn115)) (As := []) (rest := []) (ci := 2) (q := (RX2, TX2, 15)) ⟨hx, hb, hml, hown, hts⟩ (c_X2_joinFresh l dC dI cI ad zkx74 zmx74 zb69 zs69 zr69 zu69 ztx46 zfx46 zgx46 zbd zro zmc69 zmg zspx46 zjn F H.size zs115 zr115 zu115 zt115 zjn115 h_115) (cwV 0 hts gX2_mergeAll_X2_joinFresh rfl rfl rfl kv_X2_joinFresh ⟨Nat.le_of_ble_eq_true rfl, Nat.le_of_ble_eq_true rfl⟩) hK hP hD hS hA (z_spAll (wL cI ad zkx74 zmx74 zb69 zs69 zr69 zu69 ztx46 zfx46 zgx46 zbd zro zmc69 zmg zspx46 zjn) (wL cI ad zkx74 zmx74 zb69 zs115 zr115 zu115 zt115 zfx46 zgx46 zbd zro zmc69 zmg zspx46 zjn115)) ((paL cI ad zkx74 zmx74 zb69 zs115 zr115 zu115 zt115 zfx46 zgx46 zbd zro zmc69 zmg zspx46 zjn115).trans (paL cI ad zkx74 zmx74 zb69 zs69 zr69 zu69 ztx46 zfx46 zgx46 zbd zro zmc69 zmg zspx46 zjn).symm) rfl rfl rfl rfl hl.1 rfl (Nat.le_of_ble_eq_true rfl) dX2_mergeAll_115 ⟨Nat.zero_le _, Nat.zero_le _⟩ (fun H locs hP hD hS => ?_)
        refine lv_aload_n hx hb dX2_mergeAll_118 rfl (lv_at hl 0 rfl) ?_
        refine lv_dup hx hb dX2_mergeAll_119 rfl ?_
        refine va_get (D := (dC, dI)) (ci := 2) (v := .int zmg) (C := RX2) (T := TX2) (N := 15) hx hb hts ziX2 hown hK hP 0 rfl rfl 12 (by decide) zw6 (fun _ h9 => h9) rfl dX2_mergeAll_120 ?_
        refine lv_iconst (v := 1) hx hb dX2_mergeAll_123 (by decide) ?_
        refine lv_iadd hx hb dX2_mergeAll_124 ?_
        refine va_put (D := (dC, dI)) (ci := 2) (v := .int (zmg + 1)) (ty := .int) (C := RX2) (T := TX2) (N := 15) hx hb hts ziX2 tyX2 tyX2_ok nmX2 hown hK hP hD hS 0 rfl rfl 12 (by decide) zw6 (fun _ h9 => h9) rfl (by decide +kernel) rfl rfl (Nat.le_of_ble_eq_true rfl) dX2_mergeAll_125 (fun H locs hP hD hS => ?_)
        have hP : va_P (dC, dI) vwCl (wL cI ad zkx74 zmx74 zb69 zs115 zr115 zu115 zt115 zfx46 zgx46 zbd zro zmc69 (zmg + 1) zspx46 zjn115) H := hP
        have hD : va_D A (wL cI ad zkx74 zmx74 zb69 zs115 zr115 zu115 zt115 zfx46 zgx46 zbd zro zmc69 (zmg + 1) zspx46 zjn115) := hD
        cases o2 hm
        exact W.vret hx hb hr (fun t ht hW => ⟨⟨(), rfl, trivial, by rw [ht]; exact hP, va_K.moved hW.alike hK, hD⟩, hS.F ht⟩) hS.2.2 dX2_mergeAll_128
      have L_74 : ∀ (n : Nat) (x1_2 : Int32) (zkl74 : zN) (zml74 : zN), X2_mergeAll_L74 F zfx46 n x1_2 zkl74 zml74 = some z_74 → ∀ (H : Heap) (locs : List Loc), va_P (dC, dI) vwCl (wL cI ad zkl74 zml74 zb69 zs69 zr69 zu69 ztx46 zfx46 zgx46 zbd zro zmc69 zmg zspx46 zjn) H → va_D A (wL cI ad zkl74 zml74 zb69 zs69 zr69 zu69 ztx46 zfx46 zgx46 zbd zro zmc69 zmg zspx46 zjn) → va_S A s.heap H locs → ∀ (ls : Array Slot), lv_has ls 2 [(1, .int x1_2), (0, .ref (ad 0))] → W p l e (headSpec wsX2_mergeAll ({ frames := 4, cells := 0, slots := 0, locals := 95 } : Room)).room s m ([.ref (ad 0)] : List Value).toArray below meth c H locs 0 0 (MQ below (zQv (dC, dI) (wL cI ad u_zk u_zm u_zb u_zs u_zr u_zu u_zt u_zf u_zg zbd zro u_zmc u_zmg u_zsp u_zjn) [(cI, .int)] A) ([.ref (ad 0)] : List Value).toArray s 0 0 A) (F0 m 74 ls []) := by
        intro n
        induction n with
        | zero => intro x1_2 zkl74 zml74 hm; cases hm
        | succ n ih_74 =>
          intro x1_2 zkl74 zml74 hm H locs hP hD hS ls hl
          refine lv_iload_n hx hb dX2_mergeAll_74 rfl (lv_at hl 0 rfl) ?_
          refine lv_aload_n hx hb dX2_mergeAll_75 rfl (lv_at hl 1 rfl) ?_
          refine va_get (D := (dC, dI)) (ci := 2) (v := .ref (ad 14)) (C := RX2) (T := TX2) (N := 15) hx hb hts ziX2 hown hK hP 0 rfl rfl 7 (by decide) zw0 (fun _ h9 => h9) rfl dX2_mergeAll_76 ?_
          obtain ⟨r79, h_79, hm⟩ := ob hm
          refine z_callRi (As := []) (rest := [.int x1_2]) (ci := 0) (q := (RX0, TX0, 2)) ⟨hx, hb, hml, hown, hts⟩ (c_X0_length l dC dI cI (ad 14) (ad 15) 256 zfx46 F r79 h_79) (cwV 0 hts gX2_mergeAll_X0_length rfl rfl rfl kv_X0_length ⟨Nat.le_of_ble_eq_true rfl, Nat.le_of_ble_eq_true rfl⟩) hK (z_mid (pjL_zf cI ad zkl74 zml74 zb69 zs69 zr69 zu69 ztx46 zfx46 zgx46 zbd zro zmc69 zmg zspx46 zjn zfx46) hP) rfl rfl rfl rfl hl.1 rfl (Nat.le_of_ble_eq_true rfl) dX2_mergeAll_79 ⟨Nat.zero_le _, Nat.zero_le _⟩ ?_
          refine lv_icmp_ge (tgt := 114) hx hb dX2_mergeAll_82 (by decide) (fun c_82 => ?_) (fun c_82 => ?_)
          · have hm := it_t hm c_82
            exact K_74 zkl74 zml74 (o2 hm) _ _ hP hD hS _ (lv_sub hl [1] rfl)
          · have hm := it_f hm c_82
            refine lv_aload_n hx hb dX2_mergeAll_85 rfl (lv_at hl 1 rfl) ?_
            refine va_get (D := (dC, dI)) (ci := 2) (v := .ref (ad 1)) (C := RX2) (T := TX2) (N := 15) hx hb hts ziX2 hown hK hP 0 rfl rfl 0 (by decide) zw4 (fun _ h9 => h9) rfl dX2_mergeAll_86 ?_
            refine lv_aload_n hx hb dX2_mergeAll_89 rfl (lv_at hl 1 rfl) ?_
            refine va_get (D := (dC, dI)) (ci := 2) (v := .ref (ad 14)) (C := RX2) (T := TX2) (N := 15) hx hb hts ziX2 hown hK hP 0 rfl rfl 7 (by decide) zw0 (fun _ h9 => h9) rfl dX2_mergeAll_90 ?_
            refine lv_iload_n hx hb dX2_mergeAll_93 rfl (lv_at hl 0 rfl) ?_
            obtain ⟨r94, h_94, hm⟩ := ob hm
            refine z_callRi (As := [.int x1_2]) (rest := [.ref (ad 1)]) (ci := 0) (q := (RX0, TX0, 2)) ⟨hx, hb, hml, hown, hts⟩ (c_X0_at l dC dI cI (ad 14) (ad 15) 256 zfx46 F x1_2 r94 h_94) (cwV 1 hts gX2_mergeAll_X0_at rfl rfl rfl kv_X0_at ⟨Nat.le_of_ble_eq_true rfl, Nat.le_of_ble_eq_true rfl⟩) hK (z_mid (pjL_zf cI ad zkl74 zml74 zb69 zs69 zr69 zu69 ztx46 zfx46 zgx46 zbd zro zmc69 zmg zspx46 zjn zfx46) hP) rfl rfl rfl rfl hl.1 rfl (Nat.le_of_ble_eq_true rfl) dX2_mergeAll_94 ⟨Nat.zero_le _, Nat.zero_le _⟩ ?_
            obtain ⟨zk97, h_97, hm⟩ := ob hm
            refine z_callWv (wc := (wN cI (ad 1) (ad 2) 256 zkl74)) (w1 := (wN cI (ad 1) (ad 2) 256 zk97)) (ws := (wL cI ad zkl74 zml74 zb69 zs69 zr69 zu69 ztx46 zfx46 zgx46 zbd zro zmc69 zmg zspx46 zjn)) (ws' := (wL cI ad zk97 zml74 zb69 zs69 zr69 zu69 ztx46 zfx46 zgx46 zbd zro zmc69 zmg zspx46 zjn)) (As := [.int r94]) (rest := []) (ci := 0) (q := (RX0, TX0, 2)) ⟨hx, hb, hml, hown, hts⟩ (c_X0_push l dC dI cI (ad 1) (ad 2) 256 zkl74 F r94 H.size zk97 h_97) (cwV 1 hts gX2_mergeAll_X0_push rfl rfl rfl kv_X0_push ⟨Nat.le_of_ble_eq_true rfl, Nat.le_of_ble_eq_true rfl⟩) hK hP hD hS hA (pjL_zk cI ad zkl74 zml74 zb69 zs69 zr69 zu69 ztx46 zfx46 zgx46 zbd zro zmc69 zmg zspx46 zjn zk97) ((paN cI (ad 1) (ad 2) 256 zk97).trans (paN cI (ad 1) (ad 2) 256 zkl74).symm) rfl rfl rfl rfl hl.1 rfl (Nat.le_of_ble_eq_true rfl) dX2_mergeAll_97 ⟨Nat.zero_le _, Nat.zero_le _⟩ (fun H locs hP hD hS => ?_)
            refine lv_aload_n hx hb dX2_mergeAll_100 rfl (lv_at hl 1 rfl) ?_
            refine va_get (D := (dC, dI)) (ci := 2) (v := .ref (ad 3)) (C := RX2) (T := TX2) (N := 15) hx hb hts ziX2 hown hK hP 0 rfl rfl 1 (by decide) zw5 (fun _ h9 => h9) rfl dX2_mergeAll_101 ?_
            refine lv_iconst (v := 0) hx hb dX2_mergeAll_104 (by decide) ?_
            obtain ⟨zm105, h_105, hm⟩ := ob hm
            refine z_callWv (wc := (wN cI (ad 3) (ad 4) 256 zml74)) (w1 := (wN cI (ad 3) (ad 4) 256 zm105)) (ws := (wL cI ad zk97 zml74 zb69 zs69 zr69 zu69 ztx46 zfx46 zgx46 zbd zro zmc69 zmg zspx46 zjn)) (ws' := (wL cI ad zk97 zm105 zb69 zs69 zr69 zu69 ztx46 zfx46 zgx46 zbd zro zmc69 zmg zspx46 zjn)) (As := [.int 0]) (rest := []) (ci := 0) (q := (RX0, TX0, 2)) ⟨hx, hb, hml, hown, hts⟩ (c_X0_push l dC dI cI (ad 3) (ad 4) 256 zml74 F 0 H.size zm105 h_105) (cwV 1 hts gX2_mergeAll_X0_push rfl rfl rfl kv_X0_push ⟨Nat.le_of_ble_eq_true rfl, Nat.le_of_ble_eq_true rfl⟩) hK hP hD hS hA (pjL_zm cI ad zk97 zml74 zb69 zs69 zr69 zu69 ztx46 zfx46 zgx46 zbd zro zmc69 zmg zspx46 zjn zm105) ((paN cI (ad 3) (ad 4) 256 zm105).trans (paN cI (ad 3) (ad 4) 256 zml74).symm) rfl rfl rfl rfl hl.1 rfl (Nat.le_of_ble_eq_true rfl) dX2_mergeAll_105 ⟨Nat.zero_le _, Nat.zero_le _⟩ (fun H locs hP hD hS => ?_)
            obtain ⟨x1_3, e_x1_3⟩ : ∃ y : Int32, y = x1_2 + 1 := ⟨_, rfl⟩
            have hm := bnd_e hm e_x1_3
            refine lv_iinc (v := x1_3) (lv' := [(1, .int x1_3), (0, .ref (ad 0))]) hx hb dX2_mergeAll_108 hl (k := 0) rfl (by rw [e_x1_3]; rfl) (by decide) rfl (fun ls hl => ?_)
            refine lv_goto (tgt := 74) hx hb dX2_mergeAll_111 (by decide) ?_
            exact ih_74 x1_3 zk97 zm105 hm _ _ hP hD hS _ (lv_sub hl [0, 1] rfl)
      exact L_74 F 0 zk69 zm69 hq_74 _ _ hP hD hS _ (lv_sub hl [0, 1] rfl)
    have L_46 : ∀ (n : Nat) (x1 : Int32) (ztl46 : zT) (zfl46 : zN) (zgl46 : zN) (zspl46 : Int32), X2_mergeAll_L46 zk zm zb zs zbd F n x1 ztl46 zfl46 zgl46 zspl46 = some z_46 → ∀ (H : Heap) (locs : List Loc), va_P (dC, dI) vwCl (wL cI ad zk zm zb zs zr zu ztl46 zfl46 zgl46 zbd zro zmc zmg zspl46 zjn) H → va_D A (wL cI ad zk zm zb zs zr zu ztl46 zfl46 zgl46 zbd zro zmc zmg zspl46 zjn) → va_S A s.heap H locs → ∀ (ls : Array Slot), lv_has ls 2 [(1, .int x1), (0, .ref (ad 0))] → W p l e (headSpec wsX2_mergeAll ({ frames := 4, cells := 0, slots := 0, locals := 95 } : Room)).room s m ([.ref (ad 0)] : List Value).toArray below meth c H locs 0 0 (MQ below (zQv (dC, dI) (wL cI ad u_zk u_zm u_zb u_zs u_zr u_zu u_zt u_zf u_zg zbd zro u_zmc u_zmg u_zsp u_zjn) [(cI, .int)] A) ([.ref (ad 0)] : List Value).toArray s 0 0 A) (F0 m 46 ls []) := by
      intro n
      induction n with
      | zero => intro x1 ztl46 zfl46 zgl46 zspl46 hm; cases hm
      | succ n ih_46 =>
        intro x1 ztl46 zfl46 zgl46 zspl46 hm H locs hP hD hS ls hl
        refine lv_iload_n hx hb dX2_mergeAll_46 rfl (lv_at hl 0 rfl) ?_
        refine lv_aload_n hx hb dX2_mergeAll_47 rfl (lv_at hl 1 rfl) ?_
        refine va_get (D := (dC, dI)) (ci := 2) (v := .ref (ad 7)) (C := RX2) (T := TX2) (N := 15) hx hb hts ziX2 hown hK hP 0 rfl rfl 3 (by decide) zw2 (fun _ h9 => h9) rfl dX2_mergeAll_48 ?_
        obtain ⟨r51, h_51, hm⟩ := ob hm
        refine z_callRi (As := []) (rest := [.int x1]) (ci := 0) (q := (RX0, TX0, 2)) ⟨hx, hb, hml, hown, hts⟩ (c_X0_length l dC dI cI (ad 7) (ad 8) 256 zs F r51 h_51) (cwV 0 hts gX2_mergeAll_X0_length rfl rfl rfl kv_X0_length ⟨Nat.le_of_ble_eq_true rfl, Nat.le_of_ble_eq_true rfl⟩) hK (z_mid (pjL_zs cI ad zk zm zb zs zr zu ztl46 zfl46 zgl46 zbd zro zmc zmg zspl46 zjn zs) hP) rfl rfl rfl rfl hl.1 rfl (Nat.le_of_ble_eq_true rfl) dX2_mergeAll_51 ⟨Nat.zero_le _, Nat.zero_le _⟩ ?_
        refine lv_icmp_ge (tgt := 68) hx hb dX2_mergeAll_54 (by decide) (fun c_54 => ?_) (fun c_54 => ?_)
        · have hm := it_t hm c_54
          exact K_46 ztl46 zfl46 zgl46 zspl46 (o2 hm) _ _ hP hD hS _ (lv_sub hl [1] rfl)
        · have hm := it_f hm c_54
          refine lv_aload_n hx hb dX2_mergeAll_57 rfl (lv_at hl 1 rfl) ?_
          refine lv_iload_n hx hb dX2_mergeAll_58 rfl (lv_at hl 0 rfl) ?_
          obtain ⟨⟨zt59, zf59, zg59, zsp59⟩, h_59, hm⟩ := ob hm
          refine z_callWv (wc := (wL cI ad zk zm zb zs zr zu ztl46 zfl46 zgl46 zbd zro zmc zmg zspl46 zjn)) (w1 := (wL cI ad zk zm zb zs zr zu zt59 zf59 zg59 zbd zro zmc zmg zsp59 zjn)) (ws := (wL cI ad zk zm zb zs zr zu ztl46 zfl46 zgl46 zbd zro zmc zmg zspl46 zjn)) (ws' := (wL cI ad zk zm zb zs zr zu zt59 zf59 zg59 zbd zro zmc zmg zsp59 zjn)) (As := [.int x1]) (rest := []) (ci := 2) (q := (RX2, TX2, 15)) ⟨hx, hb, hml, hown, hts⟩ (c_X2_mergePiece l dC dI cI ad zk zm zb zs zr zu ztl46 zfl46 zgl46 zbd zro zmc zmg zspl46 zjn F x1 H.size zt59 zf59 zg59 zsp59 h_59) (cwV 1 hts gX2_mergeAll_X2_mergePiece rfl rfl rfl kv_X2_mergePiece ⟨Nat.le_of_ble_eq_true rfl, Nat.le_of_ble_eq_true rfl⟩) hK hP hD hS hA (z_spAll (wL cI ad zk zm zb zs zr zu ztl46 zfl46 zgl46 zbd zro zmc zmg zspl46 zjn) (wL cI ad zk zm zb zs zr zu zt59 zf59 zg59 zbd zro zmc zmg zsp59 zjn)) ((paL cI ad zk zm zb zs zr zu zt59 zf59 zg59 zbd zro zmc zmg zsp59 zjn).trans (paL cI ad zk zm zb zs zr zu ztl46 zfl46 zgl46 zbd zro zmc zmg zspl46 zjn).symm) rfl rfl rfl rfl hl.1 rfl (Nat.le_of_ble_eq_true rfl) dX2_mergeAll_59 ⟨Nat.zero_le _, Nat.zero_le _⟩ (fun H locs hP hD hS => ?_)
          obtain ⟨x1_1, e_x1_1⟩ : ∃ y : Int32, y = x1 + 1 := ⟨_, rfl⟩
          have hm := bnd_e hm e_x1_1
          refine lv_iinc (v := x1_1) (lv' := [(1, .int x1_1), (0, .ref (ad 0))]) hx hb dX2_mergeAll_62 hl (k := 0) rfl (by rw [e_x1_1]; rfl) (by decide) rfl (fun ls hl => ?_)
          refine lv_goto (tgt := 46) hx hb dX2_mergeAll_65 (by decide) ?_
          exact ih_46 x1_1 zt59 zf59 zg59 zsp59 hm _ _ hP hD hS _ (lv_sub hl [0, 1] rfl)
    exact L_46 F 0 ztj44 zfj44 zgj44 zspj44 hq_46 _ _ hP hD hS _ (lv_sub hl [0, 1] rfl)
  have hm := hq_44
  refine lv_if_ne (tgt := 44) hx hb dX2_mergeAll_21 (by decide) (fun c_21 => ?_) (fun c_21 => ?_)
  · have hm := it_f hm c_21
    exact J_44 zt zf4 zg11 zsp (o2 hm) _ _ hP hD hS
  · have hm := it_t hm c_21
    refine lv_aload_n hx hb dX2_mergeAll_24 rfl (lv_at hl 0 rfl) ?_
    refine lv_iconst (v := 0) hx hb dX2_mergeAll_25 (by decide) ?_
    refine lv_iconst (v := 0) hx hb dX2_mergeAll_26 (by decide) ?_
    refine lv_iconst (v := 0) hx hb dX2_mergeAll_27 (by decide) ?_
    refine lv_aload_n hx hb dX2_mergeAll_28 rfl (lv_at hl 0 rfl) ?_
    refine va_get (D := (dC, dI)) (ci := 2) (v := .ref (ad 5)) (C := RX2) (T := TX2) (N := 15) hx hb hts ziX2 hown hK hP 0 rfl rfl 2 (by decide) zw3 (fun _ h9 => h9) rfl dX2_mergeAll_29 ?_
    obtain ⟨r32, h_32, hm⟩ := ob hm
    refine z_callRi (As := []) (rest := [.int 0, .int 0, .int 0, .ref (ad 0)]) (ci := 0) (q := (RX0, TX0, 2)) ⟨hx, hb, hml, hown, hts⟩ (c_X0_length l dC dI cI (ad 5) (ad 6) 16 zb F r32 h_32) (cwV 0 hts gX2_mergeAll_X0_length rfl rfl rfl kv_X0_length ⟨Nat.le_of_ble_eq_true rfl, Nat.le_of_ble_eq_true rfl⟩) hK (z_mid (pjL_zb cI ad zk zm zb zs zr zu zt zf4 zg11 zbd zro zmc zmg zsp zjn zb) hP) rfl rfl rfl rfl hl.1 rfl (Nat.le_of_ble_eq_true rfl) dX2_mergeAll_32 ⟨Nat.zero_le _, Nat.zero_le _⟩ ?_
    obtain ⟨⟨r35, zf35⟩, h_35, hm⟩ := ob hm
    refine z_callWi (wc := (wL cI ad zk zm zb zs zr zu zt zf4 zg11 zbd zro zmc zmg zsp zjn)) (w1 := (wL cI ad zk zm zb zs zr zu zt zf35 zg11 zbd zro zmc zmg zsp zjn)) (ws := (wL cI ad zk zm zb zs zr zu zt zf4 zg11 zbd zro zmc zmg zsp zjn)) (ws' := (wL cI ad zk zm zb zs zr zu zt zf35 zg11 zbd zro zmc zmg zsp zjn)) (As := [.int 0, .int 0, .int 0, .int r32]) (rest := []) (ci := 2) (q := (RX2, TX2, 15)) ⟨hx, hb, hml, hown, hts⟩ (c_X2_gather l dC dI cI ad zk zm zb zs zr zu zt zf4 zg11 zbd zro zmc zmg zsp zjn F 0 0 0 r32 H.size r35 zf35 h_35) (cwV 4 hts gX2_mergeAll_X2_gather rfl rfl rfl kv_X2_gather ⟨Nat.le_of_ble_eq_true rfl, Nat.le_of_ble_eq_true rfl⟩) hK hP hD hS hA (z_spAll (wL cI ad zk zm zb zs zr zu zt zf4 zg11 zbd zro zmc zmg zsp zjn) (wL cI ad zk zm zb zs zr zu zt zf35 zg11 zbd zro zmc zmg zsp zjn)) ((paL cI ad zk zm zb zs zr zu zt zf35 zg11 zbd zro zmc zmg zsp zjn).trans (paL cI ad zk zm zb zs zr zu zt zf4 zg11 zbd zro zmc zmg zsp zjn).symm) rfl rfl rfl rfl hl.1 rfl (Nat.le_of_ble_eq_true rfl) dX2_mergeAll_35 ⟨Nat.zero_le _, Nat.zero_le _⟩ (fun H locs hP hD hS => ?_)
    refine lv_pop hx hb dX2_mergeAll_38 rfl ?_
    refine lv_aload_n hx hb dX2_mergeAll_39 rfl (lv_at hl 0 rfl) ?_
    refine lv_iconst (v := 0) hx hb dX2_mergeAll_40 (by decide) ?_
    obtain ⟨⟨zt41, zg41, zsp41⟩, h_41, hm⟩ := ob hm
    refine z_callWv (wc := (wL cI ad zk zm zb zs zr zu zt zf35 zg11 zbd zro zmc zmg zsp zjn)) (w1 := (wL cI ad zk zm zb zs zr zu zt41 zf35 zg41 zbd zro zmc zmg zsp41 zjn)) (ws := (wL cI ad zk zm zb zs zr zu zt zf35 zg11 zbd zro zmc zmg zsp zjn)) (ws' := (wL cI ad zk zm zb zs zr zu zt41 zf35 zg41 zbd zro zmc zmg zsp41 zjn)) (As := [.int 0]) (rest := []) (ci := 2) (q := (RX2, TX2, 15)) ⟨hx, hb, hml, hown, hts⟩ (c_X2_cutFresh l dC dI cI ad zk zm zb zs zr zu zt zf35 zg11 zbd zro zmc zmg zsp zjn F 0 H.size zt41 zg41 zsp41 h_41) (cwV 1 hts gX2_mergeAll_X2_cutFresh rfl rfl rfl kv_X2_cutFresh ⟨Nat.le_of_ble_eq_true rfl, Nat.le_of_ble_eq_true rfl⟩) hK hP hD hS hA (z_spAll (wL cI ad zk zm zb zs zr zu zt zf35 zg11 zbd zro zmc zmg zsp zjn) (wL cI ad zk zm zb zs zr zu zt41 zf35 zg41 zbd zro zmc zmg zsp41 zjn)) ((paL cI ad zk zm zb zs zr zu zt41 zf35 zg41 zbd zro zmc zmg zsp41 zjn).trans (paL cI ad zk zm zb zs zr zu zt zf35 zg11 zbd zro zmc zmg zsp zjn).symm) rfl rfl rfl rfl hl.1 rfl (Nat.le_of_ble_eq_true rfl) dX2_mergeAll_41 ⟨Nat.zero_le _, Nat.zero_le _⟩ (fun H locs hP hD hS => ?_)
    exact J_44 zt41 zf35 zg41 zsp41 (o2 hm) _ _ hP hD hS
