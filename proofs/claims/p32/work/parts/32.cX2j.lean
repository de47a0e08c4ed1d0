set_option maxHeartbeats 4000000 in
set_option maxRecDepth 100000 in
theorem c_X2_joinFresh (l : Launch) (dC : Nat → ClassId) (dI : Nat → Nat → Nat) (cI : ClassId) (ad : Nat → Nat) (zk : zN) (zm : zN) (zb : zN) (zs : zN) (zr : zN) (zu : zN) (zt : zT) (zf : zN) (zg : zN) (zbd : Int32) (zro : Int32) (zmc : Int32) (zmg : Int32) (zsp : Int32) (zjn : Int32) (F : Nat) (sz : Nat) (u_zs : zN) (u_zr : zN) (u_zu : zN) (u_zt : zT) (u_zjn : Int32) (hm : X2_joinFresh F zk zs zr zu zt zg zbd zjn = some (u_zs, u_zr, u_zu, u_zt, u_zjn)) : Met l yX2_joinFresh wsX2_joinFresh ({ frames := 3, cells := 0, slots := 0, locals := 69 }) (va_Pc [.ref (ad 0)] (zW (dC, dI) (wL cI ad zk zm zb zs zr zu zt zf zg zbd zro zmc zmg zsp zjn) [(cI, .int)] sz)) (zQv (dC, dI) (wL cI ad zk zm zb u_zs u_zr u_zu u_zt zf zg zbd zro zmc zmg zsp u_zjn) [(cI, .int)] (va_A (wL cI ad zk zm zb zs zr zu zt zf zg zbd zro zmc zmg zsp zjn) sz)) 0 0 (va_A (wL cI ad zk zm zb zs zr zu zt zf zg zbd zro zmc zmg zsp zjn) sz) := by
  refine Met.ofW (cc := cX2_joinFresh) (maxL := 4) (ret := none) (by decide) rfl ?_
  intro p e s m args below meth c s₁ B hml hv
  obtain ⟨rfl, hsz, hP, hK, hD0⟩ := hv
  have hx := B.exec
  have hb := B.bytes
  have hr := B.returns
  have hts := atoms_spec (ws := wsX2_joinFresh) B.pre
  have hown : s.vm.findClass RX2 = some m.cls := findClass_of_methodNamed B.named
  have hlocks := B.notSynchronized
  subst hsz
  have hD := hD0.self (sz := s.heap.size)
  generalize hAe : va_A (wL cI ad zk zm zb zs zr zu zt zf zg zbd zro zmc zmg zsp zjn) s.heap.size = A at hD ⊢
  have hA : ∀ q : Nat, s.heap.size ≤ q → A q := fun q h => by rw [← hAe]; exact Or.inr h
  have hS : va_S A s.heap s.heap [] := va_S.rf
  generalize eL : ([] : List Loc) = locs at hS ⊢
  obtain ⟨H, eH⟩ : ∃ z : Heap, z = s.heap := ⟨_, rfl⟩
  have hP : va_P (dC, dI) vwCl (wL cI ad zk zm zb zs zr zu zt zf zg zbd zro zmc zmg zsp zjn) H := by rw [eH]; exact hP
  have hS : va_S A s.heap H locs := by rw [eH]; exact hS
  refine z_heap eH ?_
  have hl := lv_entry ([.ref (ad 0)]) (n := 4) (Nat.le_of_ble_eq_true rfl)
  rw [lg_entry_eq]
  generalize (lg_sl ([.ref (ad 0)]) ++ List.replicate (4 - (lg_sl ([.ref (ad 0)])).length) Slot.unset).toArray = ls at hl ⊢
  have hl : lv_has ls 4 [(0, .ref (ad 0))] := hl
  have zw0 := hts (.fieldLink RX2 43 "LearnedLedge" "freshStarts" "LLearnedLedge$Numbers;") (List.mem_cons_of_mem _ (List.mem_append_left _ (List.mem_append_left _ (List.mem_append_left _ (List.mem_append_left _ (List.mem_of_getElem? (i := 0) rfl))))))
  have zw1 := hts (.fieldLink RX2 14 "LearnedLedge" "keys" "LLearnedLedge$Numbers;") (List.mem_cons_of_mem _ (List.mem_append_left _ (List.mem_append_left _ (List.mem_append_left _ (List.mem_append_left _ (List.mem_of_getElem? (i := 1) rfl))))))
  have zw2 := hts (.fieldLink RX2 62 "LearnedLedge" "joinCount" "I") (List.mem_cons_of_mem _ (List.mem_append_left _ (List.mem_append_left _ (List.mem_append_left _ (List.mem_append_left _ (List.mem_of_getElem? (i := 2) rfl))))))
  have ziX2 : ∀ w ∈ u_ws RX2 TX2 15, w ∈ wsX2_joinFresh := (fun _ h9 => (List.mem_cons_of_mem _ (List.mem_append_left _ (List.mem_append_left _ (List.mem_append_right _ h9)))))
  refine lv_iconst (v := 0) hx hb dX2_joinFresh_0 (by decide) ?_
  refine lv_istore_n (lv' := [(1, .int 0), (0, .ref (ad 0))]) hx hb dX2_joinFresh_1 rfl hl (by decide) rfl (fun ls hl => ?_)
  obtain ⟨z_2, hq_2, hm⟩ := ob hm
  have K_2 : ∀ (zsx2 : zN), ∀ (zrx2 : zN), ∀ (zux2 : zN), ∀ (ztx2 : zT), ∀ (zjnx2 : Int32), z_2 = (zsx2, zrx2, zux2, ztx2, zjnx2) → ∀ (H : Heap) (locs : List Loc), va_P (dC, dI) vwCl (wL cI ad zk zm zb zsx2 zrx2 zux2 ztx2 zf zg zbd zro zmc zmg zsp zjnx2) H → va_D A (wL cI ad zk zm zb zsx2 zrx2 zux2 ztx2 zf zg zbd zro zmc zmg zsp zjnx2) → va_S A s.heap H locs → ∀ (ls : Array Slot), lv_has ls 4 [] → W p l e (headSpec wsX2_joinFresh ({ frames := 3, cells := 0, slots := 0, locals := 69 } : Room)).room s m ([.ref (ad 0)] : List Value).toArray below meth c H locs 0 0 (MQ below (zQv (dC, dI) (wL cI ad zk zm zb u_zs u_zr u_zu u_zt zf zg zbd zro zmc zmg zsp u_zjn) [(cI, .int)] A) ([.ref (ad 0)] : List Value).toArray s 0 0 A) (F0 m 114 ls []) := by
    intro zsx2 zrx2 zux2 ztx2 zjnx2 ez H locs hP hD hS ls hl
    rw [ez] at hm
    cases o2 hm
    exact W.vret hx hb hr (fun t ht hW => ⟨⟨(), rfl, trivial, by rw [ht]; exact hP, va_K.moved hW.alike hK, hD⟩, hS.F ht⟩) hS.2.2 dX2_joinFresh_114
  have L_2 : ∀ (n : Nat) (x1 : Int32) (zsl2 : zN) (zrl2 : zN) (zul2 : zN) (ztl2 : zT) (zjnl2 : Int32), X2_joinFresh_L2 zk zg zbd F n x1 zsl2 zrl2 zul2 ztl2 zjnl2 = some z_2 → ∀ (H : Heap) (locs : List Loc), va_P (dC, dI) vwCl (wL cI ad zk zm zb zsl2 zrl2 zul2 ztl2 zf zg zbd zro zmc zmg zsp zjnl2) H → va_D A (wL cI ad zk zm zb zsl2 zrl2 zul2 ztl2 zf zg zbd zro zmc zmg zsp zjnl2) → va_S A s.heap H locs → ∀ (ls : Array Slot), lv_has ls 4 [(1, .int x1), (0, .ref (ad 0))] → W p l e (headSpec wsX2_joinFresh ({ frames := 3, cells := 0, slots := 0, locals := 69 } : Room)).room s m ([.ref (ad 0)] : List Value).toArray below meth c H locs 0 0 (MQ below (zQv (dC, dI) (wL cI ad zk zm zb u_zs u_zr u_zu u_zt zf zg zbd zro zmc zmg zsp u_zjn) [(cI, .int)] A) ([.ref (ad 0)] : List Value).toArray s 0 0 A) (F0 m 2 ls []) := by
    intro n
    induction n with
    | zero => intro x1 zsl2 zrl2 zul2 ztl2 zjnl2 hm; cases hm
    | succ n ih_2 =>
      intro x1 zsl2 zrl2 zul2 ztl2 zjnl2 hm H locs hP hD hS ls hl
      refine lv_iload_n hx hb dX2_joinFresh_2 rfl (lv_at hl 0 rfl) ?_
      refine lv_aload_n hx hb dX2_joinFresh_3 rfl (lv_at hl 1 rfl) ?_
      refine va_get (D := (dC, dI)) (ci := 2) (v := .ref (ad 16)) (C := RX2) (T := TX2) (N := 15) hx hb hts ziX2 hown hK hP 0 rfl rfl 8 (by decide) zw0 (fun _ h9 => h9) rfl dX2_joinFresh_4 ?_
      obtain ⟨r7, h_7, hm⟩ := ob hm
      refine z_callRi (As := []) (rest := [.int x1]) (ci := 0) (q := (RX0, TX0, 2)) ⟨hx, hb, hml, hown, hts⟩ (c_X0_length l dC dI cI (ad 16) (ad 17) 256 zg F r7 h_7) (cwV 0 hts gX2_joinFresh_X0_length rfl rfl rfl kv_X0_length ⟨Nat.le_of_ble_eq_true rfl, Nat.le_of_ble_eq_true rfl⟩) hK (z_mid (pjL_zg cI ad zk zm zb zsl2 zrl2 zul2 ztl2 zf zg zbd zro zmc zmg zsp zjnl2 zg) hP) rfl rfl rfl rfl hl.1 rfl (Nat.le_of_ble_eq_true rfl) dX2_joinFresh_7 ⟨Nat.zero_le _, Nat.zero_le _⟩ ?_
      refine lv_icmp_ge (tgt := 114) hx hb dX2_joinFresh_10 (by decide) (fun c_10 => ?_) (fun c_10 => ?_)
      · have hm := it_t hm c_10
        exact K_2 zsl2 zrl2 zul2 ztl2 zjnl2 (o2 hm) _ _ hP hD hS _ (lv_sub hl [] rfl)
      · have hm := it_f hm c_10
        refine lv_aload_n hx hb dX2_joinFresh_13 rfl (lv_at hl 1 rfl) ?_
        refine va_get (D := (dC, dI)) (ci := 2) (v := .ref (ad 16)) (C := RX2) (T := TX2) (N := 15) hx hb hts ziX2 hown hK hP 0 rfl rfl 8 (by decide) zw0 (fun _ h9 => h9) rfl dX2_joinFresh_14 ?_
        refine lv_iload_n hx hb dX2_joinFresh_17 rfl (lv_at hl 0 rfl) ?_
        obtain ⟨r18, h_18, hm⟩ := ob hm
        refine z_callRi (As := [.int x1]) (rest := []) (ci := 0) (q := (RX0, TX0, 2)) ⟨hx, hb, hml, hown, hts⟩ (c_X0_at l dC dI cI (ad 16) (ad 17) 256 zg F x1 r18 h_18) (cwV 1 hts gX2_joinFresh_X0_at rfl rfl rfl kv_X0_at ⟨Nat.le_of_ble_eq_true rfl, Nat.le_of_ble_eq_true rfl⟩) hK (z_mid (pjL_zg cI ad zk zm zb zsl2 zrl2 zul2 ztl2 zf zg zbd zro zmc zmg zsp zjnl2 zg) hP) rfl rfl rfl rfl hl.1 rfl (Nat.le_of_ble_eq_true rfl) dX2_joinFresh_18 ⟨Nat.zero_le _, Nat.zero_le _⟩ ?_
        refine lv_istore_n (lv' := [(2, .int r18), (1, .int x1), (0, .ref (ad 0))]) hx hb dX2_joinFresh_21 rfl hl (by decide) rfl (fun ls hl => ?_)
        refine lv_aload_n hx hb dX2_joinFresh_22 rfl (lv_at hl 2 rfl) ?_
        refine va_get (D := (dC, dI)) (ci := 2) (v := .ref (ad 16)) (C := RX2) (T := TX2) (N := 15) hx hb hts ziX2 hown hK hP 0 rfl rfl 8 (by decide) zw0 (fun _ h9 => h9) rfl dX2_joinFresh_23 ?_
        refine lv_iload_n hx hb dX2_joinFresh_26 rfl (lv_at hl 1 rfl) ?_
        refine lv_iconst (v := 1) hx hb dX2_joinFresh_27 (by decide) ?_
        refine lv_iadd hx hb dX2_joinFresh_28 ?_
        obtain ⟨r29, h_29, hm⟩ := ob hm
        refine z_callRi (As := [.int (x1 + 1)]) (rest := []) (ci := 0) (q := (RX0, TX0, 2)) ⟨hx, hb, hml, hown, hts⟩ (c_X0_has l dC dI cI (ad 16) (ad 17) 256 zg F (x1 + 1) r29 h_29) (cwV 1 hts gX2_joinFresh_X0_has rfl rfl rfl kv_X0_has ⟨Nat.le_of_ble_eq_true rfl, Nat.le_of_ble_eq_true rfl⟩) hK (z_mid (pjL_zg cI ad zk zm zb zsl2 zrl2 zul2 ztl2 zf zg zbd zro zmc zmg zsp zjnl2 zg) hP) rfl rfl rfl rfl hl.1 rfl (Nat.le_of_ble_eq_true rfl) dX2_joinFresh_29 ⟨Nat.zero_le _, Nat.zero_le _⟩ ?_
        obtain ⟨z_55, hq_55, hm⟩ := ob hm
        have J_55 : ∀ (y55 : Int32), z_55 = y55 → W p l e (headSpec wsX2_joinFresh ({ frames := 3, cells := 0, slots := 0, locals := 69 } : Room)).room s m ([.ref (ad 0)] : List Value).toArray below meth c H locs 0 0 (MQ below (zQv (dC, dI) (wL cI ad zk zm zb u_zs u_zr u_zu u_zt zf zg zbd zro zmc zmg zsp u_zjn) [(cI, .int)] A) ([.ref (ad 0)] : List Value).toArray s 0 0 A) (F0 m 55 ls [.int y55]) := by
          intro y55 ez
          rw [ez] at hm
          refine lv_istore_n (lv' := [(3, .int y55), (2, .int r18), (1, .int x1), (0, .ref (ad 0))]) hx hb dX2_joinFresh_55 rfl hl (by decide) rfl (fun ls hl => ?_)
          refine lv_iload_n hx hb dX2_joinFresh_56 rfl (lv_at hl 2 rfl) ?_
          obtain ⟨z_104, hq_104, hm⟩ := ob hm
          have J_104 : ∀ (zsj104 : zN), ∀ (zrj104 : zN), ∀ (zuj104 : zN), ∀ (ztj104 : zT), ∀ (zjnj104 : Int32), z_104 = (zsj104, zrj104, zuj104, ztj104, zjnj104) → ∀ (H : Heap) (locs : List Loc), va_P (dC, dI) vwCl (wL cI ad zk zm zb zsj104 zrj104 zuj104 ztj104 zf zg zbd zro zmc zmg zsp zjnj104) H → va_D A (wL cI ad zk zm zb zsj104 zrj104 zuj104 ztj104 zf zg zbd zro zmc zmg zsp zjnj104) → va_S A s.heap H locs → W p l e (headSpec wsX2_joinFresh ({ frames := 3, cells := 0, slots := 0, locals := 69 } : Room)).room s m ([.ref (ad 0)] : List Value).toArray below meth c H locs 0 0 (MQ below (zQv (dC, dI) (wL cI ad zk zm zb u_zs u_zr u_zu u_zt zf zg zbd zro zmc zmg zsp u_zjn) [(cI, .int)] A) ([.ref (ad 0)] : List Value).toArray s 0 0 A) (F0 m 104 ls []) := by
            intro zsj104 zrj104 zuj104 ztj104 zjnj104 ez H locs hP hD hS
            rw [ez] at hm
            refine lv_aload_n hx hb dX2_joinFresh_104 rfl (lv_at hl 3 rfl) ?_
            obtain ⟨⟨zr105, zu105⟩, h_105, hm⟩ := ob hm
            refine z_callWv (wc := (wL cI ad zk zm zb zsj104 zrj104 zuj104 ztj104 zf zg zbd zro zmc zmg zsp zjnj104)) (w1 := (wL cI ad zk zm zb zsj104 zr105 zu105 ztj104 zf zg zbd zro zmc zmg zsp zjnj104)) (ws := (wL cI ad zk zm zb zsj104 zrj104 zuj104 ztj104 zf zg zbd zro zmc zmg zsp zjnj104)) (ws' := (wL cI ad zk zm zb zsj104 zr105 zu105 ztj104 zf zg zbd zro zmc zmg zsp zjnj104)) (As := []) (rest := []) (ci := 2) (q := (RX2, TX2, 15)) ⟨hx, hb, hml, hown, hts⟩ (c_X2_noteTailSlope l dC dI cI ad zk zm zb zsj104 zrj104 zuj104 ztj104 zf zg zbd zro zmc zmg zsp zjnj104 F H.size zr105 zu105 h_105) (cwV 0 hts gX2_joinFresh_X2_noteTailSlope rfl rfl rfl kv_X2_noteTailSlope ⟨Nat.le_of_ble_eq_true rfl, Nat.le_of_ble_eq_true rfl⟩) hK hP hD hS hA (z_spAll (wL cI ad zk zm zb zsj104 zrj104 zuj104 ztj104 zf zg zbd zro zmc zmg zsp zjnj104) (wL cI ad zk zm zb zsj104 zr105 zu105 ztj104 zf zg zbd zro zmc zmg zsp zjnj104)) ((paL cI ad zk zm zb zsj104 zr105 zu105 ztj104 zf zg zbd zro zmc zmg zsp zjnj104).trans (paL cI ad zk zm zb zsj104 zrj104 zuj104 ztj104 zf zg zbd zro zmc zmg zsp zjnj104).symm) rfl rfl rfl rfl hl.1 rfl (Nat.le_of_ble_eq_true rfl) dX2_joinFresh_105 ⟨Nat.zero_le _, Nat.zero_le _⟩ (fun H locs hP hD hS => ?_)
            obtain ⟨x1_1, e_x1_1⟩ : ∃ y : Int32, y = x1 + 1 := ⟨_, rfl⟩
            have hm := bnd_e hm e_x1_1
            refine lv_iinc (v := x1_1) (lv' := [(1, .int x1_1), (3, .int y55), (2, .int r18), (0, .ref (ad 0))]) hx hb dX2_joinFresh_108 hl (k := 2) rfl (by rw [e_x1_1]; rfl) (by decide) rfl (fun ls hl => ?_)
            refine lv_goto (tgt := 2) hx hb dX2_joinFresh_111 (by decide) ?_
            exact ih_2 x1_1 zsj104 zr105 zu105 ztj104 zjnj104 hm _ _ hP hD hS _ (lv_sub hl [0, 3] rfl)
          have hm := hq_104
          refine lv_if_le (tgt := 82) hx hb dX2_joinFresh_57 (by decide) (fun c_57 => ?_) (fun c_57 => ?_)
          · have hm := it_t hm c_57
            refine lv_aload_n hx hb dX2_joinFresh_82 rfl (lv_at hl 3 rfl) ?_
            refine lv_aload_n hx hb dX2_joinFresh_83 rfl (lv_at hl 3 rfl) ?_
            refine va_get (D := (dC, dI)) (ci := 2) (v := .ref (ad 1)) (C := RX2) (T := TX2) (N := 15) hx hb hts ziX2 hown hK hP 0 rfl rfl 0 (by decide) zw1 (fun _ h9 => h9) rfl dX2_joinFresh_84 ?_
            refine lv_iload_n hx hb dX2_joinFresh_87 rfl (lv_at hl 1 rfl) ?_
            obtain ⟨r88, h_88, hm⟩ := ob hm
            refine z_callRi (As := [.int r18]) (rest := [.ref (ad 0)]) (ci := 0) (q := (RX0, TX0, 2)) ⟨hx, hb, hml, hown, hts⟩ (c_X0_at l dC dI cI (ad 1) (ad 2) 256 zk F r18 r88 h_88) (cwV 1 hts gX2_joinFresh_X0_at rfl rfl rfl kv_X0_at ⟨Nat.le_of_ble_eq_true rfl, Nat.le_of_ble_eq_true rfl⟩) hK (z_mid (pjL_zk cI ad zk zm zb zsl2 zrl2 zul2 ztl2 zf zg zbd zro zmc zmg zsp zjnl2 zk) hP) rfl rfl rfl rfl hl.1 rfl (Nat.le_of_ble_eq_true rfl) dX2_joinFresh_88 ⟨Nat.zero_le _, Nat.zero_le _⟩ ?_
            refine lv_iload_n hx hb dX2_joinFresh_91 rfl (lv_at hl 1 rfl) ?_
            obtain ⟨⟨zs92, zr92, zu92, zt92⟩, h_92, hm⟩ := ob hm
            refine z_callWv (wc := (wL cI ad zk zm zb zsl2 zrl2 zul2 ztl2 zf zg zbd zro zmc zmg zsp zjnl2)) (w1 := (wL cI ad zk zm zb zs92 zr92 zu92 zt92 zf zg zbd zro zmc zmg zsp zjnl2)) (ws := (wL cI ad zk zm zb zsl2 zrl2 zul2 ztl2 zf zg zbd zro zmc zmg zsp zjnl2)) (ws' := (wL cI ad zk zm zb zs92 zr92 zu92 zt92 zf zg zbd zro zmc zmg zsp zjnl2)) (As := [.int r88, .int r18]) (rest := []) (ci := 2) (q := (RX2, TX2, 15)) ⟨hx, hb, hml, hown, hts⟩ (c_X2_beginPiece l dC dI cI ad zk zm zb zsl2 zrl2 zul2 ztl2 zf zg zbd zro zmc zmg zsp zjnl2 F r88 r18 H.size zs92 zr92 zu92 zt92 h_92) (cwV 2 hts gX2_joinFresh_X2_beginPiece rfl rfl rfl kv_X2_beginPiece ⟨Nat.le_of_ble_eq_true rfl, Nat.le_of_ble_eq_true rfl⟩) hK hP hD hS hA (z_spAll (wL cI ad zk zm zb zsl2 zrl2 zul2 ztl2 zf zg zbd zro zmc zmg zsp zjnl2) (wL cI ad zk zm zb zs92 zr92 zu92 zt92 zf zg zbd zro zmc zmg zsp zjnl2)) ((paL cI ad zk zm zb zs92 zr92 zu92 zt92 zf zg zbd zro zmc zmg zsp zjnl2).trans (paL cI ad zk zm zb zsl2 zrl2 zul2 ztl2 zf zg zbd zro zmc zmg zsp zjnl2).symm) rfl rfl rfl rfl hl.1 rfl (Nat.le_of_ble_eq_true rfl) dX2_joinFresh_92 ⟨Nat.zero_le _, Nat.zero_le _⟩ (fun H locs hP hD hS => ?_)
            refine lv_aload_n hx hb dX2_joinFresh_95 rfl (lv_at hl 3 rfl) ?_
            refine lv_iload_n hx hb dX2_joinFresh_96 rfl (lv_at hl 1 rfl) ?_
            refine lv_iconst (v := 1) hx hb dX2_joinFresh_97 (by decide) ?_
            refine lv_iadd hx hb dX2_joinFresh_98 ?_
            refine lv_iload_n hx hb dX2_joinFresh_99 rfl (lv_at hl 0 rfl) ?_
            obtain ⟨⟨r100, zt100⟩, h_100, hm⟩ := ob hm
            refine z_callWi (wc := (wL cI ad zk zm zb zs92 zr92 zu92 zt92 zf zg zbd zro zmc zmg zsp zjnl2)) (w1 := (wL cI ad zk zm zb zs92 zr92 zu92 zt100 zf zg zbd zro zmc zmg zsp zjnl2)) (ws := (wL cI ad zk zm zb zs92 zr92 zu92 zt92 zf zg zbd zro zmc zmg zsp zjnl2)) (ws' := (wL cI ad zk zm zb zs92 zr92 zu92 zt100 zf zg zbd zro zmc zmg zsp zjnl2)) (As := [.int (r18 + 1), .int y55]) (rest := []) (ci := 2) (q := (RX2, TX2, 15)) ⟨hx, hb, hml, hown, hts⟩ (c_X2_tailTakes l dC dI cI ad zk zm zb zs92 zr92 zu92 zt92 zf zg zbd zro zmc zmg zsp zjnl2 F (r18 + 1) y55 H.size r100 zt100 h_100) (cwV 2 hts gX2_joinFresh_X2_tailTakes rfl rfl rfl kv_X2_tailTakes ⟨Nat.le_of_ble_eq_true rfl, Nat.le_of_ble_eq_true rfl⟩) hK hP hD hS hA (z_spAll (wL cI ad zk zm zb zs92 zr92 zu92 zt92 zf zg zbd zro zmc zmg zsp zjnl2) (wL cI ad zk zm zb zs92 zr92 zu92 zt100 zf zg zbd zro zmc zmg zsp zjnl2)) ((paL cI ad zk zm zb zs92 zr92 zu92 zt100 zf zg zbd zro zmc zmg zsp zjnl2).trans (paL cI ad zk zm zb zs92 zr92 zu92 zt92 zf zg zbd zro zmc zmg zsp zjnl2).symm) rfl rfl rfl rfl hl.1 rfl (Nat.le_of_ble_eq_true rfl) dX2_joinFresh_100 ⟨Nat.zero_le _, Nat.zero_le _⟩ (fun H locs hP hD hS => ?_)
            refine lv_pop hx hb dX2_joinFresh_103 rfl ?_
            exact J_104 zs92 zr92 zu92 zt100 zjnl2 (o2 hm) _ _ hP hD hS
          · have hm := it_f hm c_57
            refine lv_aload_n hx hb dX2_joinFresh_60 rfl (lv_at hl 3 rfl) ?_
            refine lv_iload_n hx hb dX2_joinFresh_61 rfl (lv_at hl 1 rfl) ?_
            refine lv_iload_n hx hb dX2_joinFresh_62 rfl (lv_at hl 0 rfl) ?_
            obtain ⟨⟨r63, zt63⟩, h_63, hm⟩ := ob hm
            refine z_callWi (wc := (wL cI ad zk zm zb zsl2 zrl2 zul2 ztl2 zf zg zbd zro zmc zmg zsp zjnl2)) (w1 := (wL cI ad zk zm zb zsl2 zrl2 zul2 zt63 zf zg zbd zro zmc zmg zsp zjnl2)) (ws := (wL cI ad zk zm zb zsl2 zrl2 zul2 ztl2 zf zg zbd zro zmc zmg zsp zjnl2)) (ws' := (wL cI ad zk zm zb zsl2 zrl2 zul2 zt63 zf zg zbd zro zmc zmg zsp zjnl2)) (As := [.int r18, .int y55]) (rest := []) (ci := 2) (q := (RX2, TX2, 15)) ⟨hx, hb, hml, hown, hts⟩ (c_X2_tailTakes l dC dI cI ad zk zm zb zsl2 zrl2 zul2 ztl2 zf zg zbd zro zmc zmg zsp zjnl2 F r18 y55 H.size r63 zt63 h_63) (cwV 2 hts gX2_joinFresh_X2_tailTakes rfl rfl rfl kv_X2_tailTakes ⟨Nat.le_of_ble_eq_true rfl, Nat.le_of_ble_eq_true rfl⟩) hK hP hD hS hA (z_spAll (wL cI ad zk zm zb zsl2 zrl2 zul2 ztl2 zf zg zbd zro zmc zmg zsp zjnl2) (wL cI ad zk zm zb zsl2 zrl2 zul2 zt63 zf zg zbd zro zmc zmg zsp zjnl2)) ((paL cI ad zk zm zb zsl2 zrl2 zul2 zt63 zf zg zbd zro zmc zmg zsp zjnl2).trans (paL cI ad zk zm zb zsl2 zrl2 zul2 ztl2 zf zg zbd zro zmc zmg zsp zjnl2).symm) rfl rfl rfl rfl hl.1 rfl (Nat.le_of_ble_eq_true rfl) dX2_joinFresh_63 ⟨Nat.zero_le _, Nat.zero_le _⟩ (fun H locs hP hD hS => ?_)
            refine lv_if_eq (tgt := 82) hx hb dX2_joinFresh_66 (by decide) (fun c_66 => ?_) (fun c_66 => ?_)
            · have hm := it_t hm c_66
              refine lv_aload_n hx hb dX2_joinFresh_82 rfl (lv_at hl 3 rfl) ?_
              refine lv_aload_n hx hb dX2_joinFresh_83 rfl (lv_at hl 3 rfl) ?_
              refine va_get (D := (dC, dI)) (ci := 2) (v := .ref (ad 1)) (C := RX2) (T := TX2) (N := 15) hx hb hts ziX2 hown hK hP 0 rfl rfl 0 (by decide) zw1 (fun _ h9 => h9) rfl dX2_joinFresh_84 ?_
              refine lv_iload_n hx hb dX2_joinFresh_87 rfl (lv_at hl 1 rfl) ?_
              obtain ⟨r88_1, h_88, hm⟩ := ob hm
              refine z_callRi (As := [.int r18]) (rest := [.ref (ad 0)]) (ci := 0) (q := (RX0, TX0, 2)) ⟨hx, hb, hml, hown, hts⟩ (c_X0_at l dC dI cI (ad 1) (ad 2) 256 zk F r18 r88_1 h_88) (cwV 1 hts gX2_joinFresh_X0_at rfl rfl rfl kv_X0_at ⟨Nat.le_of_ble_eq_true rfl, Nat.le_of_ble_eq_true rfl⟩) hK (z_mid (pjL_zk cI ad zk zm zb zsl2 zrl2 zul2 zt63 zf zg zbd zro zmc zmg zsp zjnl2 zk) hP) rfl rfl rfl rfl hl.1 rfl (Nat.le_of_ble_eq_true rfl) dX2_joinFresh_88 ⟨Nat.zero_le _, Nat.zero_le _⟩ ?_
              refine lv_iload_n hx hb dX2_joinFresh_91 rfl (lv_at hl 1 rfl) ?_
              obtain ⟨⟨zs92_1, zr92_1, zu92_1, zt92_1⟩, h_92, hm⟩ := ob hm
              refine z_callWv (wc := (wL cI ad zk zm zb zsl2 zrl2 zul2 zt63 zf zg zbd zro zmc zmg zsp zjnl2)) (w1 := (wL cI ad zk zm zb zs92_1 zr92_1 zu92_1 zt92_1 zf zg zbd zro zmc zmg zsp zjnl2)) (ws := (wL cI ad zk zm zb zsl2 zrl2 zul2 zt63 zf zg zbd zro zmc zmg zsp zjnl2)) (ws' := (wL cI ad zk zm zb zs92_1 zr92_1 zu92_1 zt92_1 zf zg zbd zro zmc zmg zsp zjnl2)) (As := [.int r88_1, .int r18]) (rest := []) (ci := 2) (q := (RX2, TX2, 15)) ⟨hx, hb, hml, hown, hts⟩ (c_X2_beginPiece l dC dI cI ad zk zm zb zsl2 zrl2 zul2 zt63 zf zg zbd zro zmc zmg zsp zjnl2 F r88_1 r18 H.size zs92_1 zr92_1 zu92_1 zt92_1 h_92) (cwV 2 hts gX2_joinFresh_X2_beginPiece rfl rfl rfl kv_X2_beginPiece ⟨Nat.le_of_ble_eq_true rfl, Nat.le_of_ble_eq_true rfl⟩) hK hP hD hS hA (z_spAll (wL cI ad zk zm zb zsl2 zrl2 zul2 zt63 zf zg zbd zro zmc zmg zsp zjnl2) (wL cI ad zk zm zb zs92_1 zr92_1 zu92_1 zt92_1 zf zg zbd zro zmc zmg zsp zjnl2)) ((paL cI ad zk zm zb zs92_1 zr92_1 zu92_1 zt92_1 zf zg zbd zro zmc zmg zsp zjnl2).trans (paL cI ad zk zm zb zsl2 zrl2 zul2 zt63 zf zg zbd zro zmc zmg zsp zjnl2).symm) rfl rfl rfl rfl hl.1 rfl (Nat.le_of_ble_eq_true rfl) dX2_joinFresh_92 ⟨Nat.zero_le _, Nat.zero_le _⟩ (fun H locs hP hD hS => ?_)
              refine lv_aload_n hx hb dX2_joinFresh_95 rfl (lv_at hl 3 rfl) ?_
              refine lv_iload_n hx hb dX2_joinFresh_96 rfl (lv_at hl 1 rfl) ?_
              refine lv_iconst (v := 1) hx hb dX2_joinFresh_97 (by decide) ?_
              refine lv_iadd hx hb dX2_joinFresh_98 ?_
              refine lv_iload_n hx hb dX2_joinFresh_99 rfl (lv_at hl 0 rfl) ?_
              obtain ⟨⟨r100_1, zt100_1⟩, h_100, hm⟩ := ob hm
              refine z_callWi (wc := (wL cI ad zk zm zb zs92_1 zr92_1 zu92_1 zt92_1 zf zg zbd zro zmc zmg zsp zjnl2)) (w1 := (wL cI ad zk zm zb zs92_1 zr92_1 zu92_1 zt100_1 zf zg zbd zro zmc zmg zsp zjnl2)) (ws := (wL cI ad zk zm zb zs92_1 zr92_1 zu92_1 zt92_1 zf zg zbd zro zmc zmg zsp zjnl2)) (ws' := (wL cI ad zk zm zb zs92_1 zr92_1 zu92_1 zt100_1 zf zg zbd zro zmc zmg zsp zjnl2)) (As := [.int (r18 + 1), .int y55]) (rest := []) (ci := 2) (q := (RX2, TX2, 15)) ⟨hx, hb, hml, hown, hts⟩ (c_X2_tailTakes l dC dI cI ad zk zm zb zs92_1 zr92_1 zu92_1 zt92_1 zf zg zbd zro zmc zmg zsp zjnl2 F (r18 + 1) y55 H.size r100_1 zt100_1 h_100) (cwV 2 hts gX2_joinFresh_X2_tailTakes rfl rfl rfl kv_X2_tailTakes ⟨Nat.le_of_ble_eq_true rfl, Nat.le_of_ble_eq_true rfl⟩) hK hP hD hS hA (z_spAll (wL cI ad zk zm zb zs92_1 zr92_1 zu92_1 zt92_1 zf zg zbd zro zmc zmg zsp zjnl2) (wL cI ad zk zm zb zs92_1 zr92_1 zu92_1 zt100_1 zf zg zbd zro zmc zmg zsp zjnl2)) ((paL cI ad zk zm zb zs92_1 zr92_1 zu92_1 zt100_1 zf zg zbd zro zmc zmg zsp zjnl2).trans (paL cI ad zk zm zb zs92_1 zr92_1 zu92_1 zt92_1 zf zg zbd zro zmc zmg zsp zjnl2).symm) rfl rfl rfl rfl hl.1 rfl (Nat.le_of_ble_eq_true rfl) dX2_joinFresh_100 ⟨Nat.zero_le _, Nat.zero_le _⟩ (fun H locs hP hD hS => ?_)
              refine lv_pop hx hb dX2_joinFresh_103 rfl ?_
              exact J_104 zs92_1 zr92_1 zu92_1 zt100_1 zjnl2 (o2 hm) _ _ hP hD hS
            · have hm := it_f hm c_66
              refine lv_aload_n hx hb dX2_joinFresh_69 rfl (lv_at hl 3 rfl) ?_
              refine lv_dup hx hb dX2_joinFresh_70 rfl ?_
              refine va_get (D := (dC, dI)) (ci := 2) (v := .int zjnl2) (C := RX2) (T := TX2) (N := 15) hx hb hts ziX2 hown hK hP 0 rfl rfl 14 (by decide) zw2 (fun _ h9 => h9) rfl dX2_joinFresh_71 ?_
              refine lv_iconst (v := 1) hx hb dX2_joinFresh_74 (by decide) ?_
              refine lv_iadd hx hb dX2_joinFresh_75 ?_
              refine va_put (D := (dC, dI)) (ci := 2) (v := .int (zjnl2 + 1)) (ty := .int) (C := RX2) (T := TX2) (N := 15) hx hb hts ziX2 tyX2 tyX2_ok nmX2 hown hK hP hD hS 0 rfl rfl 14 (by decide) zw2 (fun _ h9 => h9) rfl (by decide +kernel) rfl rfl (Nat.le_of_ble_eq_true rfl) dX2_joinFresh_76 (fun H locs hP hD hS => ?_)
              have hP : va_P (dC, dI) vwCl (wL cI ad zk zm zb zsl2 zrl2 zul2 zt63 zf zg zbd zro zmc zmg zsp (zjnl2 + 1)) H := hP
              have hD : va_D A (wL cI ad zk zm zb zsl2 zrl2 zul2 zt63 zf zg zbd zro zmc zmg zsp (zjnl2 + 1)) := hD
              refine lv_goto (tgt := 104) hx hb dX2_joinFresh_79 (by decide) ?_
              exact J_104 zsl2 zrl2 zul2 zt63 (zjnl2 + 1) (o2 hm) _ _ hP hD hS
        have hm := hq_55
        refine lv_if_eq (tgt := 48) hx hb dX2_joinFresh_32 (by decide) (fun c_32 => ?_) (fun c_32 => ?_)
        · have hm := it_t hm c_32
          refine lv_aload_n hx hb dX2_joinFresh_48 rfl (lv_at hl 2 rfl) ?_
          refine va_get (D := (dC, dI)) (ci := 2) (v := .ref (ad 1)) (C := RX2) (T := TX2) (N := 15) hx hb hts ziX2 hown hK hP 0 rfl rfl 0 (by decide) zw1 (fun _ h9 => h9) rfl dX2_joinFresh_49 ?_
          obtain ⟨r52, h_52, hm⟩ := ob hm
          refine z_callRi (As := []) (rest := []) (ci := 0) (q := (RX0, TX0, 2)) ⟨hx, hb, hml, hown, hts⟩ (c_X0_length l dC dI cI (ad 1) (ad 2) 256 zk F r52 h_52) (cwV 0 hts gX2_joinFresh_X0_length rfl rfl rfl kv_X0_length ⟨Nat.le_of_ble_eq_true rfl, Nat.le_of_ble_eq_true rfl⟩) hK (z_mid (pjL_zk cI ad zk zm zb zsl2 zrl2 zul2 ztl2 zf zg zbd zro zmc zmg zsp zjnl2 zk) hP) rfl rfl rfl rfl hl.1 rfl (Nat.le_of_ble_eq_true rfl) dX2_joinFresh_52 ⟨Nat.zero_le _, Nat.zero_le _⟩ ?_
          exact J_55 r52 (o2 hm)
        · have hm := it_f hm c_32
          refine lv_aload_n hx hb dX2_joinFresh_35 rfl (lv_at hl 2 rfl) ?_
          refine va_get (D := (dC, dI)) (ci := 2) (v := .ref (ad 16)) (C := RX2) (T := TX2) (N := 15) hx hb hts ziX2 hown hK hP 0 rfl rfl 8 (by decide) zw0 (fun _ h9 => h9) rfl dX2_joinFresh_36 ?_
          refine lv_iload_n hx hb dX2_joinFresh_39 rfl (lv_at hl 1 rfl) ?_
          refine lv_iconst (v := 1) hx hb dX2_joinFresh_40 (by decide) ?_
          refine lv_iadd hx hb dX2_joinFresh_41 ?_
          obtain ⟨r42, h_42, hm⟩ := ob hm
          refine z_callRi (As := [.int (x1 + 1)]) (rest := []) (ci := 0) (q := (RX0, TX0, 2)) ⟨hx, hb, hml, hown, hts⟩ (c_X0_at l dC dI cI (ad 16) (ad 17) 256 zg F (x1 + 1) r42 h_42) (cwV 1 hts gX2_joinFresh_X0_at rfl rfl rfl kv_X0_at ⟨Nat.le_of_ble_eq_true rfl, Nat.le_of_ble_eq_true rfl⟩) hK (z_mid (pjL_zg cI ad zk zm zb zsl2 zrl2 zul2 ztl2 zf zg zbd zro zmc zmg zsp zjnl2 zg) hP) rfl rfl rfl rfl hl.1 rfl (Nat.le_of_ble_eq_true rfl) dX2_joinFresh_42 ⟨Nat.zero_le _, Nat.zero_le _⟩ ?_
          refine lv_goto (tgt := 55) hx hb dX2_joinFresh_45 (by decide) ?_
          exact J_55 r42 (o2 hm)
  exact L_2 F 0 zs zr zu zt zjn hq_2 _ _ hP hD hS _ (lv_sub hl [0, 1] rfl)
