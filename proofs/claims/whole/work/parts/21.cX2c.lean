set_option maxHeartbeats 4000000 in
set_option maxRecDepth 100000 in
theorem c_X2_tailTakes (l : Launch) (dC : Nat → ClassId) (dI : Nat → Nat → Nat) (cI : ClassId) (ad : Nat → Nat) (zk : zN) (zm : zN) (zb : zN) (zs : zN) (zr : zN) (zu : zN) (zt : zT) (zf : zN) (zg : zN) (zbd : Int32) (zro : Int32) (zmc : Int32) (zmg : Int32) (zsp : Int32) (zjn : Int32) (F : Nat) (p1 : Int32) (p2 : Int32) (sz : Nat) (r : Int32) (u_zt : zT) (hm : X2_tailTakes F zk zt p1 p2 = some (r, u_zt)) : Met l yX2_tailTakes wsX2_tailTakes ({ frames := 2, cells := 0, slots := 0, locals := 42 }) (va_Pc [.ref (ad 0), .int p1, .int p2] (zW (dC, dI) (wL cI ad zk zm zb zs zr zu zt zf zg zbd zro zmc zmg zsp zjn) [(cI, .int)] sz)) (zQi (dC, dI) (wL cI ad zk zm zb zs zr zu u_zt zf zg zbd zro zmc zmg zsp zjn) [(cI, .int)] (va_A (wL cI ad zk zm zb zs zr zu zt zf zg zbd zro zmc zmg zsp zjn) sz) r) 0 0 (va_A (wL cI ad zk zm zb zs zr zu zt zf zg zbd zro zmc zmg zsp zjn) sz) := by
  refine Met.ofW (cc := cX2_tailTakes) (maxL := 4) (ret := (some .boolean)) (by decide) rfl ?_
  intro p e s m args below meth c s₁ B hml hv
  obtain ⟨rfl, hsz, hP, hK, hD0⟩ := hv
  have hx := B.exec
  have hb := B.bytes
  have hr := B.returns
  have hts := atoms_spec (ws := wsX2_tailTakes) B.pre
  have hown : s.vm.findClass RX2 = some m.cls := findClass_of_methodNamed B.named
  have hlocks := B.notSynchronized
  subst hsz
  have hD := hD0.self (sz := s.heap.size)
  generalize hAe : va_A (wL cI ad zk zm zb zs zr zu zt zf zg zbd zro zmc zmg zsp zjn) s.heap.size = A at hD ⊢
  have hA : ∀ q : Nat, s.heap.size ≤ q → A q := fun q h => by rw [← hAe]; exact Or.inr h
  have hS : va_S A s.heap s.heap [] := va_S.rf
  generalize eL : ([] : List Loc) = locs at hS ⊢
  obtain ⟨H, eH⟩ : ∃ z : Heap, z = s.heap := ⟨_, rfl⟩
  have hP : va_P (dC, dI) vwCl (wL cI ad zk zm zb zs zr zu zt zf zg zbd zro zmc zmg zsp zjn) H := by rw [eH]; exact hP
  have hS : va_S A s.heap H locs := by rw [eH]; exact hS
  refine z_heap eH ?_
  have hl := lv_entry ([.ref (ad 0), .int p1, .int p2]) (n := 4) (Nat.le_of_ble_eq_true rfl)
  rw [lg_entry_eq]
  generalize (lg_sl ([.ref (ad 0), .int p1, .int p2]) ++ List.replicate (4 - (lg_sl ([.ref (ad 0), .int p1, .int p2])).length) Slot.unset).toArray = ls at hl ⊢
  have hl : lv_has ls 4 [(0, .ref (ad 0)), (1, .int p1), (2, .int p2)] := hl
  have zw0 := hts (.fieldLink RX2 36 "LearnedLedge" "tail" "LLearnedLedge$SlopeRange;") (by decide +kernel)
  have zw1 := hts (.fieldLink RX2 14 "LearnedLedge" "keys" "LLearnedLedge$Numbers;") (by decide +kernel)
  have ziX2 : ∀ w ∈ u_ws RX2 TX2 15, w ∈ wsX2_tailTakes := by decide +kernel
  refine lv_iload_n hx hb dX2_tailTakes_0 rfl (lv_at hl 1 rfl) ?_
  refine lv_istore_n (lv' := [(3, .int p1), (0, .ref (ad 0)), (1, .int p1), (2, .int p2)]) hx hb dX2_tailTakes_1 rfl hl (by decide) rfl (fun ls hl => ?_)
  obtain ⟨z_2, hq_2, hm⟩ := ob hm
  have hmo_2 := hm
  have K_2 : ∀ (ztx2 : zT), z_2 = Sum.inr ztx2 → ∀ (H : Heap) (locs : List Loc), va_P (dC, dI) vwCl (wL cI ad zk zm zb zs zr zu ztx2 zf zg zbd zro zmc zmg zsp zjn) H → va_D A (wL cI ad zk zm zb zs zr zu ztx2 zf zg zbd zro zmc zmg zsp zjn) → va_S A s.heap H locs → ∀ (ls : Array Slot), lv_has ls 4 [] → W p l e (headSpec wsX2_tailTakes ({ frames := 2, cells := 0, slots := 0, locals := 42 } : Room)).room s m ([.ref (ad 0), .int p1, .int p2] : List Value).toArray below meth c H locs 0 0 (MQ below (zQi (dC, dI) (wL cI ad zk zm zb zs zr zu u_zt zf zg zbd zro zmc zmg zsp zjn) [(cI, .int)] A r) ([.ref (ad 0), .int p1, .int p2] : List Value).toArray s 0 0 A) (F0 m 34 ls []) := by
    intro ztx2 ez H locs hP hD hS ls hl
    rw [ez] at hm
    refine lv_iconst (v := 1) hx hb dX2_tailTakes_34 (by decide) ?_
    cases o2 hm
    exact W.zret hx hb hr rfl (fun t ht hW => ⟨⟨_, (), rfl, rfl, by rw [ht]; exact hP, va_K.moved hW.alike hK, hD⟩, hS.F ht⟩) hS.2.2 dX2_tailTakes_35
  have L_2 : ∀ (n : Nat) (x3 : Int32) (ztl2 : zT), X2_tailTakes_L2 p2 zk F n x3 ztl2 = some z_2 → ∀ (H : Heap) (locs : List Loc), va_P (dC, dI) vwCl (wL cI ad zk zm zb zs zr zu ztl2 zf zg zbd zro zmc zmg zsp zjn) H → va_D A (wL cI ad zk zm zb zs zr zu ztl2 zf zg zbd zro zmc zmg zsp zjn) → va_S A s.heap H locs → ∀ (ls : Array Slot), lv_has ls 4 [(3, .int x3), (0, .ref (ad 0)), (2, .int p2)] → W p l e (headSpec wsX2_tailTakes ({ frames := 2, cells := 0, slots := 0, locals := 42 } : Room)).room s m ([.ref (ad 0), .int p1, .int p2] : List Value).toArray below meth c H locs 0 0 (MQ below (zQi (dC, dI) (wL cI ad zk zm zb zs zr zu u_zt zf zg zbd zro zmc zmg zsp zjn) [(cI, .int)] A r) ([.ref (ad 0), .int p1, .int p2] : List Value).toArray s 0 0 A) (F0 m 2 ls []) := by
    intro n
    induction n with
    | zero => intro x3 ztl2 hm; cases hm
    | succ n ih_2 =>
      intro x3 ztl2 hm H locs hP hD hS ls hl
      refine lv_iload_n hx hb dX2_tailTakes_2 rfl (lv_at hl 0 rfl) ?_
      refine lv_iload_n hx hb dX2_tailTakes_3 rfl (lv_at hl 2 rfl) ?_
      refine lv_icmp_ge (tgt := 34) hx hb dX2_tailTakes_4 (by decide) (fun c_4 => ?_) (fun c_4 => ?_)
      · have hm := it_t hm c_4
        exact K_2 ztl2 (o2 hm) _ _ hP hD hS _ (lv_sub hl [] rfl)
      · have hm := it_f hm c_4
        refine lv_aload_n hx hb dX2_tailTakes_7 rfl (lv_at hl 1 rfl) ?_
        refine va_get (D := (dC, dI)) (ci := 2) (v := .ref (ad 13)) (C := RX2) (T := TX2) (N := 15) hx hb hts ziX2 hown hK hP 0 rfl rfl 6 (by decide) zw0 (fun _ h9 => h9) rfl dX2_tailTakes_8 ?_
        refine lv_aload_n hx hb dX2_tailTakes_11 rfl (lv_at hl 1 rfl) ?_
        refine va_get (D := (dC, dI)) (ci := 2) (v := .ref (ad 1)) (C := RX2) (T := TX2) (N := 15) hx hb hts ziX2 hown hK hP 0 rfl rfl 0 (by decide) zw1 (fun _ h9 => h9) rfl dX2_tailTakes_12 ?_
        refine lv_iload_n hx hb dX2_tailTakes_15 rfl (lv_at hl 0 rfl) ?_
        obtain ⟨r16, h_16, hm⟩ := ob hm
        refine z_callRi (As := [.int x3]) (rest := [.ref (ad 13)]) (ci := 0) (q := (RX0, TX0, 2)) ⟨hx, hb, hml, hown, hts⟩ (c_X0_at l dC dI cI (ad 1) (ad 2) 256 zk F x3 r16 h_16) (cwV 1 hts gX2_tailTakes_X0_at rfl rfl rfl kv_X0_at ⟨Nat.le_of_ble_eq_true rfl, Nat.le_of_ble_eq_true rfl⟩) hK (hP.sub (ws' := (wN cI (ad 1) (ad 2) 256 zk)) [1, 2] rfl) rfl rfl rfl rfl hl.1 rfl (Nat.le_of_ble_eq_true rfl) dX2_tailTakes_16 ⟨Nat.zero_le _, Nat.zero_le _⟩ ?_
        refine lv_iload_n hx hb dX2_tailTakes_19 rfl (lv_at hl 0 rfl) ?_
        obtain ⟨⟨r20, zt20⟩, h_20, hm⟩ := ob hm
        refine z_callWi (wc := (wT (ad 13) ztl2)) (w1 := (wT (ad 13) zt20)) (ws := (wL cI ad zk zm zb zs zr zu ztl2 zf zg zbd zro zmc zmg zsp zjn)) (ws' := (wL cI ad zk zm zb zs zr zu zt20 zf zg zbd zro zmc zmg zsp zjn)) [13] [0, 1, 2, 3, 4, 5, 6, 7, 8, 9, 10, 11, 12, 14, 15, 16, 17] 18 (As := [.int r16, .int x3]) (rest := []) (ci := 1) (q := (RX1, TX1, 7)) ⟨hx, hb, hml, hown, hts⟩ (c_X1_take l dC dI (ad 13) ztl2 F r16 x3 H.size r20 zt20 h_20) (cwV 2 hts gX2_tailTakes_X1_take rfl rfl rfl kv_X1_take ⟨Nat.le_of_ble_eq_true rfl, Nat.le_of_ble_eq_true rfl⟩) (hK.sub (tys' := []) [] rfl) hP hD hS hA (hP.sub (ws' := (wT (ad 13) ztl2)) [13] rfl) (hD.sub (ws' := (wT (ad 13) ztl2)) [13] (by decide) rfl) rfl rfl (by decide) rfl rfl (by decide) rfl rfl rfl rfl rfl hl.1 rfl (Nat.le_of_ble_eq_true rfl) dX2_tailTakes_20 ⟨Nat.zero_le _, Nat.zero_le _⟩ (fun H locs hP hD hS => ?_)
        refine lv_if_ne (tgt := 28) hx hb dX2_tailTakes_23 (by decide) (fun c_23 => ?_) (fun c_23 => ?_)
        · have hm := it_f hm c_23
          obtain ⟨x3_1, e_x3_1⟩ : ∃ y : Int32, y = x3 + 1 := ⟨_, rfl⟩
          have hm := bnd_e hm e_x3_1
          refine lv_iinc (v := x3_1) (lv' := [(3, .int x3_1), (0, .ref (ad 0)), (2, .int p2)]) hx hb dX2_tailTakes_28 hl (k := 0) rfl (by rw [e_x3_1]; rfl) (by decide) rfl (fun ls hl => ?_)
          refine lv_goto (tgt := 2) hx hb dX2_tailTakes_31 (by decide) ?_
          exact ih_2 x3_1 zt20 hm _ _ hP hD hS _ (lv_sub hl [0, 1, 2] rfl)
        · have hm := it_t hm c_23
          refine lv_iconst (v := 0) hx hb dX2_tailTakes_26 (by decide) ?_
          have e_2 := o2 hm
          have hm := hmo_2
          rw [e_2] at hm
          cases o2 hm
          exact W.zret hx hb hr rfl (fun t ht hW => ⟨⟨_, (), rfl, rfl, by rw [ht]; exact hP, va_K.moved hW.alike hK, hD⟩, hS.F ht⟩) hS.2.2 dX2_tailTakes_27
  exact L_2 F p1 zt hq_2 _ _ hP hD hS _ (lv_sub hl [0, 1, 3] rfl)
set_option maxHeartbeats 4000000 in
set_option maxRecDepth 100000 in
theorem c_X2_joinFresh (l : Launch) (dC : Nat → ClassId) (dI : Nat → Nat → Nat) (cI : ClassId) (ad : Nat → Nat) (zk : zN) (zm : zN) (zb : zN) (zs : zN) (zr : zN) (zu : zN) (zt : zT) (zf : zN) (zg : zN) (zbd : Int32) (zro : Int32) (zmc : Int32) (zmg : Int32) (zsp : Int32) (zjn : Int32) (F : Nat) (sz : Nat) (u_zs : zN) (u_zr : zN) (u_zu : zN) (u_zt : zT) (u_zjn : Int32) (hm : X2_joinFresh F zk zs zr zu zt zg zbd zjn = some (u_zs, u_zr, u_zu, u_zt, u_zjn)) : Met l yX2_joinFresh wsX2_joinFresh ({ frames := 3, cells := 0, slots := 0, locals := 69 }) (va_Pc [.ref (ad 0)] (zW (dC, dI) (wL cI ad zk zm zb zs zr zu zt zf zg zbd zro zmc zmg zsp zjn) [(cI, .int)] sz)) (zQv (dC, dI) (wL cI ad zk zm zb u_zs u_zr u_zu u_zt zf zg zbd zro zmc zmg zsp u_zjn) [(cI, .int)] (va_A (wL cI ad zk zm zb zs zr zu zt zf zg zbd zro zmc zmg zsp zjn) sz)) 0 0 (va_A (wL cI ad zk zm zb zs zr zu zt zf zg zbd zro zmc zmg zsp zjn) sz) := by
  refine Met.ofW (cc := cX2_joinFresh) (maxL := 4) (ret := none) (by decide) rfl ?_
  intro p e s m args below meth c s₁ B hml hv
  obtain ⟨rfl, hsz, hP, hK, hD0⟩ := hv
  have hx := B.exec
  have hb := B.bytes
  have hr := B.returns
  have hts := atoms_spec (ws := wsX2_joinFresh) B.pre
  have hown : s.vm.findClass RX2 = some m.cls := findClass_of_methodNamed B.named
  have hlocks := B.notSynchronized
  subst hsz
  have hD := hD0.self (sz := s.heap.size)
  generalize hAe : va_A (wL cI ad zk zm zb zs zr zu zt zf zg zbd zro zmc zmg zsp zjn) s.heap.size = A at hD ⊢
  have hA : ∀ q : Nat, s.heap.size ≤ q → A q := fun q h => by rw [← hAe]; exact Or.inr h
  have hS : va_S A s.heap s.heap [] := va_S.rf
  generalize eL : ([] : List Loc) = locs at hS ⊢
  obtain ⟨H, eH⟩ : ∃ z : Heap, z = s.heap := ⟨_, rfl⟩
  have hP : va_P (dC, dI) vwCl (wL cI ad zk zm zb zs zr zu zt zf zg zbd zro zmc zmg zsp zjn) H := by rw [eH]; exact hP
  have hS : va_S A s.heap H locs := by rw [eH]; exact hS
  refine z_heap eH ?_
  have hl := lv_entry ([.ref (ad 0)]) (n := 4) (Nat.le_of_ble_eq_true rfl)
  rw [lg_entry_eq]
  generalize (lg_sl ([.ref (ad 0)]) ++ List.replicate (4 - (lg_sl ([.ref (ad 0)])).length) Slot.unset).toArray = ls at hl ⊢
  have hl : lv_has ls 4 [(0, .ref (ad 0))] := hl
  have zw0 := hts (.fieldLink RX2 43 "LearnedLedge" "freshStarts" "LLearnedLedge$Numbers;") (by decide +kernel)
  have zw1 := hts (.fieldLink RX2 14 "LearnedLedge" "keys" "LLearnedLedge$Numbers;") (by decide +kernel)
  have zw2 := hts (.fieldLink RX2 62 "LearnedLedge" "joinCount" "I") (by decide +kernel)
  have ziX2 : ∀ w ∈ u_ws RX2 TX2 15, w ∈ wsX2_joinFresh := by decide +kernel
  refine lv_iconst (v := 0) hx hb dX2_joinFresh_0 (by decide) ?_
  refine lv_istore_n (lv' := [(1, .int 0), (0, .ref (ad 0))]) hx hb dX2_joinFresh_1 rfl hl (by decide) rfl (fun ls hl => ?_)
  obtain ⟨z_2, hq_2, hm⟩ := ob hm
  have K_2 : ∀ (zsx2 : zN), ∀ (zrx2 : zN), ∀ (zux2 : zN), ∀ (ztx2 : zT), ∀ (zjnx2 : Int32), z_2 = (zsx2, zrx2, zux2, ztx2, zjnx2) → ∀ (H : Heap) (locs : List Loc), va_P (dC, dI) vwCl (wL cI ad zk zm zb zsx2 zrx2 zux2 ztx2 zf zg zbd zro zmc zmg zsp zjnx2) H → va_D A (wL cI ad zk zm zb zsx2 zrx2 zux2 ztx2 zf zg zbd zro zmc zmg zsp zjnx2) → va_S A s.heap H locs → ∀ (ls : Array Slot), lv_has ls 4 [] → W p l e (headSpec wsX2_joinFresh ({ frames := 3, cells := 0, slots := 0, locals := 69 } : Room)).room s m ([.ref (ad 0)] : List Value).toArray below meth c H locs 0 0 (MQ below (zQv (dC, dI) (wL cI ad zk zm zb u_zs u_zr u_zu u_zt zf zg zbd zro zmc zmg zsp u_zjn) [(cI, .int)] A) ([.ref (ad 0)] : List Value).toArray s 0 0 A) (F0 m 114 ls []) := by
    intro zsx2 zrx2 zux2 ztx2 zjnx2 ez H locs hP hD hS ls hl
    rw [ez] at hm
    cases o2 hm
    exact W.vret hx hb hr (fun t ht hW => ⟨⟨(), rfl, trivial, by rw [ht]; exact hP, va_K.moved hW.alike hK, hD⟩, hS.F ht⟩) hS.2.2 dX2_joinFresh_114
  have L_2 : ∀ (n : Nat) (x1 : Int32) (zsl2 : zN) (zrl2 : zN) (zul2 : zN) (ztl2 : zT) (zjnl2 : Int32), X2_joinFresh_L2 zk zg zbd F n x1 zsl2 zrl2 zul2 ztl2 zjnl2 = some z_2 → ∀ (H : Heap) (locs : List Loc), va_P (dC, dI) vwCl (wL cI ad zk zm zb zsl2 zrl2 zul2 ztl2 zf zg zbd zro zmc zmg zsp zjnl2) H → va_D A (wL cI ad zk zm zb zsl2 zrl2 zul2 ztl2 zf zg zbd zro zmc zmg zsp zjnl2) → va_S A s.heap H locs → ∀ (ls : Array Slot), lv_has ls 4 [(1, .int x1), (0, .ref (ad 0))] → W p l e (headSpec wsX2_joinFresh ({ frames := 3, cells := 0, slots := 0, locals := 69 } : Room)).room s m ([.ref (ad 0)] : List Value).toArray below meth c H locs 0 0 (MQ below (zQv (dC, dI) (wL cI ad zk zm zb u_zs u_zr u_zu u_zt zf zg zbd zro zmc zmg zsp u_zjn) [(cI, .int)] A) ([.ref (ad 0)] : List Value).toArray s 0 0 A) (F0 m 2 ls []) := by
    intro n
    induction n with
    | zero => intro x1 zsl2 zrl2 zul2 ztl2 zjnl2 hm; cases hm
    | succ n ih_2 =>
      intro x1 zsl2 zrl2 zul2 ztl2 zjnl2 hm H locs hP hD hS ls hl
      refine lv_iload_n hx hb dX2_joinFresh_2 rfl (lv_at hl 0 rfl) ?_
      refine lv_aload_n hx hb dX2_joinFresh_3 rfl (lv_at hl 1 rfl) ?_
      refine va_get (D := (dC, dI)) (ci := 2) (v := .ref (ad 16)) (C := RX2) (T := TX2) (N := 15) hx hb hts ziX2 hown hK hP 0 rfl rfl 8 (by decide) zw0 (fun _ h9 => h9) rfl dX2_joinFresh_4 ?_
      obtain ⟨r7, h_7, hm⟩ := ob hm
      refine z_callRi (As := []) (rest := [.int x1]) (ci := 0) (q := (RX0, TX0, 2)) ⟨hx, hb, hml, hown, hts⟩ (c_X0_length l dC dI cI (ad 16) (ad 17) 256 zg F r7 h_7) (cwV 0 hts gX2_joinFresh_X0_length rfl rfl rfl kv_X0_length ⟨Nat.le_of_ble_eq_true rfl, Nat.le_of_ble_eq_true rfl⟩) hK (hP.sub (ws' := (wN cI (ad 16) (ad 17) 256 zg)) [16, 17] rfl) rfl rfl rfl rfl hl.1 rfl (Nat.le_of_ble_eq_true rfl) dX2_joinFresh_7 ⟨Nat.zero_le _, Nat.zero_le _⟩ ?_
      refine lv_icmp_ge (tgt := 114) hx hb dX2_joinFresh_10 (by decide) (fun c_10 => ?_) (fun c_10 => ?_)
      · have hm := it_t hm c_10
        exact K_2 zsl2 zrl2 zul2 ztl2 zjnl2 (o2 hm) _ _ hP hD hS _ (lv_sub hl [] rfl)
      · have hm := it_f hm c_10
        refine lv_aload_n hx hb dX2_joinFresh_13 rfl (lv_at hl 1 rfl) ?_
        refine va_get (D := (dC, dI)) (ci := 2) (v := .ref (ad 16)) (C := RX2) (T := TX2) (N := 15) hx hb hts ziX2 hown hK hP 0 rfl rfl 8 (by decide) zw0 (fun _ h9 => h9) rfl dX2_joinFresh_14 ?_
        refine lv_iload_n hx hb dX2_joinFresh_17 rfl (lv_at hl 0 rfl) ?_
        obtain ⟨r18, h_18, hm⟩ := ob hm
        refine z_callRi (As := [.int x1]) (rest := []) (ci := 0) (q := (RX0, TX0, 2)) ⟨hx, hb, hml, hown, hts⟩ (c_X0_at l dC dI cI (ad 16) (ad 17) 256 zg F x1 r18 h_18) (cwV 1 hts gX2_joinFresh_X0_at rfl rfl rfl kv_X0_at ⟨Nat.le_of_ble_eq_true rfl, Nat.le_of_ble_eq_true rfl⟩) hK (hP.sub (ws' := (wN cI (ad 16) (ad 17) 256 zg)) [16, 17] rfl) rfl rfl rfl rfl hl.1 rfl (Nat.le_of_ble_eq_true rfl) dX2_joinFresh_18 ⟨Nat.zero_le _, Nat.zero_le _⟩ ?_
        refine lv_istore_n (lv' := [(2, .int r18), (1, .int x1), (0, .ref (ad 0))]) hx hb dX2_joinFresh_21 rfl hl (by decide) rfl (fun ls hl => ?_)
        refine lv_aload_n hx hb dX2_joinFresh_22 rfl (lv_at hl 2 rfl) ?_
        refine va_get (D := (dC, dI)) (ci := 2) (v := .ref (ad 16)) (C := RX2) (T := TX2) (N := 15) hx hb hts ziX2 hown hK hP 0 rfl rfl 8 (by decide) zw0 (fun _ h9 => h9) rfl dX2_joinFresh_23 ?_
        refine lv_iload_n hx hb dX2_joinFresh_26 rfl (lv_at hl 1 rfl) ?_
        refine lv_iconst (v := 1) hx hb dX2_joinFresh_27 (by decide) ?_
        refine lv_iadd hx hb dX2_joinFresh_28 ?_
        obtain ⟨r29, h_29, hm⟩ := ob hm
        refine z_callRi (As := [.int (x1 + 1)]) (rest := []) (ci := 0) (q := (RX0, TX0, 2)) ⟨hx, hb, hml, hown, hts⟩ (c_X0_has l dC dI cI (ad 16) (ad 17) 256 zg F (x1 + 1) r29 h_29) (cwV 1 hts gX2_joinFresh_X0_has rfl rfl rfl kv_X0_has ⟨Nat.le_of_ble_eq_true rfl, Nat.le_of_ble_eq_true rfl⟩) hK (hP.sub (ws' := (wN cI (ad 16) (ad 17) 256 zg)) [16, 17] rfl) rfl rfl rfl rfl hl.1 rfl (Nat.le_of_ble_eq_true rfl) dX2_joinFresh_29 ⟨Nat.zero_le _, Nat.zero_le _⟩ ?_
        obtain ⟨z_55, hq_55, hm⟩ := ob hm
        have J_55 : ∀ (y55 : Int32), z_55 = y55 → W p l e (headSpec wsX2_joinFresh ({ frames := 3, cells := 0, slots := 0, locals := 69 } : Room)).room s m ([.ref (ad 0)] : List Value).toArray below meth c H locs 0 0 (MQ below (zQv (dC, dI) (wL cI ad zk zm zb u_zs u_zr u_zu u_zt zf zg zbd zro zmc zmg zsp u_zjn) [(cI, .int)] A) ([.ref (ad 0)] : List Value).toArray s 0 0 A) (F0 m 55 ls [.int y55]) := by
          intro y55 ez
          rw [ez] at hm
          refine lv_istore_n (lv' := [(3, .int y55), (2, .int r18), (1, .int x1), (0, .ref (ad 0))]) hx hb dX2_joinFresh_55 rfl hl (by decide) rfl (fun ls hl => ?_)
          refine lv_iload_n hx hb dX2_joinFresh_56 rfl (lv_at hl 2 rfl) ?_
          obtain ⟨z_104, hq_104, hm⟩ := ob hm
          have J_104 : ∀ (zsj104 : zN), ∀ (zrj104 : zN), ∀ (zuj104 : zN), ∀ (ztj104 : zT), ∀ (zjnj104 : Int32), z_104 = (zsj104, zrj104, zuj104, ztj104, zjnj104) → ∀ (H : Heap) (locs : List Loc), va_P (dC, dI) vwCl (wL cI ad zk zm zb zsj104 zrj104 zuj104 ztj104 zf zg zbd zro zmc zmg zsp zjnj104) H → va_D A (wL cI ad zk zm zb zsj104 zrj104 zuj104 ztj104 zf zg zbd zro zmc zmg zsp zjnj104) → va_S A s.heap H locs → W p l e (headSpec wsX2_joinFresh ({ frames := 3, cells := 0, slots := 0, locals := 69 } : Room)).room s m ([.ref (ad 0)] : List Value).toArray below meth c H locs 0 0 (MQ below (zQv (dC, dI) (wL cI ad zk zm zb u_zs u_zr u_zu u_zt zf zg zbd zro zmc zmg zsp u_zjn) [(cI, .int)] A) ([.ref (ad 0)] : List Value).toArray s 0 0 A) (F0 m 104 ls []) := by
            intro zsj104 zrj104 zuj104 ztj104 zjnj104 ez H locs hP hD hS
            rw [ez] at hm
            refine lv_aload_n hx hb dX2_joinFresh_104 rfl (lv_at hl 3 rfl) ?_
            obtain ⟨⟨zr105, zu105⟩, h_105, hm⟩ := ob hm
            refine z_callWv (wc := (wL cI ad zk zm zb zsj104 zrj104 zuj104 ztj104 zf zg zbd zro zmc zmg zsp zjnj104)) (w1 := (wL cI ad zk zm zb zsj104 zr105 zu105 ztj104 zf zg zbd zro zmc zmg zsp zjnj104)) (ws := (wL cI ad zk zm zb zsj104 zrj104 zuj104 ztj104 zf zg zbd zro zmc zmg zsp zjnj104)) (ws' := (wL cI ad zk zm zb zsj104 zr105 zu105 ztj104 zf zg zbd zro zmc zmg zsp zjnj104)) [0, 1, 2, 3, 4, 5, 6, 7, 8, 9, 10, 11, 12, 13, 14, 15, 16, 17] [] 18 (As := []) (rest := []) (ci := 2) (q := (RX2, TX2, 15)) ⟨hx, hb, hml, hown, hts⟩ (c_X2_noteTailSlope l dC dI cI ad zk zm zb zsj104 zrj104 zuj104 ztj104 zf zg zbd zro zmc zmg zsp zjnj104 F H.size zr105 zu105 h_105) (cwV 0 hts gX2_joinFresh_X2_noteTailSlope rfl rfl rfl kv_X2_noteTailSlope ⟨Nat.le_of_ble_eq_true rfl, Nat.le_of_ble_eq_true rfl⟩) hK hP hD hS hA hP hD rfl rfl (by decide) rfl rfl (by decide) rfl rfl rfl rfl rfl hl.1 rfl (Nat.le_of_ble_eq_true rfl) dX2_joinFresh_105 ⟨Nat.zero_le _, Nat.zero_le _⟩ (fun H locs hP hD hS => ?_)
            obtain ⟨x1_1, e_x1_1⟩ : ∃ y : Int32, y = x1 + 1 := ⟨_, rfl⟩
            have hm := bnd_e hm e_x1_1
            refine lv_iinc (v := x1_1) (lv' := [(1, .int x1_1), (3, .int y55), (2, .int r18), (0, .ref (ad 0))]) hx hb dX2_joinFresh_108 hl (k := 2) rfl (by rw [e_x1_1]; rfl) (by decide) rfl (fun ls hl => ?_)
            refine lv_goto (tgt := 2) hx hb dX2_joinFresh_111 (by decide) ?_
            exact ih_2 x1_1 zsj104 zr105 zu105 ztj104 zjnj104 hm _ _ hP hD hS _ (lv_sub hl [0, 3] rfl)
          have hm := hq_104
          refine lv_if_le (tgt := 82) hx hb dX2_joinFresh_57 (by decide) (fun c_57 => ?_) (fun c_57 => ?_)
          · have hm := it_t hm c_57
            refine lv_aload_n hx hb dX2_joinFresh_82 rfl (lv_at hl 3 rfl) ?_
            refine lv_aload_n hx hb dX2_joinFresh_83 rfl (lv_at hl 3 rfl) ?_
            refine va_get (D := (dC, dI)) (ci := 2) (v := .ref (ad 1)) (C := RX2) (T := TX2) (N := 15) hx hb hts ziX2 hown hK hP 0 rfl rfl 0 (by decide) zw1 (fun _ h9 => h9) rfl dX2_joinFresh_84 ?_
            refine lv_iload_n hx hb dX2_joinFresh_87 rfl (lv_at hl 1 rfl) ?_
            obtain ⟨r88, h_88, hm⟩ := ob hm
            refine z_callRi (As := [.int r18]) (rest := [.ref (ad 0)]) (ci := 0) (q := (RX0, TX0, 2)) ⟨hx, hb, hml, hown, hts⟩ (c_X0_at l dC dI cI (ad 1) (ad 2) 256 zk F r18 r88 h_88) (cwV 1 hts gX2_joinFresh_X0_at rfl rfl rfl kv_X0_at ⟨Nat.le_of_ble_eq_true rfl, Nat.le_of_ble_eq_true rfl⟩) hK (hP.sub (ws' := (wN cI (ad 1) (ad 2) 256 zk)) [1, 2] rfl) rfl rfl rfl rfl hl.1 rfl (Nat.le_of_ble_eq_true rfl) dX2_joinFresh_88 ⟨Nat.zero_le _, Nat.zero_le _⟩ ?_
            refine lv_iload_n hx hb dX2_joinFresh_91 rfl (lv_at hl 1 rfl) ?_
            obtain ⟨⟨zs92, zr92, zu92, zt92⟩, h_92, hm⟩ := ob hm
            refine z_callWv (wc := (wL cI ad zk zm zb zsl2 zrl2 zul2 ztl2 zf zg zbd zro zmc zmg zsp zjnl2)) (w1 := (wL cI ad zk zm zb zs92 zr92 zu92 zt92 zf zg zbd zro zmc zmg zsp zjnl2)) (ws := (wL cI ad zk zm zb zsl2 zrl2 zul2 ztl2 zf zg zbd zro zmc zmg zsp zjnl2)) (ws' := (wL cI ad zk zm zb zs92 zr92 zu92 zt92 zf zg zbd zro zmc zmg zsp zjnl2)) [0, 1, 2, 3, 4, 5, 6, 7, 8, 9, 10, 11, 12, 13, 14, 15, 16, 17] [] 18 (As := [.int r88, .int r18]) (rest := []) (ci := 2) (q := (RX2, TX2, 15)) ⟨hx, hb, hml, hown, hts⟩ (c_X2_beginPiece l dC dI cI ad zk zm zb zsl2 zrl2 zul2 ztl2 zf zg zbd zro zmc zmg zsp zjnl2 F r88 r18 H.size zs92 zr92 zu92 zt92 h_92) (cwV 2 hts gX2_joinFresh_X2_beginPiece rfl rfl rfl kv_X2_beginPiece ⟨Nat.le_of_ble_eq_true rfl, Nat.le_of_ble_eq_true rfl⟩) hK hP hD hS hA hP hD rfl rfl (by decide) rfl rfl (by decide) rfl rfl rfl rfl rfl hl.1 rfl (Nat.le_of_ble_eq_true rfl) dX2_joinFresh_92 ⟨Nat.zero_le _, Nat.zero_le _⟩ (fun H locs hP hD hS => ?_)
            refine lv_aload_n hx hb dX2_joinFresh_95 rfl (lv_at hl 3 rfl) ?_
            refine lv_iload_n hx hb dX2_joinFresh_96 rfl (lv_at hl 1 rfl) ?_
            refine lv_iconst (v := 1) hx hb dX2_joinFresh_97 (by decide) ?_
            refine lv_iadd hx hb dX2_joinFresh_98 ?_
            refine lv_iload_n hx hb dX2_joinFresh_99 rfl (lv_at hl 0 rfl) ?_
            obtain ⟨⟨r100, zt100⟩, h_100, hm⟩ := ob hm
            refine z_callWi (wc := (wL cI ad zk zm zb zs92 zr92 zu92 zt92 zf zg zbd zro zmc zmg zsp zjnl2)) (w1 := (wL cI ad zk zm zb zs92 zr92 zu92 zt100 zf zg zbd zro zmc zmg zsp zjnl2)) (ws := (wL cI ad zk zm zb zs92 zr92 zu92 zt92 zf zg zbd zro zmc zmg zsp zjnl2)) (ws' := (wL cI ad zk zm zb zs92 zr92 zu92 zt100 zf zg zbd zro zmc zmg zsp zjnl2)) [0, 1, 2, 3, 4, 5, 6, 7, 8, 9, 10, 11, 12, 13, 14, 15, 16, 17] [] 18 (As := [.int (r18 + 1), .int y55]) (rest := []) (ci := 2) (q := (RX2, TX2, 15)) ⟨hx, hb, hml, hown, hts⟩ (c_X2_tailTakes l dC dI cI ad zk zm zb zs92 zr92 zu92 zt92 zf zg zbd zro zmc zmg zsp zjnl2 F (r18 + 1) y55 H.size r100 zt100 h_100) (cwV 2 hts gX2_joinFresh_X2_tailTakes rfl rfl rfl kv_X2_tailTakes ⟨Nat.le_of_ble_eq_true rfl, Nat.le_of_ble_eq_true rfl⟩) hK hP hD hS hA hP hD rfl rfl (by decide) rfl rfl (by decide) rfl rfl rfl rfl rfl hl.1 rfl (Nat.le_of_ble_eq_true rfl) dX2_joinFresh_100 ⟨Nat.zero_le _, Nat.zero_le _⟩ (fun H locs hP hD hS => ?_)
            refine lv_pop hx hb dX2_joinFresh_103 rfl ?_
            exact J_104 zs92 zr92 zu92 zt100 zjnl2 (o2 hm) _ _ hP hD hS
          · have hm := it_f hm c_57
            refine lv_aload_n hx hb dX2_joinFresh_60 rfl (lv_at hl 3 rfl) ?_
            refine lv_iload_n hx hb dX2_joinFresh_61 rfl (lv_at hl 1 rfl) ?_
            refine lv_iload_n hx hb dX2_joinFresh_62 rfl (lv_at hl 0 rfl) ?_
            obtain ⟨⟨r63, zt63⟩, h_63, hm⟩ := ob hm
            refine z_callWi (wc := (wL cI ad zk zm zb zsl2 zrl2 zul2 ztl2 zf zg zbd zro zmc zmg zsp zjnl2)) (w1 := (wL cI ad zk zm zb zsl2 zrl2 zul2 zt63 zf zg zbd zro zmc zmg zsp zjnl2)) (ws := (wL cI ad zk zm zb zsl2 zrl2 zul2 ztl2 zf zg zbd zro zmc zmg zsp zjnl2)) (ws' := (wL cI ad zk zm zb zsl2 zrl2 zul2 zt63 zf zg zbd zro zmc zmg zsp zjnl2)) [0, 1, 2, 3, 4, 5, 6, 7, 8, 9, 10, 11, 12, 13, 14, 15, 16, 17] [] 18 (As := [.int r18, .int y55]) (rest := []) (ci := 2) (q := (RX2, TX2, 15)) ⟨hx, hb, hml, hown, hts⟩ (c_X2_tailTakes l dC dI cI ad zk zm zb zsl2 zrl2 zul2 ztl2 zf zg zbd zro zmc zmg zsp zjnl2 F r18 y55 H.size r63 zt63 h_63) (cwV 2 hts gX2_joinFresh_X2_tailTakes rfl rfl rfl kv_X2_tailTakes ⟨Nat.le_of_ble_eq_true rfl, Nat.le_of_ble_eq_true rfl⟩) hK hP hD hS hA hP hD rfl rfl (by decide) rfl rfl (by decide) rfl rfl rfl rfl rfl hl.1 rfl (Nat.le_of_ble_eq_true rfl) dX2_joinFresh_63 ⟨Nat.zero_le _, Nat.zero_le _⟩ (fun H locs hP hD hS => ?_)
            refine lv_if_eq (tgt := 82) hx hb dX2_joinFresh_66 (by decide) (fun c_66 => ?_) (fun c_66 => ?_)
            · have hm := it_t hm c_66
              refine lv_aload_n hx hb dX2_joinFresh_82 rfl (lv_at hl 3 rfl) ?_
              refine lv_aload_n hx hb dX2_joinFresh_83 rfl (lv_at hl 3 rfl) ?_
              refine va_get (D := (dC, dI)) (ci := 2) (v := .ref (ad 1)) (C := RX2) (T := TX2) (N := 15) hx hb hts ziX2 hown hK hP 0 rfl rfl 0 (by decide) zw1 (fun _ h9 => h9) rfl dX2_joinFresh_84 ?_
              refine lv_iload_n hx hb dX2_joinFresh_87 rfl (lv_at hl 1 rfl) ?_
              obtain ⟨r88_1, h_88, hm⟩ := ob hm
              refine z_callRi (As := [.int r18]) (rest := [.ref (ad 0)]) (ci := 0) (q := (RX0, TX0, 2)) ⟨hx, hb, hml, hown, hts⟩ (c_X0_at l dC dI cI (ad 1) (ad 2) 256 zk F r18 r88_1 h_88) (cwV 1 hts gX2_joinFresh_X0_at rfl rfl rfl kv_X0_at ⟨Nat.le_of_ble_eq_true rfl, Nat.le_of_ble_eq_true rfl⟩) hK (hP.sub (ws' := (wN cI (ad 1) (ad 2) 256 zk)) [1, 2] rfl) rfl rfl rfl rfl hl.1 rfl (Nat.le_of_ble_eq_true rfl) dX2_joinFresh_88 ⟨Nat.zero_le _, Nat.zero_le _⟩ ?_
              refine lv_iload_n hx hb dX2_joinFresh_91 rfl (lv_at hl 1 rfl) ?_
              obtain ⟨⟨zs92_1, zr92_1, zu92_1, zt92_1⟩, h_92, hm⟩ := ob hm
              refine z_callWv (wc := (wL cI ad zk zm zb zsl2 zrl2 zul2 zt63 zf zg zbd zro zmc zmg zsp zjnl2)) (w1 := (wL cI ad zk zm zb zs92_1 zr92_1 zu92_1 zt92_1 zf zg zbd zro zmc zmg zsp zjnl2)) (ws := (wL cI ad zk zm zb zsl2 zrl2 zul2 zt63 zf zg zbd zro zmc zmg zsp zjnl2)) (ws' := (wL cI ad zk zm zb zs92_1 zr92_1 zu92_1 zt92_1 zf zg zbd zro zmc zmg zsp zjnl2)) [0, 1, 2, 3, 4, 5, 6, 7, 8, 9, 10, 11, 12, 13, 14, 15, 16, 17] [] 18 (As := [.int r88_1, .int r18]) (rest := []) (ci := 2) (q := (RX2, TX2, 15)) ⟨hx, hb, hml, hown, hts⟩ (c_X2_beginPiece l dC dI cI ad zk zm zb zsl2 zrl2 zul2 zt63 zf zg zbd zro zmc zmg zsp zjnl2 F r88_1 r18 H.size zs92_1 zr92_1 zu92_1 zt92_1 h_92) (cwV 2 hts gX2_joinFresh_X2_beginPiece rfl rfl rfl kv_X2_beginPiece ⟨Nat.le_of_ble_eq_true rfl, Nat.le_of_ble_eq_true rfl⟩) hK hP hD hS hA hP hD rfl rfl (by decide) rfl rfl (by decide) rfl rfl rfl rfl rfl hl.1 rfl (Nat.le_of_ble_eq_true rfl) dX2_joinFresh_92 ⟨Nat.zero_le _, Nat.zero_le _⟩ (fun H locs hP hD hS => ?_)
              refine lv_aload_n hx hb dX2_joinFresh_95 rfl (lv_at hl 3 rfl) ?_
              refine lv_iload_n hx hb dX2_joinFresh_96 rfl (lv_at hl 1 rfl) ?_
              refine lv_iconst (v := 1) hx hb dX2_joinFresh_97 (by decide) ?_
              refine lv_iadd hx hb dX2_joinFresh_98 ?_
              refine lv_iload_n hx hb dX2_joinFresh_99 rfl (lv_at hl 0 rfl) ?_
              obtain ⟨⟨r100_1, zt100_1⟩, h_100, hm⟩ := ob hm
              refine z_callWi (wc := (wL cI ad zk zm zb zs92_1 zr92_1 zu92_1 zt92_1 zf zg zbd zro zmc zmg zsp zjnl2)) (w1 := (wL cI ad zk zm zb zs92_1 zr92_1 zu92_1 zt100_1 zf zg zbd zro zmc zmg zsp zjnl2)) (ws := (wL cI ad zk zm zb zs92_1 zr92_1 zu92_1 zt92_1 zf zg zbd zro zmc zmg zsp zjnl2)) (ws' := (wL cI ad zk zm zb zs92_1 zr92_1 zu92_1 zt100_1 zf zg zbd zro zmc zmg zsp zjnl2)) [0, 1, 2, 3, 4, 5, 6, 7, 8, 9, 10, 11, 12, 13, 14, 15, 16, 17] [] 18 (As := [.int (r18 + 1), .int y55]) (rest := []) (ci := 2) (q := (RX2, TX2, 15)) ⟨hx, hb, hml, hown, hts⟩ (c_X2_tailTakes l dC dI cI ad zk zm zb zs92_1 zr92_1 zu92_1 zt92_1 zf zg zbd zro zmc zmg zsp zjnl2 F (r18 + 1) y55 H.size r100_1 zt100_1 h_100) (cwV 2 hts gX2_joinFresh_X2_tailTakes rfl rfl rfl kv_X2_tailTakes ⟨Nat.le_of_ble_eq_true rfl, Nat.le_of_ble_eq_true rfl⟩) hK hP hD hS hA hP hD rfl rfl (by decide) rfl rfl (by decide) rfl rfl rfl rfl rfl hl.1 rfl (Nat.le_of_ble_eq_true rfl) dX2_joinFresh_100 ⟨Nat.zero_le _, Nat.zero_le _⟩ (fun H locs hP hD hS => ?_)
              refine lv_pop hx hb dX2_joinFresh_103 rfl ?_
              exact J_104 zs92_1 zr92_1 zu92_1 zt100_1 zjnl2 (o2 hm) _ _ hP hD hS
            · have hm := it_f hm c_66
              refine lv_aload_n hx hb dX2_joinFresh_69 rfl (lv_at hl 3 rfl) ?_
              refine lv_dup hx hb dX2_joinFresh_70 rfl ?_
              refine va_get (D := (dC, dI)) (ci := 2) (v := .int zjnl2) (C := RX2) (T := TX2) (N := 15) hx hb hts ziX2 hown hK hP 0 rfl rfl 14 (by decide) zw2 (fun _ h9 => h9) rfl dX2_joinFresh_71 ?_
              refine lv_iconst (v := 1) hx hb dX2_joinFresh_74 (by decide) ?_
              refine lv_iadd hx hb dX2_joinFresh_75 ?_
              refine va_put (D := (dC, dI)) (ci := 2) (v := .int (zjnl2 + 1)) (ty := .int) (C := RX2) (T := TX2) (N := 15) hx hb hts ziX2 tyX2 tyX2_ok nmX2 hown hK hP hD hS 0 rfl rfl 14 (by decide) zw2 (fun _ h9 => h9) rfl (by decide +kernel) rfl rfl (Nat.le_of_ble_eq_true rfl) dX2_joinFresh_76 (fun H locs hP hD hS => ?_)
              have hP : va_P (dC, dI) vwCl (wL cI ad zk zm zb zsl2 zrl2 zul2 zt63 zf zg zbd zro zmc zmg zsp (zjnl2 + 1)) H := hP
              have hD : va_D A (wL cI ad zk zm zb zsl2 zrl2 zul2 zt63 zf zg zbd zro zmc zmg zsp (zjnl2 + 1)) := hD
              refine lv_goto (tgt := 104) hx hb dX2_joinFresh_79 (by decide) ?_
              exact J_104 zsl2 zrl2 zul2 zt63 (zjnl2 + 1) (o2 hm) _ _ hP hD hS
        have hm := hq_55
        refine lv_if_eq (tgt := 48) hx hb dX2_joinFresh_32 (by decide) (fun c_32 => ?_) (fun c_32 => ?_)
        · have hm := it_t hm c_32
          refine lv_aload_n hx hb dX2_joinFresh_48 rfl (lv_at hl 2 rfl) ?_
          refine va_get (D := (dC, dI)) (ci := 2) (v := .ref (ad 1)) (C := RX2) (T := TX2) (N := 15) hx hb hts ziX2 hown hK hP 0 rfl rfl 0 (by decide) zw1 (fun _ h9 => h9) rfl dX2_joinFresh_49 ?_
          obtain ⟨r52, h_52, hm⟩ := ob hm
          refine z_callRi (As := []) (rest := []) (ci := 0) (q := (RX0, TX0, 2)) ⟨hx, hb, hml, hown, hts⟩ (c_X0_length l dC dI cI (ad 1) (ad 2) 256 zk F r52 h_52) (cwV 0 hts gX2_joinFresh_X0_length rfl rfl rfl kv_X0_length ⟨Nat.le_of_ble_eq_true rfl, Nat.le_of_ble_eq_true rfl⟩) hK (hP.sub (ws' := (wN cI (ad 1) (ad 2) 256 zk)) [1, 2] rfl) rfl rfl rfl rfl hl.1 rfl (Nat.le_of_ble_eq_true rfl) dX2_joinFresh_52 ⟨Nat.zero_le _, Nat.zero_le _⟩ ?_
          exact J_55 r52 (o2 hm)
        · have hm := it_f hm c_32
          refine lv_aload_n hx hb dX2_joinFresh_35 rfl (lv_at hl 2 rfl) ?_
          refine va_get (D := (dC, dI)) (ci := 2) (v := .ref (ad 16)) (C := RX2) (T := TX2) (N := 15) hx hb hts ziX2 hown hK hP 0 rfl rfl 8 (by decide) zw0 (fun _ h9 => h9) rfl dX2_joinFresh_36 ?_
          refine lv_iload_n hx hb dX2_joinFresh_39 rfl (lv_at hl 1 rfl) ?_
          refine lv_iconst (v := 1) hx hb dX2_joinFresh_40 (by decide) ?_
          refine lv_iadd hx hb dX2_joinFresh_41 ?_
          obtain ⟨r42, h_42, hm⟩ := ob hm
          refine z_callRi (As := [.int (x1 + 1)]) (rest := []) (ci := 0) (q := (RX0, TX0, 2)) ⟨hx, hb, hml, hown, hts⟩ (c_X0_at l dC dI cI (ad 16) (ad 17) 256 zg F (x1 + 1) r42 h_42) (cwV 1 hts gX2_joinFresh_X0_at rfl rfl rfl kv_X0_at ⟨Nat.le_of_ble_eq_true rfl, Nat.le_of_ble_eq_true rfl⟩) hK (hP.sub (ws' := (wN cI (ad 16) (ad 17) 256 zg)) [16, 17] rfl) rfl rfl rfl rfl hl.1 rfl (Nat.le_of_ble_eq_true rfl) dX2_joinFresh_42 ⟨Nat.zero_le _, Nat.zero_le _⟩ ?_
          refine lv_goto (tgt := 55) hx hb dX2_joinFresh_45 (by decide) ?_
          exact J_55 r42 (o2 hm)
  exact L_2 F 0 zs zr zu zt zjn hq_2 _ _ hP hD hS _ (lv_sub hl [0, 1] rfl)
set_option maxHeartbeats 4000000 in
set_option maxRecDepth 100000 in
theorem c_X2_mergeAll (l : Launch) (dC : Nat → ClassId) (dI : Nat → Nat → Nat) (cI : ClassId) (ad : Nat → Nat) (zk : zN) (zm : zN) (zb : zN) (zs : zN) (zr : zN) (zu : zN) (zt : zT) (zf : zN) (zg : zN) (zbd : Int32) (zro : Int32) (zmc : Int32) (zmg : Int32) (zsp : Int32) (zjn : Int32) (F : Nat) (sz : Nat) (u_zk : zN) (u_zm : zN) (u_zb : zN) (u_zs : zN) (u_zr : zN) (u_zu : zN) (u_zt : zT) (u_zf : zN) (u_zg : zN) (u_zmc : Int32) (u_zmg : Int32) (u_zsp : Int32) (u_zjn : Int32) (hm : X2_mergeAll F zk zm zb zs zr zu zt zf zg zbd zmc zmg zsp zjn = some (u_zk, u_zm, u_zb, u_zs, u_zr, u_zu, u_zt, u_zf, u_zg, u_zmc, u_zmg, u_zsp, u_zjn)) : Met l yX2_mergeAll wsX2_mergeAll ({ frames := 4, cells := 0, slots := 0, locals := 95 }) (va_Pc [.ref (ad 0)] (zW (dC, dI) (wL cI ad zk zm zb zs zr zu zt zf zg zbd zro zmc zmg zsp zjn) [(cI, .int)] sz)) (zQv (dC, dI) (wL cI ad u_zk u_zm u_zb u_zs u_zr u_zu u_zt u_zf u_zg zbd zro u_zmc u_zmg u_zsp u_zjn) [(cI, .int)] (va_A (wL cI ad zk zm zb zs zr zu zt zf zg zbd zro zmc zmg zsp zjn) sz)) 0 0 (va_A (wL cI ad zk zm zb zs zr zu zt zf zg zbd zro zmc zmg zsp zjn) sz) := by
  refine Met.ofW (cc := cX2_mergeAll) (maxL := 2) (ret := none) (by decide) rfl ?_
  intro p e s m args below meth c s₁ B hml hv
  obtain ⟨rfl, hsz, hP, hK, hD0⟩ := hv
  have hx := B.exec
  have hb := B.bytes
  have hr := B.returns
  have hts := atoms_spec (ws := wsX2_mergeAll) B.pre
  have hown : s.vm.findClass RX2 = some m.cls := findClass_of_methodNamed B.named
  have hlocks := B.notSynchronized
  subst hsz
  have hD := hD0.self (sz := s.heap.size)
  generalize hAe : va_A (wL cI ad zk zm zb zs zr zu zt zf zg zbd zro zmc zmg zsp zjn) s.heap.size = A at hD ⊢
  have hA : ∀ q : Nat, s.heap.size ≤ q → A q := fun q h => by rw [← hAe]; exact Or.inr h
  have hS : va_S A s.heap s.heap [] := va_S.rf
  generalize eL : ([] : List Loc) = locs at hS ⊢
  obtain ⟨H, eH⟩ : ∃ z : Heap, z = s.heap := ⟨_, rfl⟩
  have hP : va_P (dC, dI) vwCl (wL cI ad zk zm zb zs zr zu zt zf zg zbd zro zmc zmg zsp zjn) H := by rw [eH]; exact hP
  have hS : va_S A s.heap H locs := by rw [eH]; exact hS
  refine z_heap eH ?_
  have hl := lv_entry ([.ref (ad 0)]) (n := 2) (Nat.le_of_ble_eq_true rfl)
  rw [lg_entry_eq]
  generalize (lg_sl ([.ref (ad 0)]) ++ List.replicate (2 - (lg_sl ([.ref (ad 0)])).length) Slot.unset).toArray = ls at hl ⊢
  have hl : lv_has ls 2 [(0, .ref (ad 0))] := hl
  have zw0 := hts (.fieldLink RX2 40 "LearnedLedge" "freshKeys" "LLearnedLedge$Numbers;") (by decide +kernel)
  have zw1 := hts (.fieldLink RX2 43 "LearnedLedge" "freshStarts" "LLearnedLedge$Numbers;") (by decide +kernel)
  have zw2 := hts (.fieldLink RX2 24 "LearnedLedge" "starts" "LLearnedLedge$Numbers;") (by decide +kernel)
  have zw3 := hts (.fieldLink RX2 21 "LearnedLedge" "buffer" "LLearnedLedge$Numbers;") (by decide +kernel)
  have zw4 := hts (.fieldLink RX2 14 "LearnedLedge" "keys" "LLearnedLedge$Numbers;") (by decide +kernel)
  have zw5 := hts (.fieldLink RX2 18 "LearnedLedge" "marks" "LLearnedLedge$Numbers;") (by decide +kernel)
  have zw6 := hts (.fieldLink RX2 56 "LearnedLedge" "mergeCount" "I") (by decide +kernel)
  have ziX2 : ∀ w ∈ u_ws RX2 TX2 15, w ∈ wsX2_mergeAll := by decide +kernel
  refine lv_aload_n hx hb dX2_mergeAll_0 rfl (lv_at hl 0 rfl) ?_
  refine va_get (D := (dC, dI)) (ci := 2) (v := .ref (ad 14)) (C := RX2) (T := TX2) (N := 15) hx hb hts ziX2 hown hK hP 0 rfl rfl 7 (by decide) zw0 (fun _ h9 => h9) rfl dX2_mergeAll_1 ?_
  obtain ⟨zf4, h_4, hm⟩ := ob hm
  refine z_callWv (wc := (wN cI (ad 14) (ad 15) 256 zf)) (w1 := (wN cI (ad 14) (ad 15) 256 zf4)) (ws := (wL cI ad zk zm zb zs zr zu zt zf zg zbd zro zmc zmg zsp zjn)) (ws' := (wL cI ad zk zm zb zs zr zu zt zf4 zg zbd zro zmc zmg zsp zjn)) [14, 15] [0, 1, 2, 3, 4, 5, 6, 7, 8, 9, 10, 11, 12, 13, 16, 17] 18 (As := []) (rest := []) (ci := 0) (q := (RX0, TX0, 2)) ⟨hx, hb, hml, hown, hts⟩ (c_X0_clear l dC dI cI (ad 14) (ad 15) 256 zf F H.size zf4 h_4) (cwV 0 hts gX2_mergeAll_X0_clear rfl rfl rfl kv_X0_clear ⟨Nat.le_of_ble_eq_true rfl, Nat.le_of_ble_eq_true rfl⟩) hK hP hD hS hA (hP.sub (ws' := (wN cI (ad 14) (ad 15) 256 zf)) [14, 15] rfl) (hD.sub (ws' := (wN cI (ad 14) (ad 15) 256 zf)) [14, 15] (by decide) rfl) rfl rfl (by decide) rfl rfl (by decide) rfl rfl rfl rfl rfl hl.1 rfl (Nat.le_of_ble_eq_true rfl) dX2_mergeAll_4 ⟨Nat.zero_le _, Nat.zero_le _⟩ (fun H locs hP hD hS => ?_)
  refine lv_aload_n hx hb dX2_mergeAll_7 rfl (lv_at hl 0 rfl) ?_
  refine va_get (D := (dC, dI)) (ci := 2) (v := .ref (ad 16)) (C := RX2) (T := TX2) (N := 15) hx hb hts ziX2 hown hK hP 0 rfl rfl 8 (by decide) zw1 (fun _ h9 => h9) rfl dX2_mergeAll_8 ?_
  obtain ⟨zg11, h_11, hm⟩ := ob hm
  refine z_callWv (wc := (wN cI (ad 16) (ad 17) 256 zg)) (w1 := (wN cI (ad 16) (ad 17) 256 zg11)) (ws := (wL cI ad zk zm zb zs zr zu zt zf4 zg zbd zro zmc zmg zsp zjn)) (ws' := (wL cI ad zk zm zb zs zr zu zt zf4 zg11 zbd zro zmc zmg zsp zjn)) [16, 17] [0, 1, 2, 3, 4, 5, 6, 7, 8, 9, 10, 11, 12, 13, 14, 15] 18 (As := []) (rest := []) (ci := 0) (q := (RX0, TX0, 2)) ⟨hx, hb, hml, hown, hts⟩ (c_X0_clear l dC dI cI (ad 16) (ad 17) 256 zg F H.size zg11 h_11) (cwV 0 hts gX2_mergeAll_X0_clear rfl rfl rfl kv_X0_clear ⟨Nat.le_of_ble_eq_true rfl, Nat.le_of_ble_eq_true rfl⟩) hK hP hD hS hA (hP.sub (ws' := (wN cI (ad 16) (ad 17) 256 zg)) [16, 17] rfl) (hD.sub (ws' := (wN cI (ad 16) (ad 17) 256 zg)) [16, 17] (by decide) rfl) rfl rfl (by decide) rfl rfl (by decide) rfl rfl rfl rfl rfl hl.1 rfl (Nat.le_of_ble_eq_true rfl) dX2_mergeAll_11 ⟨Nat.zero_le _, Nat.zero_le _⟩ (fun H locs hP hD hS => ?_)
  refine lv_aload_n hx hb dX2_mergeAll_14 rfl (lv_at hl 0 rfl) ?_
  refine va_get (D := (dC, dI)) (ci := 2) (v := .ref (ad 7)) (C := RX2) (T := TX2) (N := 15) hx hb hts ziX2 hown hK hP 0 rfl rfl 3 (by decide) zw2 (fun _ h9 => h9) rfl dX2_mergeAll_15 ?_
  obtain ⟨r18, h_18, hm⟩ := ob hm
  refine z_callRi (As := []) (rest := []) (ci := 0) (q := (RX0, TX0, 2)) ⟨hx, hb, hml, hown, hts⟩ (c_X0_length l dC dI cI (ad 7) (ad 8) 256 zs F r18 h_18) (cwV 0 hts gX2_mergeAll_X0_length rfl rfl rfl kv_X0_length ⟨Nat.le_of_ble_eq_true rfl, Nat.le_of_ble_eq_true rfl⟩) hK (hP.sub (ws' := (wN cI (ad 7) (ad 8) 256 zs)) [7, 8] rfl) rfl rfl rfl rfl hl.1 rfl (Nat.le_of_ble_eq_true rfl) dX2_mergeAll_18 ⟨Nat.zero_le _, Nat.zero_le _⟩ ?_
  obtain ⟨z_44, hq_44, hm⟩ := ob hm
  have J_44 : ∀ (ztj44 : zT), ∀ (zfj44 : zN), ∀ (zgj44 : zN), ∀ (zspj44 : Int32), z_44 = (ztj44, zfj44, zgj44, zspj44) → ∀ (H : Heap) (locs : List Loc), va_P (dC, dI) vwCl (wL cI ad zk zm zb zs zr zu ztj44 zfj44 zgj44 zbd zro zmc zmg zspj44 zjn) H → va_D A (wL cI ad zk zm zb zs zr zu ztj44 zfj44 zgj44 zbd zro zmc zmg zspj44 zjn) → va_S A s.heap H locs → W p l e (headSpec wsX2_mergeAll ({ frames := 4, cells := 0, slots := 0, locals := 95 } : Room)).room s m ([.ref (ad 0)] : List Value).toArray below meth c H locs 0 0 (MQ below (zQv (dC, dI) (wL cI ad u_zk u_zm u_zb u_zs u_zr u_zu u_zt u_zf u_zg zbd zro u_zmc u_zmg u_zsp u_zjn) [(cI, .int)] A) ([.ref (ad 0)] : List Value).toArray s 0 0 A) (F0 m 44 ls []) := by
    intro ztj44 zfj44 zgj44 zspj44 ez H locs hP hD hS
    rw [ez] at hm
    refine lv_iconst (v := 0) hx hb dX2_mergeAll_44 (by decide) ?_
    refine lv_istore_n (lv' := [(1, .int 0), (0, .ref (ad 0))]) hx hb dX2_mergeAll_45 rfl hl (by decide) rfl (fun ls hl => ?_)
    obtain ⟨z_46, hq_46, hm⟩ := ob hm
    have K_46 : ∀ (ztx46 : zT), ∀ (zfx46 : zN), ∀ (zgx46 : zN), ∀ (zspx46 : Int32), z_46 = (ztx46, zfx46, zgx46, zspx46) → ∀ (H : Heap) (locs : List Loc), va_P (dC, dI) vwCl (wL cI ad zk zm zb zs zr zu ztx46 zfx46 zgx46 zbd zro zmc zmg zspx46 zjn) H → va_D A (wL cI ad zk zm zb zs zr zu ztx46 zfx46 zgx46 zbd zro zmc zmg zspx46 zjn) → va_S A s.heap H locs → ∀ (ls : Array Slot), lv_has ls 2 [(0, .ref (ad 0))] → W p l e (headSpec wsX2_mergeAll ({ frames := 4, cells := 0, slots := 0, locals := 95 } : Room)).room s m ([.ref (ad 0)] : List Value).toArray below meth c H locs 0 0 (MQ below (zQv (dC, dI) (wL cI ad u_zk u_zm u_zb u_zs u_zr u_zu u_zt u_zf u_zg zbd zro u_zmc u_zmg u_zsp u_zjn) [(cI, .int)] A) ([.ref (ad 0)] : List Value).toArray s 0 0 A) (F0 m 68 ls []) := by
      intro ztx46 zfx46 zgx46 zspx46 ez H locs hP hD hS ls hl
      rw [ez] at hm
      refine lv_aload_n hx hb dX2_mergeAll_68 rfl (lv_at hl 0 rfl) ?_
      obtain ⟨⟨zk69, zm69, zb69, zs69, zr69, zu69, zmc69⟩, h_69, hm⟩ := ob hm
      refine z_callWv (wc := (wL cI ad zk zm zb zs zr zu ztx46 zfx46 zgx46 zbd zro zmc zmg zspx46 zjn)) (w1 := (wL cI ad zk69 zm69 zb69 zs69 zr69 zu69 ztx46 zfx46 zgx46 zbd zro zmc69 zmg zspx46 zjn)) (ws := (wL cI ad zk zm zb zs zr zu ztx46 zfx46 zgx46 zbd zro zmc zmg zspx46 zjn)) (ws' := (wL cI ad zk69 zm69 zb69 zs69 zr69 zu69 ztx46 zfx46 zgx46 zbd zro zmc69 zmg zspx46 zjn)) [0, 1, 2, 3, 4, 5, 6, 7, 8, 9, 10, 11, 12, 13, 14, 15, 16, 17] [] 18 (As := []) (rest := []) (ci := 2) (q := (RX2, TX2, 15)) ⟨hx, hb, hml, hown, hts⟩ (c_X2_clearRow l dC dI cI ad zk zm zb zs zr zu ztx46 zfx46 zgx46 zbd zro zmc zmg zspx46 zjn F H.size zk69 zm69 zb69 zs69 zr69 zu69 zmc69 h_69) (cwV 0 hts gX2_mergeAll_X2_clearRow rfl rfl rfl kv_X2_clearRow ⟨Nat.le_of_ble_eq_true rfl, Nat.le_of_ble_eq_true rfl⟩) hK hP hD hS hA hP hD rfl rfl (by decide) rfl rfl (by decide) rfl rfl rfl rfl rfl hl.1 rfl (Nat.le_of_ble_eq_true rfl) dX2_mergeAll_69 ⟨Nat.zero_le _, Nat.zero_le _⟩ (fun H locs hP hD hS => ?_)
      refine lv_iconst (v := 0) hx hb dX2_mergeAll_72 (by decide) ?_
      refine lv_istore_n (lv' := [(1, .int 0), (0, .ref (ad 0))]) hx hb dX2_mergeAll_73 rfl hl (by decide) rfl (fun ls hl => ?_)
      obtain ⟨z_74, hq_74, hm⟩ := ob hm
      have K_74 : ∀ (zkx74 : zN), ∀ (zmx74 : zN), z_74 = (zkx74, zmx74) → ∀ (H : Heap) (locs : List Loc), va_P (dC, dI) vwCl (wL cI ad zkx74 zmx74 zb69 zs69 zr69 zu69 ztx46 zfx46 zgx46 zbd zro zmc69 zmg zspx46 zjn) H → va_D A (wL cI ad zkx74 zmx74 zb69 zs69 zr69 zu69 ztx46 zfx46 zgx46 zbd zro zmc69 zmg zspx46 zjn) → va_S A s.heap H locs → ∀ (ls : Array Slot), lv_has ls 2 [(0, .ref (ad 0))] → W p l e (headSpec wsX2_mergeAll ({ frames := 4, cells := 0, slots := 0, locals := 95 } : Room)).room s m ([.ref (ad 0)] : List Value).toArray below meth c H locs 0 0 (MQ below (zQv (dC, dI) (wL cI ad u_zk u_zm u_zb u_zs u_zr u_zu u_zt u_zf u_zg zbd zro u_zmc u_zmg u_zsp u_zjn) [(cI, .int)] A) ([.ref (ad 0)] : List Value).toArray s 0 0 A) (F0 m 114 ls []) := by
        intro zkx74 zmx74 ez H locs hP hD hS ls hl
        rw [ez] at hm
        refine lv_aload_n hx hb dX2_mergeAll_114 rfl (lv_at hl 0 rfl) ?_
        obtain ⟨⟨zs115, zr115, zu115, zt115, zjn115⟩, h_115, hm⟩ := ob hm
        refine z_callWv (wc := (wL cI ad zkx74 zmx74 zb69 zs69 zr69 zu69 ztx46 zfx46 zgx46 zbd zro zmc69 zmg zspx46 zjn)) (w1 := (wL cI ad zkx74 zmx74 zb69 zs115 zr115 zu115 zt115 zfx46 zgx46 zbd zro zmc69 zmg zspx46 zjn115)) (ws := (wL cI ad zkx74 zmx74 zb69 zs69 zr69 zu69 ztx46 zfx46 zgx46 zbd zro zmc69 zmg zspx46 zjn)) (ws' := (wL cI ad zkx74 zmx74 zb69 zs115 zr115 zu115 zt115 zfx46 zgx46 zbd zro zmc69 zmg zspx46 zjn115)) [0, 1, 2, 3, 4, 5, 6, 7, 8, 9, 10, 11, 12, 13, 14, 15, 16, 17] [] 18 (As := []) (rest := []) (ci := 2) (q := (RX2, TX2, 15)) ⟨hx, hb, hml, hown, hts⟩ (c_X2_joinFresh l dC dI cI ad zkx74 zmx74 zb69 zs69 zr69 zu69 ztx46 zfx46 zgx46 zbd zro zmc69 zmg zspx46 zjn F H.size zs115 zr115 zu115 zt115 zjn115 h_115) (cwV 0 hts gX2_mergeAll_X2_joinFresh rfl rfl rfl kv_X2_joinFresh ⟨Nat.le_of_ble_eq_true rfl, Nat.le_of_ble_eq_true rfl⟩) hK hP hD hS hA hP hD rfl rfl (by decide) rfl rfl (by decide) rfl rfl rfl rfl rfl hl.1 rfl (Nat.le_of_ble_eq_true rfl) dX2_mergeAll_115 ⟨Nat.zero_le _, Nat.zero_le _⟩ (fun H locs hP hD hS => ?_)
        refine lv_aload_n hx hb dX2_mergeAll_118 rfl (lv_at hl 0 rfl) ?_
        refine lv_dup hx hb dX2_mergeAll_119 rfl ?_
        refine va_get (D := (dC, dI)) (ci := 2) (v := .int zmg) (C := RX2) (T := TX2) (N := 15) hx hb hts ziX2 hown hK hP 0 rfl rfl 12 (by decide) zw6 (fun _ h9 => h9) rfl dX2_mergeAll_120 ?_
        refine lv_iconst (v := 1) hx hb dX2_mergeAll_123 (by decide) ?_
        refine lv_iadd hx hb dX2_mergeAll_124 ?_
        refine va_put (D := (dC, dI)) (ci := 2) (v := .int (zmg + 1)) (ty := .int) (C := RX2) (T := TX2) (N := 15) hx hb hts ziX2 tyX2 tyX2_ok nmX2 hown hK hP hD hS 0 rfl rfl 12 (by decide) zw6 (fun _ h9 => h9) rfl (by decide +kernel) rfl rfl (Nat.le_of_ble_eq_true rfl) dX2_mergeAll_125 (fun H locs hP hD hS => ?_)
        have hP : va_P (dC, dI) vwCl (wL cI ad zkx74 zmx74 zb69 zs115 zr115 zu115 zt115 zfx46 zgx46 zbd zro zmc69 (zmg + 1) zspx46 zjn115) H := hP
        have hD : va_D A (wL cI ad zkx74 zmx74 zb69 zs115 zr115 zu115 zt115 zfx46 zgx46 zbd zro zmc69 (zmg + 1) zspx46 zjn115) := hD
        cases o2 hm
        exact W.vret hx hb hr (fun t ht hW => ⟨⟨(), rfl, trivial, by rw [ht]; exact hP, va_K.moved hW.alike hK, hD⟩, hS.F ht⟩) hS.2.2 dX2_mergeAll_128
      have L_74 : ∀ (n : Nat) (x1_2 : Int32) (zkl74 : zN) (zml74 : zN), X2_mergeAll_L74 F zfx46 n x1_2 zkl74 zml74 = some z_74 → ∀ (H : Heap) (locs : List Loc), va_P (dC, dI) vwCl (wL cI ad zkl74 zml74 zb69 zs69 zr69 zu69 ztx46 zfx46 zgx46 zbd zro zmc69 zmg zspx46 zjn) H → va_D A (wL cI ad zkl74 zml74 zb69 zs69 zr69 zu69 ztx46 zfx46 zgx46 zbd zro zmc69 zmg zspx46 zjn) → va_S A s.heap H locs → ∀ (ls : Array Slot), lv_has ls 2 [(1, .int x1_2), (0, .ref (ad 0))] → W p l e (headSpec wsX2_mergeAll ({ frames := 4, cells := 0, slots := 0, locals := 95 } : Room)).room s m ([.ref (ad 0)] : List Value).toArray below meth c H locs 0 0 (MQ below (zQv (dC, dI) (wL cI ad u_zk u_zm u_zb u_zs u_zr u_zu u_zt u_zf u_zg zbd zro u_zmc u_zmg u_zsp u_zjn) [(cI, .int)] A) ([.ref (ad 0)] : List Value).toArray s 0 0 A) (F0 m 74 ls []) := by
        intro n
        induction n with
        | zero => intro x1_2 zkl74 zml74 hm; cases hm
        | succ n ih_74 =>
          intro x1_2 zkl74 zml74 hm H locs hP hD hS ls hl
          refine lv_iload_n hx hb dX2_mergeAll_74 rfl (lv_at hl 0 rfl) ?_
          refine lv_aload_n hx hb dX2_mergeAll_75 rfl (lv_at hl 1 rfl) ?_
          refine va_get (D := (dC, dI)) (ci := 2) (v := .ref (ad 14)) (C := RX2) (T := TX2) (N := 15) hx hb hts ziX2 hown hK hP 0 rfl rfl 7 (by decide) zw0 (fun _ h9 => h9) rfl dX2_mergeAll_76 ?_
          obtain ⟨r79, h_79, hm⟩ := ob hm
          refine z_callRi (As := []) (rest := [.int x1_2]) (ci := 0) (q := (RX0, TX0, 2)) ⟨hx, hb, hml, hown, hts⟩ (c_X0_length l dC dI cI (ad 14) (ad 15) 256 zfx46 F r79 h_79) (cwV 0 hts gX2_mergeAll_X0_length rfl rfl rfl kv_X0_length ⟨Nat.le_of_ble_eq_true rfl, Nat.le_of_ble_eq_true rfl⟩) hK (hP.sub (ws' := (wN cI (ad 14) (ad 15) 256 zfx46)) [14, 15] rfl) rfl rfl rfl rfl hl.1 rfl (Nat.le_of_ble_eq_true rfl) dX2_mergeAll_79 ⟨Nat.zero_le _, Nat.zero_le _⟩ ?_
          refine lv_icmp_ge (tgt := 114) hx hb dX2_mergeAll_82 (by decide) (fun c_82 => ?_) (fun c_82 => ?_)
          · have hm := it_t hm c_82
            exact K_74 zkl74 zml74 (o2 hm) _ _ hP hD hS _ (lv_sub hl [1] rfl)
          · have hm := it_f hm c_82
            refine lv_aload_n hx hb dX2_mergeAll_85 rfl (lv_at hl 1 rfl) ?_
            refine va_get (D := (dC, dI)) (ci := 2) (v := .ref (ad 1)) (C := RX2) (T := TX2) (N := 15) hx hb hts ziX2 hown hK hP 0 rfl rfl 0 (by decide) zw4 (fun _ h9 => h9) rfl dX2_mergeAll_86 ?_
            refine lv_aload_n hx hb dX2_mergeAll_89 rfl (lv_at hl 1 rfl) ?_
            refine va_get (D := (dC, dI)) (ci := 2) (v := .ref (ad 14)) (C := RX2) (T := TX2) (N := 15) hx hb hts ziX2 hown hK hP 0 rfl rfl 7 (by decide) zw0 (fun _ h9 => h9) rfl dX2_mergeAll_90 ?_
            refine lv_iload_n hx hb dX2_mergeAll_93 rfl (lv_at hl 0 rfl) ?_
            obtain ⟨r94, h_94, hm⟩ := ob hm
            refine z_callRi (As := [.int x1_2]) (rest := [.ref (ad 1)]) (ci := 0) (q := (RX0, TX0, 2)) ⟨hx, hb, hml, hown, hts⟩ (c_X0_at l dC dI cI (ad 14) (ad 15) 256 zfx46 F x1_2 r94 h_94) (cwV 1 hts gX2_mergeAll_X0_at rfl rfl rfl kv_X0_at ⟨Nat.le_of_ble_eq_true rfl, Nat.le_of_ble_eq_true rfl⟩) hK (hP.sub (ws' := (wN cI (ad 14) (ad 15) 256 zfx46)) [14, 15] rfl) rfl rfl rfl rfl hl.1 rfl (Nat.le_of_ble_eq_true rfl) dX2_mergeAll_94 ⟨Nat.zero_le _, Nat.zero_le _⟩ ?_
            obtain ⟨zk97, h_97, hm⟩ := ob hm
            refine z_callWv (wc := (wN cI (ad 1) (ad 2) 256 zkl74)) (w1 := (wN cI (ad 1) (ad 2) 256 zk97)) (ws := (wL cI ad zkl74 zml74 zb69 zs69 zr69 zu69 ztx46 zfx46 zgx46 zbd zro zmc69 zmg zspx46 zjn)) (ws' := (wL cI ad zk97 zml74 zb69 zs69 zr69 zu69 ztx46 zfx46 zgx46 zbd zro zmc69 zmg zspx46 zjn)) [1, 2] [0, 3, 4, 5, 6, 7, 8, 9, 10, 11, 12, 13, 14, 15, 16, 17] 18 (As := [.int r94]) (rest := []) (ci := 0) (q := (RX0, TX0, 2)) ⟨hx, hb, hml, hown, hts⟩ (c_X0_push l dC dI cI (ad 1) (ad 2) 256 zkl74 F r94 H.size zk97 h_97) (cwV 1 hts gX2_mergeAll_X0_push rfl rfl rfl kv_X0_push ⟨Nat.le_of_ble_eq_true rfl, Nat.le_of_ble_eq_true rfl⟩) hK hP hD hS hA (hP.sub (ws' := (wN cI (ad 1) (ad 2) 256 zkl74)) [1, 2] rfl) (hD.sub (ws' := (wN cI (ad 1) (ad 2) 256 zkl74)) [1, 2] (by decide) rfl) rfl rfl (by decide) rfl rfl (by decide) rfl rfl rfl rfl rfl hl.1 rfl (Nat.le_of_ble_eq_true rfl) dX2_mergeAll_97 ⟨Nat.zero_le _, Nat.zero_le _⟩ (fun H locs hP hD hS => ?_)
            refine lv_aload_n hx hb dX2_mergeAll_100 rfl (lv_at hl 1 rfl) ?_
            refine va_get (D := (dC, dI)) (ci := 2) (v := .ref (ad 3)) (C := RX2) (T := TX2) (N := 15) hx hb hts ziX2 hown hK hP 0 rfl rfl 1 (by decide) zw5 (fun _ h9 => h9) rfl dX2_mergeAll_101 ?_
            refine lv_iconst (v := 0) hx hb dX2_mergeAll_104 (by decide) ?_
            obtain ⟨zm105, h_105, hm⟩ := ob hm
            refine z_callWv (wc := (wN cI (ad 3) (ad 4) 256 zml74)) (w1 := (wN cI (ad 3) (ad 4) 256 zm105)) (ws := (wL cI ad zk97 zml74 zb69 zs69 zr69 zu69 ztx46 zfx46 zgx46 zbd zro zmc69 zmg zspx46 zjn)) (ws' := (wL cI ad zk97 zm105 zb69 zs69 zr69 zu69 ztx46 zfx46 zgx46 zbd zro zmc69 zmg zspx46 zjn)) [3, 4] [0, 1, 2, 5, 6, 7, 8, 9, 10, 11, 12, 13, 14, 15, 16, 17] 18 (As := [.int 0]) (rest := []) (ci := 0) (q := (RX0, TX0, 2)) ⟨hx, hb, hml, hown, hts⟩ (c_X0_push l dC dI cI (ad 3) (ad 4) 256 zml74 F 0 H.size zm105 h_105) (cwV 1 hts gX2_mergeAll_X0_push rfl rfl rfl kv_X0_push ⟨Nat.le_of_ble_eq_true rfl, Nat.le_of_ble_eq_true rfl⟩) hK hP hD hS hA (hP.sub (ws' := (wN cI (ad 3) (ad 4) 256 zml74)) [3, 4] rfl) (hD.sub (ws' := (wN cI (ad 3) (ad 4) 256 zml74)) [3, 4] (by decide) rfl) rfl rfl (by decide) rfl rfl (by decide) rfl rfl rfl rfl rfl hl.1 rfl (Nat.le_of_ble_eq_true rfl) dX2_mergeAll_105 ⟨Nat.zero_le _, Nat.zero_le _⟩ (fun H locs hP hD hS => ?_)
            obtain ⟨x1_3, e_x1_3⟩ : ∃ y : Int32, y = x1_2 + 1 := ⟨_, rfl⟩
            have hm := bnd_e hm e_x1_3
            refine lv_iinc (v := x1_3) (lv' := [(1, .int x1_3), (0, .ref (ad 0))]) hx hb dX2_mergeAll_108 hl (k := 0) rfl (by rw [e_x1_3]; rfl) (by decide) rfl (fun ls hl => ?_)
            refine lv_goto (tgt := 74) hx hb dX2_mergeAll_111 (by decide) ?_
            exact ih_74 x1_3 zk97 zm105 hm _ _ hP hD hS _ (lv_sub hl [0, 1] rfl)
      exact L_74 F 0 zk69 zm69 hq_74 _ _ hP hD hS _ (lv_sub hl [0, 1] rfl)
    have L_46 : ∀ (n : Nat) (x1 : Int32) (ztl46 : zT) (zfl46 : zN) (zgl46 : zN) (zspl46 : Int32), X2_mergeAll_L46 zk zm zb zs zbd F n x1 ztl46 zfl46 zgl46 zspl46 = some z_46 → ∀ (H : Heap) (locs : List Loc), va_P (dC, dI) vwCl (wL cI ad zk zm zb zs zr zu ztl46 zfl46 zgl46 zbd zro zmc zmg zspl46 zjn) H → va_D A (wL cI ad zk zm zb zs zr zu ztl46 zfl46 zgl46 zbd zro zmc zmg zspl46 zjn) → va_S A s.heap H locs → ∀ (ls : Array Slot), lv_has ls 2 [(1, .int x1), (0, .ref (ad 0))] → W p l e (headSpec wsX2_mergeAll ({ frames := 4, cells := 0, slots := 0, locals := 95 } : Room)).room s m ([.ref (ad 0)] : List Value).toArray below meth c H locs 0 0 (MQ below (zQv (dC, dI) (wL cI ad u_zk u_zm u_zb u_zs u_zr u_zu u_zt u_zf u_zg zbd zro u_zmc u_zmg u_zsp u_zjn) [(cI, .int)] A) ([.ref (ad 0)] : List Value).toArray s 0 0 A) (F0 m 46 ls []) := by
      intro n
      induction n with
      | zero => intro x1 ztl46 zfl46 zgl46 zspl46 hm; cases hm
      | succ n ih_46 =>
        intro x1 ztl46 zfl46 zgl46 zspl46 hm H locs hP hD hS ls hl
        refine lv_iload_n hx hb dX2_mergeAll_46 rfl (lv_at hl 0 rfl) ?_
        refine lv_aload_n hx hb dX2_mergeAll_47 rfl (lv_at hl 1 rfl) ?_
        refine va_get (D := (dC, dI)) (ci := 2) (v := .ref (ad 7)) (C := RX2) (T := TX2) (N := 15) hx hb hts ziX2 hown hK hP 0 rfl rfl 3 (by decide) zw2 (fun _ h9 => h9) rfl dX2_mergeAll_48 ?_
        obtain ⟨r51, h_51, hm⟩ := ob hm
        refine z_callRi (As := []) (rest := [.int x1]) (ci := 0) (q := (RX0, TX0, 2)) ⟨hx, hb, hml, hown, hts⟩ (c_X0_length l dC dI cI (ad 7) (ad 8) 256 zs F r51 h_51) (cwV 0 hts gX2_mergeAll_X0_length rfl rfl rfl kv_X0_length ⟨Nat.le_of_ble_eq_true rfl, Nat.le_of_ble_eq_true rfl⟩) hK (hP.sub (ws' := (wN cI (ad 7) (ad 8) 256 zs)) [7, 8] rfl) rfl rfl rfl rfl hl.1 rfl (Nat.le_of_ble_eq_true rfl) dX2_mergeAll_51 ⟨Nat.zero_le _, Nat.zero_le _⟩ ?_
        refine lv_icmp_ge (tgt := 68) hx hb dX2_mergeAll_54 (by decide) (fun c_54 => ?_) (fun c_54 => ?_)
        · have hm := it_t hm c_54
          exact K_46 ztl46 zfl46 zgl46 zspl46 (o2 hm) _ _ hP hD hS _ (lv_sub hl [1] rfl)
        · have hm := it_f hm c_54
          refine lv_aload_n hx hb dX2_mergeAll_57 rfl (lv_at hl 1 rfl) ?_
          refine lv_iload_n hx hb dX2_mergeAll_58 rfl (lv_at hl 0 rfl) ?_
          obtain ⟨⟨zt59, zf59, zg59, zsp59⟩, h_59, hm⟩ := ob hm
          refine z_callWv (wc := (wL cI ad zk zm zb zs zr zu ztl46 zfl46 zgl46 zbd zro zmc zmg zspl46 zjn)) (w1 := (wL cI ad zk zm zb zs zr zu zt59 zf59 zg59 zbd zro zmc zmg zsp59 zjn)) (ws := (wL cI ad zk zm zb zs zr zu ztl46 zfl46 zgl46 zbd zro zmc zmg zspl46 zjn)) (ws' := (wL cI ad zk zm zb zs zr zu zt59 zf59 zg59 zbd zro zmc zmg zsp59 zjn)) [0, 1, 2, 3, 4, 5, 6, 7, 8, 9, 10, 11, 12, 13, 14, 15, 16, 17] [] 18 (As := [.int x1]) (rest := []) (ci := 2) (q := (RX2, TX2, 15)) ⟨hx, hb, hml, hown, hts⟩ (c_X2_mergePiece l dC dI cI ad zk zm zb zs zr zu ztl46 zfl46 zgl46 zbd zro zmc zmg zspl46 zjn F x1 H.size zt59 zf59 zg59 zsp59 h_59) (cwV 1 hts gX2_mergeAll_X2_mergePiece rfl rfl rfl kv_X2_mergePiece ⟨Nat.le_of_ble_eq_true rfl, Nat.le_of_ble_eq_true rfl⟩) hK hP hD hS hA hP hD rfl rfl (by decide) rfl rfl (by decide) rfl rfl rfl rfl rfl hl.1 rfl (Nat.le_of_ble_eq_true rfl) dX2_mergeAll_59 ⟨Nat.zero_le _, Nat.zero_le _⟩ (fun H locs hP hD hS => ?_)
          obtain ⟨x1_1, e_x1_1⟩ : ∃ y : Int32, y = x1 + 1 := ⟨_, rfl⟩
          have hm := bnd_e hm e_x1_1
          refine lv_iinc (v := x1_1) (lv' := [(1, .int x1_1), (0, .ref (ad 0))]) hx hb dX2_mergeAll_62 hl (k := 0) rfl (by rw [e_x1_1]; rfl) (by decide) rfl (fun ls hl => ?_)
          refine lv_goto (tgt := 46) hx hb dX2_mergeAll_65 (by decide) ?_
          exact ih_46 x1_1 zt59 zf59 zg59 zsp59 hm _ _ hP hD hS _ (lv_sub hl [0, 1] rfl)
    exact L_46 F 0 ztj44 zfj44 zgj44 zspj44 hq_46 _ _ hP hD hS _ (lv_sub hl [0, 1] rfl)
  have hm := hq_44
  refine lv_if_ne (tgt := 44) hx hb dX2_mergeAll_21 (by decide) (fun c_21 => ?_) (fun c_21 => ?_)
  · have hm := it_f hm c_21
    exact J_44 zt zf4 zg11 zsp (o2 hm) _ _ hP hD hS
  · have hm := it_t hm c_21
    refine lv_aload_n hx hb dX2_mergeAll_24 rfl (lv_at hl 0 rfl) ?_
    refine lv_iconst (v := 0) hx hb dX2_mergeAll_25 (by decide) ?_
    refine lv_iconst (v := 0) hx hb dX2_mergeAll_26 (by decide) ?_
    refine lv_iconst (v := 0) hx hb dX2_mergeAll_27 (by decide) ?_
    refine lv_aload_n hx hb dX2_mergeAll_28 rfl (lv_at hl 0 rfl) ?_
    refine va_get (D := (dC, dI)) (ci := 2) (v := .ref (ad 5)) (C := RX2) (T := TX2) (N := 15) hx hb hts ziX2 hown hK hP 0 rfl rfl 2 (by decide) zw3 (fun _ h9 => h9) rfl dX2_mergeAll_29 ?_
    obtain ⟨r32, h_32, hm⟩ := ob hm
    refine z_callRi (As := []) (rest := [.int 0, .int 0, .int 0, .ref (ad 0)]) (ci := 0) (q := (RX0, TX0, 2)) ⟨hx, hb, hml, hown, hts⟩ (c_X0_length l dC dI cI (ad 5) (ad 6) 16 zb F r32 h_32) (cwV 0 hts gX2_mergeAll_X0_length rfl rfl rfl kv_X0_length ⟨Nat.le_of_ble_eq_true rfl, Nat.le_of_ble_eq_true rfl⟩) hK (hP.sub (ws' := (wN cI (ad 5) (ad 6) 16 zb)) [5, 6] rfl) rfl rfl rfl rfl hl.1 rfl (Nat.le_of_ble_eq_true rfl) dX2_mergeAll_32 ⟨Nat.zero_le _, Nat.zero_le _⟩ ?_
    obtain ⟨⟨r35, zf35⟩, h_35, hm⟩ := ob hm
    refine z_callWi (wc := (wL cI ad zk zm zb zs zr zu zt zf4 zg11 zbd zro zmc zmg zsp zjn)) (w1 := (wL cI ad zk zm zb zs zr zu zt zf35 zg11 zbd zro zmc zmg zsp zjn)) (ws := (wL cI ad zk zm zb zs zr zu zt zf4 zg11 zbd zro zmc zmg zsp zjn)) (ws' := (wL cI ad zk zm zb zs zr zu zt zf35 zg11 zbd zro zmc zmg zsp zjn)) [0, 1, 2, 3, 4, 5, 6, 7, 8, 9, 10, 11, 12, 13, 14, 15, 16, 17] [] 18 (As := [.int 0, .int 0, .int 0, .int r32]) (rest := []) (ci := 2) (q := (RX2, TX2, 15)) ⟨hx, hb, hml, hown, hts⟩ (c_X2_gather l dC dI cI ad zk zm zb zs zr zu zt zf4 zg11 zbd zro zmc zmg zsp zjn F 0 0 0 r32 H.size r35 zf35 h_35) (cwV 4 hts gX2_mergeAll_X2_gather rfl rfl rfl kv_X2_gather ⟨Nat.le_of_ble_eq_true rfl, Nat.le_of_ble_eq_true rfl⟩) hK hP hD hS hA hP hD rfl rfl (by decide) rfl rfl (by decide) rfl rfl rfl rfl rfl hl.1 rfl (Nat.le_of_ble_eq_true rfl) dX2_mergeAll_35 ⟨Nat.zero_le _, Nat.zero_le _⟩ (fun H locs hP hD hS => ?_)
    refine lv_pop hx hb dX2_mergeAll_38 rfl ?_
    refine lv_aload_n hx hb dX2_mergeAll_39 rfl (lv_at hl 0 rfl) ?_
    refine lv_iconst (v := 0) hx hb dX2_mergeAll_40 (by decide) ?_
    obtain ⟨⟨zt41, zg41, zsp41⟩, h_41, hm⟩ := ob hm
    refine z_callWv (wc := (wL cI ad zk zm zb zs zr zu zt zf35 zg11 zbd zro zmc zmg zsp zjn)) (w1 := (wL cI ad zk zm zb zs zr zu zt41 zf35 zg41 zbd zro zmc zmg zsp41 zjn)) (ws := (wL cI ad zk zm zb zs zr zu zt zf35 zg11 zbd zro zmc zmg zsp zjn)) (ws' := (wL cI ad zk zm zb zs zr zu zt41 zf35 zg41 zbd zro zmc zmg zsp41 zjn)) [0, 1, 2, 3, 4, 5, 6, 7, 8, 9, 10, 11, 12, 13, 14, 15, 16, 17] [] 18 (As := [.int 0]) (rest := []) (ci := 2) (q := (RX2, TX2, 15)) ⟨hx, hb, hml, hown, hts⟩ (c_X2_cutFresh l dC dI cI ad zk zm zb zs zr zu zt zf35 zg11 zbd zro zmc zmg zsp zjn F 0 H.size zt41 zg41 zsp41 h_41) (cwV 1 hts gX2_mergeAll_X2_cutFresh rfl rfl rfl kv_X2_cutFresh ⟨Nat.le_of_ble_eq_true rfl, Nat.le_of_ble_eq_true rfl⟩) hK hP hD hS hA hP hD rfl rfl (by decide) rfl rfl (by decide) rfl rfl rfl rfl rfl hl.1 rfl (Nat.le_of_ble_eq_true rfl) dX2_mergeAll_41 ⟨Nat.zero_le _, Nat.zero_le _⟩ (fun H locs hP hD hS => ?_)
    exact J_44 zt41 zf35 zg41 zsp41 (o2 hm) _ _ hP hD hS
set_option maxHeartbeats 4000000 in
set_option maxRecDepth 100000 in
theorem c_X2_addLate (l : Launch) (dC : Nat → ClassId) (dI : Nat → Nat → Nat) (cI : ClassId) (ad : Nat → Nat) (zk : zN) (zm : zN) (zb : zN) (zs : zN) (zr : zN) (zu : zN) (zt : zT) (zf : zN) (zg : zN) (zbd : Int32) (zro : Int32) (zmc : Int32) (zmg : Int32) (zsp : Int32) (zjn : Int32) (F : Nat) (p1 : Int32) (sz : Nat) (u_zk : zN) (u_zm : zN) (u_zb : zN) (u_zs : zN) (u_zr : zN) (u_zu : zN) (u_zt : zT) (u_zf : zN) (u_zg : zN) (u_zmc : Int32) (u_zmg : Int32) (u_zsp : Int32) (u_zjn : Int32) (hm : X2_addLate F zk zm zb zs zr zu zt zf zg zbd zro zmc zmg zsp zjn p1 = some (u_zk, u_zm, u_zb, u_zs, u_zr, u_zu, u_zt, u_zf, u_zg, u_zmc, u_zmg, u_zsp, u_zjn)) : Met l yX2_addLate wsX2_addLate ({ frames := 5, cells := 0, slots := 0, locals := 116 }) (va_Pc [.ref (ad 0), .int p1] (zW (dC, dI) (wL cI ad zk zm zb zs zr zu zt zf zg zbd zro zmc zmg zsp zjn) [(cI, .int)] sz)) (zQv (dC, dI) (wL cI ad u_zk u_zm u_zb u_zs u_zr u_zu u_zt u_zf u_zg zbd zro u_zmc u_zmg u_zsp u_zjn) [(cI, .int)] (va_A (wL cI ad zk zm zb zs zr zu zt zf zg zbd zro zmc zmg zsp zjn) sz)) 0 0 (va_A (wL cI ad zk zm zb zs zr zu zt zf zg zbd zro zmc zmg zsp zjn) sz) := by
  refine Met.ofW (cc := cX2_addLate) (maxL := 2) (ret := none) (by decide) rfl ?_
  intro p e s m args below meth c s₁ B hml hv
  obtain ⟨rfl, hsz, hP, hK, hD0⟩ := hv
  have hx := B.exec
  have hb := B.bytes
  have hr := B.returns
  have hts := atoms_spec (ws := wsX2_addLate) B.pre
  have hown : s.vm.findClass RX2 = some m.cls := findClass_of_methodNamed B.named
  have hlocks := B.notSynchronized
  subst hsz
  have hD := hD0.self (sz := s.heap.size)
  generalize hAe : va_A (wL cI ad zk zm zb zs zr zu zt zf zg zbd zro zmc zmg zsp zjn) s.heap.size = A at hD ⊢
  have hA : ∀ q : Nat, s.heap.size ≤ q → A q := fun q h => by rw [← hAe]; exact Or.inr h
  have hS : va_S A s.heap s.heap [] := va_S.rf
  generalize eL : ([] : List Loc) = locs at hS ⊢
  obtain ⟨H, eH⟩ : ∃ z : Heap, z = s.heap := ⟨_, rfl⟩
  have hP : va_P (dC, dI) vwCl (wL cI ad zk zm zb zs zr zu zt zf zg zbd zro zmc zmg zsp zjn) H := by rw [eH]; exact hP
  have hS : va_S A s.heap H locs := by rw [eH]; exact hS
  refine z_heap eH ?_
  have hl := lv_entry ([.ref (ad 0), .int p1]) (n := 2) (Nat.le_of_ble_eq_true rfl)
  rw [lg_entry_eq]
  generalize (lg_sl ([.ref (ad 0), .int p1]) ++ List.replicate (2 - (lg_sl ([.ref (ad 0), .int p1])).length) Slot.unset).toArray = ls at hl ⊢
  have hl : lv_has ls 2 [(0, .ref (ad 0)), (1, .int p1)] := hl
  have zw0 := hts (.fieldLink RX2 21 "LearnedLedge" "buffer" "LLearnedLedge$Numbers;") (by decide +kernel)
  have zw1 := hts (.fieldLink RX2 50 "LearnedLedge" "room" "I") (by decide +kernel)
  have ziX2 : ∀ w ∈ u_ws RX2 TX2 15, w ∈ wsX2_addLate := by decide +kernel
  refine lv_aload_n hx hb dX2_addLate_0 rfl (lv_at hl 0 rfl) ?_
  refine va_get (D := (dC, dI)) (ci := 2) (v := .ref (ad 5)) (C := RX2) (T := TX2) (N := 15) hx hb hts ziX2 hown hK hP 0 rfl rfl 2 (by decide) zw0 (fun _ h9 => h9) rfl dX2_addLate_1 ?_
  refine lv_aload_n hx hb dX2_addLate_4 rfl (lv_at hl 0 rfl) ?_
  refine va_get (D := (dC, dI)) (ci := 2) (v := .ref (ad 5)) (C := RX2) (T := TX2) (N := 15) hx hb hts ziX2 hown hK hP 0 rfl rfl 2 (by decide) zw0 (fun _ h9 => h9) rfl dX2_addLate_5 ?_
  refine lv_iload_n hx hb dX2_addLate_8 rfl (lv_at hl 1 rfl) ?_
  obtain ⟨r9, h_9, hm⟩ := ob hm
  refine z_callRi (As := [.int p1]) (rest := [.ref (ad 5)]) (ci := 0) (q := (RX0, TX0, 2)) ⟨hx, hb, hml, hown, hts⟩ (c_X0_below l dC dI cI (ad 5) (ad 6) 16 zb F p1 r9 h_9) (cwV 1 hts gX2_addLate_X0_below rfl rfl rfl kv_X0_below ⟨Nat.le_of_ble_eq_true rfl, Nat.le_of_ble_eq_true rfl⟩) hK (hP.sub (ws' := (wN cI (ad 5) (ad 6) 16 zb)) [5, 6] rfl) rfl rfl rfl rfl hl.1 rfl (Nat.le_of_ble_eq_true rfl) dX2_addLate_9 ⟨Nat.zero_le _, Nat.zero_le _⟩ ?_
  refine lv_iload_n hx hb dX2_addLate_12 rfl (lv_at hl 1 rfl) ?_
  obtain ⟨zb13, h_13, hm⟩ := ob hm
  refine z_callWv (wc := (wN cI (ad 5) (ad 6) 16 zb)) (w1 := (wN cI (ad 5) (ad 6) 16 zb13)) (ws := (wL cI ad zk zm zb zs zr zu zt zf zg zbd zro zmc zmg zsp zjn)) (ws' := (wL cI ad zk zm zb13 zs zr zu zt zf zg zbd zro zmc zmg zsp zjn)) [5, 6] [0, 1, 2, 3, 4, 7, 8, 9, 10, 11, 12, 13, 14, 15, 16, 17] 18 (As := [.int r9, .int p1]) (rest := []) (ci := 0) (q := (RX0, TX0, 2)) ⟨hx, hb, hml, hown, hts⟩ (c_X0_squeezeIn l dC dI cI (ad 5) (ad 6) 16 zb F r9 p1 H.size zb13 h_13) (cwV 2 hts gX2_addLate_X0_squeezeIn rfl rfl rfl kv_X0_squeezeIn ⟨Nat.le_of_ble_eq_true rfl, Nat.le_of_ble_eq_true rfl⟩) hK hP hD hS hA (hP.sub (ws' := (wN cI (ad 5) (ad 6) 16 zb)) [5, 6] rfl) (hD.sub (ws' := (wN cI (ad 5) (ad 6) 16 zb)) [5, 6] (by decide) rfl) rfl rfl (by decide) rfl rfl (by decide) rfl rfl rfl rfl rfl hl.1 rfl (Nat.le_of_ble_eq_true rfl) dX2_addLate_13 ⟨Nat.zero_le _, Nat.zero_le _⟩ (fun H locs hP hD hS => ?_)
  refine lv_aload_n hx hb dX2_addLate_16 rfl (lv_at hl 0 rfl) ?_
  refine va_get (D := (dC, dI)) (ci := 2) (v := .ref (ad 5)) (C := RX2) (T := TX2) (N := 15) hx hb hts ziX2 hown hK hP 0 rfl rfl 2 (by decide) zw0 (fun _ h9 => h9) rfl dX2_addLate_17 ?_
  obtain ⟨r20, h_20, hm⟩ := ob hm
  refine z_callRi (As := []) (rest := []) (ci := 0) (q := (RX0, TX0, 2)) ⟨hx, hb, hml, hown, hts⟩ (c_X0_length l dC dI cI (ad 5) (ad 6) 16 zb13 F r20 h_20) (cwV 0 hts gX2_addLate_X0_length rfl rfl rfl kv_X0_length ⟨Nat.le_of_ble_eq_true rfl, Nat.le_of_ble_eq_true rfl⟩) hK (hP.sub (ws' := (wN cI (ad 5) (ad 6) 16 zb13)) [5, 6] rfl) rfl rfl rfl rfl hl.1 rfl (Nat.le_of_ble_eq_true rfl) dX2_addLate_20 ⟨Nat.zero_le _, Nat.zero_le _⟩ ?_
  refine lv_aload_n hx hb dX2_addLate_23 rfl (lv_at hl 0 rfl) ?_
  refine va_get (D := (dC, dI)) (ci := 2) (v := .int zro) (C := RX2) (T := TX2) (N := 15) hx hb hts ziX2 hown hK hP 0 rfl rfl 10 (by decide) zw1 (fun _ h9 => h9) rfl dX2_addLate_24 ?_
  refine lv_icmp_lt (tgt := 34) hx hb dX2_addLate_27 (by decide) (fun c_27 => ?_) (fun c_27 => ?_)
  · have hm := it_t hm c_27
    cases o2 hm
    exact W.vret hx hb hr (fun t ht hW => ⟨⟨(), rfl, trivial, by rw [ht]; exact hP, va_K.moved hW.alike hK, hD⟩, hS.F ht⟩) hS.2.2 dX2_addLate_34
  · have hm := it_f hm c_27
    refine lv_aload_n hx hb dX2_addLate_30 rfl (lv_at hl 0 rfl) ?_
    obtain ⟨⟨zk31, zm31, zb31, zs31, zr31, zu31, zt31, zf31, zg31, zmc31, zmg31, zsp31, zjn31⟩, h_31, hm⟩ := ob hm
    refine z_callWv (wc := (wL cI ad zk zm zb13 zs zr zu zt zf zg zbd zro zmc zmg zsp zjn)) (w1 := (wL cI ad zk31 zm31 zb31 zs31 zr31 zu31 zt31 zf31 zg31 zbd zro zmc31 zmg31 zsp31 zjn31)) (ws := (wL cI ad zk zm zb13 zs zr zu zt zf zg zbd zro zmc zmg zsp zjn)) (ws' := (wL cI ad zk31 zm31 zb31 zs31 zr31 zu31 zt31 zf31 zg31 zbd zro zmc31 zmg31 zsp31 zjn31)) [0, 1, 2, 3, 4, 5, 6, 7, 8, 9, 10, 11, 12, 13, 14, 15, 16, 17] [] 18 (As := []) (rest := []) (ci := 2) (q := (RX2, TX2, 15)) ⟨hx, hb, hml, hown, hts⟩ (c_X2_mergeAll l dC dI cI ad zk zm zb13 zs zr zu zt zf zg zbd zro zmc zmg zsp zjn F H.size zk31 zm31 zb31 zs31 zr31 zu31 zt31 zf31 zg31 zmc31 zmg31 zsp31 zjn31 h_31) (cwV 0 hts gX2_addLate_X2_mergeAll rfl rfl rfl kv_X2_mergeAll ⟨Nat.le_of_ble_eq_true rfl, Nat.le_of_ble_eq_true rfl⟩) hK hP hD hS hA hP hD rfl rfl (by decide) rfl rfl (by decide) rfl rfl rfl rfl rfl hl.1 rfl (Nat.le_of_ble_eq_true rfl) dX2_addLate_31 ⟨Nat.zero_le _, Nat.zero_le _⟩ (fun H locs hP hD hS => ?_)
    cases o2 hm
    exact W.vret hx hb hr (fun t ht hW => ⟨⟨(), rfl, trivial, by rw [ht]; exact hP, va_K.moved hW.alike hK, hD⟩, hS.F ht⟩) hS.2.2 dX2_addLate_34
set_option maxHeartbeats 4000000 in
set_option maxRecDepth 100000 in
theorem c_X2_insert (l : Launch) (dC : Nat → ClassId) (dI : Nat → Nat → Nat) (cI : ClassId) (ad : Nat → Nat) (zk : zN) (zm : zN) (zb : zN) (zs : zN) (zr : zN) (zu : zN) (zt : zT) (zf : zN) (zg : zN) (zbd : Int32) (zro : Int32) (zmc : Int32) (zmg : Int32) (zsp : Int32) (zjn : Int32) (F : Nat) (p1 : Int32) (sz : Nat) (sa : Nat → Nat) (hl9 : l.stackTraces = false) (z : Nat ⊕ (Int32 × zN × zN × zN × zN × zN × zN × zT × zN × zN × Int32 × Int32 × Int32 × Int32)) (hm : X2_insert F zk zm zb zs zr zu zt zf zg zbd zro zmc zmg zsp zjn p1 = some z) : vx_Met l yX2_insert wsX2_insert ({ frames := 7, cells := 2, slots := 12, locals := 137 }) (va_Pc [.ref (ad 0), .int p1] (zX (dC, dI) (wL cI ad zk zm zb zs zr zu zt zf zg zbd zro zmc zmg zsp zjn) [(cI, .int)] sz sa)) (zXi (dC, dI) (fun (u_ : zN × zN × zN × zN × zN × zN × zT × zN × zN × Int32 × Int32 × Int32 × Int32) => (wL cI ad u_.1 u_.2.1 u_.2.2.1 u_.2.2.2.1 u_.2.2.2.2.1 u_.2.2.2.2.2.1 u_.2.2.2.2.2.2.1 u_.2.2.2.2.2.2.2.1 u_.2.2.2.2.2.2.2.2.1 zbd zro u_.2.2.2.2.2.2.2.2.2.1 u_.2.2.2.2.2.2.2.2.2.2.1 u_.2.2.2.2.2.2.2.2.2.2.2.1 u_.2.2.2.2.2.2.2.2.2.2.2.2)) [(cI, .int)] (va_A (wL cI ad zk zm zb zs zr zu zt zf zg zbd zro zmc zmg zsp zjn) sz) (fun r_ u_ => z = Sum.inr (r_, u_))) (zXC (dC, dI) (wL cI ad zk zm zb zs zr zu zt zf zg zbd zro zmc zmg zsp zjn) [(cI, .int)] (va_A (wL cI ad zk zm zb zs zr zu zt zf zg zbd zro zmc zmg zsp zjn) sz) z) 2 12 (va_A (wL cI ad zk zm zb zs zr zu zt zf zg zbd zro zmc zmg zsp zjn) sz) := by
  refine vx_ofW (cc := cX2_insert) (maxL := 3) (ret := (some .int)) (by decide) rfl ?_
  intro p e s m args below meth c s₁ B hml hnx hv
  obtain ⟨rfl, ⟨hsz, hP, hK, hD0⟩, hV⟩ := hv
  have hx := B.exec
  have hb := B.bytes
  have hr := B.returns
  have hts := atoms_spec (ws := wsX2_insert) B.pre
  have hown : s.vm.findClass RX2 = some m.cls := findClass_of_methodNamed B.named
  have hlocks := B.notSynchronized
  subst hsz
  have hD := hD0.self (sz := s.heap.size)
  generalize hAe : va_A (wL cI ad zk zm zb zs zr zu zt zf zg zbd zro zmc zmg zsp zjn) s.heap.size = A at hD hV ⊢
  have hA : ∀ q : Nat, s.heap.size ≤ q → A q := fun q h => by rw [← hAe]; exact Or.inr h
  have hS : va_S A s.heap s.heap [] := va_S.rf
  generalize eL : ([] : List Loc) = locs at hS ⊢
  obtain ⟨H, eH⟩ : ∃ z : Heap, z = s.heap := ⟨_, rfl⟩
  have hP : va_P (dC, dI) vwCl (wL cI ad zk zm zb zs zr zu zt zf zg zbd zro zmc zmg zsp zjn) H := by rw [eH]; exact hP
  have hS : va_S A s.heap H locs := by rw [eH]; exact hS
  refine z_heap eH ?_
  have hl := lv_entry ([.ref (ad 0), .int p1]) (n := 3) (Nat.le_of_ble_eq_true rfl)
  rw [lg_entry_eq]
  generalize (lg_sl ([.ref (ad 0), .int p1]) ++ List.replicate (3 - (lg_sl ([.ref (ad 0), .int p1])).length) Slot.unset).toArray = ls at hl ⊢
  have hl : lv_has ls 3 [(0, .ref (ad 0)), (1, .int p1)] := hl
  have zw0 := hts (.fieldLink RX2 14 "LearnedLedge" "keys" "LLearnedLedge$Numbers;") (by decide +kernel)
  have zw1 := hts (.fieldLink RX2 18 "LearnedLedge" "marks" "LLearnedLedge$Numbers;") (by decide +kernel)
  have zw2 := hts (.fieldLink RX2 53 "LearnedLedge" "markCount" "I") (by decide +kernel)
  have zw3 := hts (.fieldLink RX2 21 "LearnedLedge" "buffer" "LLearnedLedge$Numbers;") (by decide +kernel)
  have zw4 := hts (.classLink RX2 98 "java/lang/IllegalStateException") (by decide +kernel)
  have zw5 := hts (.initialized "java/lang/IllegalStateException") (by decide +kernel)
  have ziX2 : ∀ w ∈ u_ws RX2 TX2 15, w ∈ wsX2_insert := by decide +kernel
  refine lv_iload_n hx hb dX2_insert_0 rfl (lv_at hl 1 rfl) ?_
  refine lv_i2l hx hb dX2_insert_1 rfl ?_
  obtain ⟨z_2, h_2, hm⟩ := ob hm
  refine z_xSv (U := Unit) (w1 := fun u_ => []) (ws' := fun u_ => (wL cI ad zk zm zb zs zr zu zt zf zg zbd zro zmc zmg zsp zjn)) [] [0, 1, 2, 3, 4, 5, 6, 7, 8, 9, 10, 11, 12, 13, 14, 15, 16, 17] 18 (As := [.long (Int32.toInt64 p1)]) (rest := []) (wc := []) (ws := (wL cI ad zk zm zb zs zr zu zt zf zg zbd zro zmc zmg zsp zjn)) ⟨hx, hb, hml, hown, hts⟩ (c_X2_needKey l dC dI F (Int32.toInt64 p1) H.size sa hl9 z_2 h_2) (va_cwS 1 hts gX2_insert_X2_needKey rfl rfl rfl ks_X2_needKey ⟨(Nat.le_of_ble_eq_true rfl), (Nat.le_of_ble_eq_true rfl)⟩) hV (hK.sub (tys' := []) [] rfl) hP hD hS hA z_P0 z_D0 rfl (fun _ => rfl) (by decide) (fun _ => rfl) rfl (fun _ => rfl) (by decide) (fun _ => rfl) rfl hl.1 rfl (Nat.le_of_ble_eq_true rfl) dX2_insert_2 ⟨(Nat.le_of_ble_eq_true rfl), (Nat.le_of_ble_eq_true rfl)⟩ (fun k ce q9 H locs ez hP hS hce hcv hcl => ?_) (fun u_2 H locs hw hP hD hS => ?_)
  · rw [ez] at hm
    exact vx_out (fun x hx => (hnx x hx).elim) hlocks hce hcv hcl (z_xc (o2 hm) hP hK hD hS) hS.2.2 (Nat.le_of_ble_eq_true rfl) (Nat.le_of_ble_eq_true rfl)
  · rw [hw] at hm
    have hP : va_P (dC, dI) vwCl (wL cI ad zk zm zb zs zr zu zt zf zg zbd zro zmc zmg zsp zjn) H := hP
    have hD : va_D A (wL cI ad zk zm zb zs zr zu zt zf zg zbd zro zmc zmg zsp zjn) := hD
    refine lv_aload_n hx hb dX2_insert_5 rfl (lv_at hl 0 rfl) ?_
    refine va_get (D := (dC, dI)) (ci := 2) (v := .ref (ad 1)) (C := RX2) (T := TX2) (N := 15) hx hb hts ziX2 hown hK hP 0 rfl rfl 0 (by decide) zw0 (fun _ h9 => h9) rfl dX2_insert_6 ?_
    refine lv_iload_n hx hb dX2_insert_9 rfl (lv_at hl 1 rfl) ?_
    obtain ⟨r10, h_10, hm⟩ := ob hm
    refine z_callRi (As := [.int p1]) (rest := []) (ci := 0) (q := (RX0, TX0, 2)) ⟨hx, hb, hml, hown, hts⟩ (c_X0_indexOf l dC dI cI (ad 1) (ad 2) 256 zk F p1 r10 h_10) (cwV 1 hts gX2_insert_X0_indexOf rfl rfl rfl kv_X0_indexOf ⟨Nat.le_of_ble_eq_true rfl, Nat.le_of_ble_eq_true rfl⟩) hK (hP.sub (ws' := (wN cI (ad 1) (ad 2) 256 zk)) [1, 2] rfl) rfl rfl rfl rfl hl.1 rfl (Nat.le_of_ble_eq_true rfl) dX2_insert_10 ⟨Nat.le_of_ble_eq_true rfl, Nat.le_of_ble_eq_true rfl⟩ ?_
    refine lv_istore_n (lv' := [(2, .int r10), (0, .ref (ad 0)), (1, .int p1)]) hx hb dX2_insert_13 rfl hl (by decide) rfl (fun ls hl => ?_)
    refine lv_aload_n hx hb dX2_insert_14 rfl (lv_at hl 1 rfl) ?_
    refine lv_iload_n hx hb dX2_insert_15 rfl (lv_at hl 2 rfl) ?_
    obtain ⟨r16, h_16, hm⟩ := ob hm
    refine z_callRi (As := [.int p1]) (rest := []) (ci := 2) (q := (RX2, TX2, 15)) ⟨hx, hb, hml, hown, hts⟩ (c_X2_isThere l dC dI cI ad zk zm zb zs zr zu zt zf zg zbd zro zmc zmg zsp zjn F p1 r16 h_16) (cwV 1 hts gX2_insert_X2_isThere rfl rfl rfl kv_X2_isThere ⟨Nat.le_of_ble_eq_true rfl, Nat.le_of_ble_eq_true rfl⟩) hK hP rfl rfl rfl rfl hl.1 rfl (Nat.le_of_ble_eq_true rfl) dX2_insert_16 ⟨Nat.le_of_ble_eq_true rfl, Nat.le_of_ble_eq_true rfl⟩ ?_
    refine lv_if_ne (tgt := 37) hx hb dX2_insert_19 (by decide) (fun c_19 => ?_) (fun c_19 => ?_)
    · have hm := it_f hm c_19
      exact vx_throwS hx hb hl9 (own := RX2) (cls := "java/lang/IllegalStateException") (names := ["java/lang/RuntimeException", "java/lang/Exception"]) (ik := 98) (is := 100) (ic := 102) hown (by decide +kernel) (by decide +kernel) zw4 zw5 (hV.1 (100, "key is there, or no room") (by decide +kernel)) (vx_hat (fun w h => hts w (List.mem_cons_of_mem _ (List.mem_append_left _ (List.mem_append_right _ h)))) (by decide +kernel) (zV_ng hV)) (by decide +kernel) hV.2.2.1 hV.2.2.2 hS (hl.1.trans hml.symm) dX2_insert_37 dX2_insert_40 dX2_insert_41 dX2_insert_43 dX2_insert_46 (fun x hx => (hnx x hx).elim) (Nat.le_of_ble_eq_true rfl) (Nat.le_of_ble_eq_true rfl) (Nat.le_of_ble_eq_true rfl) (Nat.le_of_ble_eq_true rfl) hlocks (z_xt (k := 2) rfl (o2 hm) hP hK hD hS) hS.2.2 (Nat.le_of_ble_eq_true rfl) (Nat.le_of_ble_eq_true rfl)
    · have hm := it_t hm c_19
      refine lv_iload_n hx hb dX2_insert_22 rfl (lv_at hl 0 rfl) ?_
      refine lv_iconst (v := (-1)) hx hb dX2_insert_23 (by decide) ?_
      obtain ⟨k_47, ek_47, hm⟩ := bnd_x hm
      have J_47 : k_47 () = some z → W p l e (headSpec wsX2_insert ({ frames := 7, cells := 2, slots := 12, locals := 137 } : Room)).room s m ([.ref (ad 0), .int p1] : List Value).toArray below meth c H locs 1 6 (vx_MQ below (zXi (dC, dI) (fun (u_ : zN × zN × zN × zN × zN × zN × zT × zN × zN × Int32 × Int32 × Int32 × Int32) => (wL cI ad u_.1 u_.2.1 u_.2.2.1 u_.2.2.2.1 u_.2.2.2.2.1 u_.2.2.2.2.2.1 u_.2.2.2.2.2.2.1 u_.2.2.2.2.2.2.2.1 u_.2.2.2.2.2.2.2.2.1 zbd zro u_.2.2.2.2.2.2.2.2.2.1 u_.2.2.2.2.2.2.2.2.2.2.1 u_.2.2.2.2.2.2.2.2.2.2.2.1 u_.2.2.2.2.2.2.2.2.2.2.2.2)) [(cI, .int)] A (fun r_ u_ => z = Sum.inr (r_, u_))) (zXC (dC, dI) (wL cI ad zk zm zb zs zr zu zt zf zg zbd zro zmc zmg zsp zjn) [(cI, .int)] A z) ([.ref (ad 0), .int p1] : List Value).toArray s 2 12 A) (F0 m 47 ls []) := by
        intro hj
        have hm := (congrFun ek_47 ()).symm.trans hj
        refine lv_iload_n hx hb dX2_insert_47 rfl (lv_at hl 0 rfl) ?_
        refine lv_iconst (v := (-1)) hx hb dX2_insert_48 (by decide) ?_
        obtain ⟨z_79, hq_79, hm⟩ := ob hm
        have J_79 : ∀ (zkj79 : zN), ∀ (zmj79 : zN), ∀ (zbj79 : zN), ∀ (zsj79 : zN), ∀ (zrj79 : zN), ∀ (zuj79 : zN), ∀ (ztj79 : zT), ∀ (zfj79 : zN), ∀ (zgj79 : zN), ∀ (zmcj79 : Int32), ∀ (zmgj79 : Int32), ∀ (zspj79 : Int32), ∀ (zjnj79 : Int32), z_79 = (zkj79, zmj79, zbj79, zsj79, zrj79, zuj79, ztj79, zfj79, zgj79, zmcj79, zmgj79, zspj79, zjnj79) → ∀ (H : Heap) (locs : List Loc), va_P (dC, dI) vwCl (wL cI ad zkj79 zmj79 zbj79 zsj79 zrj79 zuj79 ztj79 zfj79 zgj79 zbd zro zmcj79 zmgj79 zspj79 zjnj79) H → va_D A (wL cI ad zkj79 zmj79 zbj79 zsj79 zrj79 zuj79 ztj79 zfj79 zgj79 zbd zro zmcj79 zmgj79 zspj79 zjnj79) → va_S A s.heap H locs → W p l e (headSpec wsX2_insert ({ frames := 7, cells := 2, slots := 12, locals := 137 } : Room)).room s m ([.ref (ad 0), .int p1] : List Value).toArray below meth c H locs 1 6 (vx_MQ below (zXi (dC, dI) (fun (u_ : zN × zN × zN × zN × zN × zN × zT × zN × zN × Int32 × Int32 × Int32 × Int32) => (wL cI ad u_.1 u_.2.1 u_.2.2.1 u_.2.2.2.1 u_.2.2.2.2.1 u_.2.2.2.2.2.1 u_.2.2.2.2.2.2.1 u_.2.2.2.2.2.2.2.1 u_.2.2.2.2.2.2.2.2.1 zbd zro u_.2.2.2.2.2.2.2.2.2.1 u_.2.2.2.2.2.2.2.2.2.2.1 u_.2.2.2.2.2.2.2.2.2.2.2.1 u_.2.2.2.2.2.2.2.2.2.2.2.2)) [(cI, .int)] A (fun r_ u_ => z = Sum.inr (r_, u_))) (zXC (dC, dI) (wL cI ad zk zm zb zs zr zu zt zf zg zbd zro zmc zmg zsp zjn) [(cI, .int)] A z) ([.ref (ad 0), .int p1] : List Value).toArray s 2 12 A) (F0 m 79 ls []) := by
          intro zkj79 zmj79 zbj79 zsj79 zrj79 zuj79 ztj79 zfj79 zgj79 zmcj79 zmgj79 zspj79 zjnj79 ez H locs hP hD hS
          rw [ez] at hm
          refine lv_aload_n hx hb dX2_insert_79 rfl (lv_at hl 1 rfl) ?_
          refine va_get (D := (dC, dI)) (ci := 2) (v := .ref (ad 5)) (C := RX2) (T := TX2) (N := 15) hx hb hts ziX2 hown hK hP 0 rfl rfl 2 (by decide) zw3 (fun _ h9 => h9) rfl dX2_insert_80 ?_
          obtain ⟨r83, h_83, hm⟩ := ob hm
          refine z_callRi (As := []) (rest := []) (ci := 0) (q := (RX0, TX0, 2)) ⟨hx, hb, hml, hown, hts⟩ (c_X0_length l dC dI cI (ad 5) (ad 6) 16 zbj79 F r83 h_83) (cwV 0 hts gX2_insert_X0_length rfl rfl rfl kv_X0_length ⟨Nat.le_of_ble_eq_true rfl, Nat.le_of_ble_eq_true rfl⟩) hK (hP.sub (ws' := (wN cI (ad 5) (ad 6) 16 zbj79)) [5, 6] rfl) rfl rfl rfl rfl hl.1 rfl (Nat.le_of_ble_eq_true rfl) dX2_insert_83 ⟨Nat.le_of_ble_eq_true rfl, Nat.le_of_ble_eq_true rfl⟩ ?_
          refine vx_ret (W.widen (k := 2) (n := 12) (Nat.le_of_ble_eq_true rfl) (Nat.le_of_ble_eq_true rfl) ?_)
          exact W.iret hx hb hr (fun t ht hW => ⟨⟨_, (zkj79, zmj79, zbj79, zsj79, zrj79, zuj79, ztj79, zfj79, zgj79, zmcj79, zmgj79, zspj79, zjnj79), rfl, o2 hm, by rw [ht]; exact hP, va_K.moved hW.alike hK, hD⟩, hS.F ht⟩) hS.2.2 dX2_insert_86
        have hm := hq_79
        refine lv_icmp_ne (tgt := 60) hx hb dX2_insert_49 (by decide) (fun c_49 => ?_) (fun c_49 => ?_)
        · have hm := it_f hm c_49
          refine lv_aload_n hx hb dX2_insert_60 rfl (lv_at hl 1 rfl) ?_
          refine va_get (D := (dC, dI)) (ci := 2) (v := .ref (ad 3)) (C := RX2) (T := TX2) (N := 15) hx hb hts ziX2 hown hK hP 0 rfl rfl 1 (by decide) zw1 (fun _ h9 => h9) rfl dX2_insert_61 ?_
          refine lv_iload_n hx hb dX2_insert_64 rfl (lv_at hl 0 rfl) ?_
          refine lv_iconst (v := 0) hx hb dX2_insert_65 (by decide) ?_
          obtain ⟨zm66, h_66, hm⟩ := ob hm
          refine z_callWv (wc := (wN cI (ad 3) (ad 4) 256 zm)) (w1 := (wN cI (ad 3) (ad 4) 256 zm66)) (ws := (wL cI ad zk zm zb zs zr zu zt zf zg zbd zro zmc zmg zsp zjn)) (ws' := (wL cI ad zk zm66 zb zs zr zu zt zf zg zbd zro zmc zmg zsp zjn)) [3, 4] [0, 1, 2, 5, 6, 7, 8, 9, 10, 11, 12, 13, 14, 15, 16, 17] 18 (As := [.int r10, .int 0]) (rest := []) (ci := 0) (q := (RX0, TX0, 2)) ⟨hx, hb, hml, hown, hts⟩ (c_X0_put l dC dI cI (ad 3) (ad 4) 256 zm F r10 0 H.size zm66 h_66) (cwV 2 hts gX2_insert_X0_put rfl rfl rfl kv_X0_put ⟨Nat.le_of_ble_eq_true rfl, Nat.le_of_ble_eq_true rfl⟩) hK hP hD hS hA (hP.sub (ws' := (wN cI (ad 3) (ad 4) 256 zm)) [3, 4] rfl) (hD.sub (ws' := (wN cI (ad 3) (ad 4) 256 zm)) [3, 4] (by decide) rfl) rfl rfl (by decide) rfl rfl (by decide) rfl rfl rfl rfl rfl hl.1 rfl (Nat.le_of_ble_eq_true rfl) dX2_insert_66 ⟨Nat.le_of_ble_eq_true rfl, Nat.le_of_ble_eq_true rfl⟩ (fun H locs hP hD hS => ?_)
          refine lv_aload_n hx hb dX2_insert_69 rfl (lv_at hl 1 rfl) ?_
          refine lv_dup hx hb dX2_insert_70 rfl ?_
          refine va_get (D := (dC, dI)) (ci := 2) (v := .int zmc) (C := RX2) (T := TX2) (N := 15) hx hb hts ziX2 hown hK hP 0 rfl rfl 11 (by decide) zw2 (fun _ h9 => h9) rfl dX2_insert_71 ?_
          refine lv_iconst (v := 1) hx hb dX2_insert_74 (by decide) ?_
          refine lv_isub hx hb dX2_insert_75 ?_
          refine va_put (D := (dC, dI)) (ci := 2) (v := .int (zmc - 1)) (ty := .int) (C := RX2) (T := TX2) (N := 15) hx hb hts ziX2 tyX2 tyX2_ok nmX2 hown hK hP hD hS 0 rfl rfl 11 (by decide) zw2 (fun _ h9 => h9) rfl (by decide +kernel) rfl rfl (Nat.le_of_ble_eq_true rfl) dX2_insert_76 (fun H locs hP hD hS => ?_)
          have hP : va_P (dC, dI) vwCl (wL cI ad zk zm66 zb zs zr zu zt zf zg zbd zro (zmc - 1) zmg zsp zjn) H := hP
          have hD : va_D A (wL cI ad zk zm66 zb zs zr zu zt zf zg zbd zro (zmc - 1) zmg zsp zjn) := hD
          exact J_79 zk zm66 zb zs zr zu zt zf zg (zmc - 1) zmg zsp zjn (o2 hm) _ _ hP hD hS
        · have hm := it_t hm c_49
          refine lv_aload_n hx hb dX2_insert_52 rfl (lv_at hl 1 rfl) ?_
          refine lv_iload_n hx hb dX2_insert_53 rfl (lv_at hl 2 rfl) ?_
          obtain ⟨⟨zk54, zm54, zb54, zs54, zr54, zu54, zt54, zf54, zg54, zmc54, zmg54, zsp54, zjn54⟩, h_54, hm⟩ := ob hm
          refine z_callWv (wc := (wL cI ad zk zm zb zs zr zu zt zf zg zbd zro zmc zmg zsp zjn)) (w1 := (wL cI ad zk54 zm54 zb54 zs54 zr54 zu54 zt54 zf54 zg54 zbd zro zmc54 zmg54 zsp54 zjn54)) (ws := (wL cI ad zk zm zb zs zr zu zt zf zg zbd zro zmc zmg zsp zjn)) (ws' := (wL cI ad zk54 zm54 zb54 zs54 zr54 zu54 zt54 zf54 zg54 zbd zro zmc54 zmg54 zsp54 zjn54)) [0, 1, 2, 3, 4, 5, 6, 7, 8, 9, 10, 11, 12, 13, 14, 15, 16, 17] [] 18 (As := [.int p1]) (rest := []) (ci := 2) (q := (RX2, TX2, 15)) ⟨hx, hb, hml, hown, hts⟩ (c_X2_addLate l dC dI cI ad zk zm zb zs zr zu zt zf zg zbd zro zmc zmg zsp zjn F p1 H.size zk54 zm54 zb54 zs54 zr54 zu54 zt54 zf54 zg54 zmc54 zmg54 zsp54 zjn54 h_54) (cwV 1 hts gX2_insert_X2_addLate rfl rfl rfl kv_X2_addLate ⟨Nat.le_of_ble_eq_true rfl, Nat.le_of_ble_eq_true rfl⟩) hK hP hD hS hA hP hD rfl rfl (by decide) rfl rfl (by decide) rfl rfl rfl rfl rfl hl.1 rfl (Nat.le_of_ble_eq_true rfl) dX2_insert_54 ⟨Nat.le_of_ble_eq_true rfl, Nat.le_of_ble_eq_true rfl⟩ (fun H locs hP hD hS => ?_)
          refine lv_goto (tgt := 79) hx hb dX2_insert_57 (by decide) ?_
          exact J_79 zk54 zm54 zb54 zs54 zr54 zu54 zt54 zf54 zg54 zmc54 zmg54 zsp54 zjn54 (o2 hm) _ _ hP hD hS
      refine lv_icmp_ne (tgt := 47) hx hb dX2_insert_24 (by decide) (fun c_24 => ?_) (fun c_24 => ?_)
      · have hm := it_f hm c_24
        exact J_47 hm
      · have hm := it_t hm c_24
        refine lv_aload_n hx hb dX2_insert_27 rfl (lv_at hl 1 rfl) ?_
        obtain ⟨r28, h_28, hm⟩ := ob hm
        refine z_callRi (As := []) (rest := []) (ci := 2) (q := (RX2, TX2, 15)) ⟨hx, hb, hml, hown, hts⟩ (c_X2_allKeys l dC dI cI ad zk zm zb zs zr zu zt zf zg zbd zro zmc zmg zsp zjn F r28 h_28) (cwV 0 hts gX2_insert_X2_allKeys rfl rfl rfl kv_X2_allKeys ⟨Nat.le_of_ble_eq_true rfl, Nat.le_of_ble_eq_true rfl⟩) hK hP rfl rfl rfl rfl hl.1 rfl (Nat.le_of_ble_eq_true rfl) dX2_insert_28 ⟨Nat.le_of_ble_eq_true rfl, Nat.le_of_ble_eq_true rfl⟩ ?_
        refine lv_sipush (v := 256) hx hb dX2_insert_31 (by decide) ?_
        refine lv_icmp_lt (tgt := 47) hx hb dX2_insert_34 (by decide) (fun c_34 => ?_) (fun c_34 => ?_)
        · have hm := it_t hm c_34
          exact J_47 hm
        · have hm := it_f hm c_34
          exact vx_throwS hx hb hl9 (own := RX2) (cls := "java/lang/IllegalStateException") (names := ["java/lang/RuntimeException", "java/lang/Exception"]) (ik := 98) (is := 100) (ic := 102) hown (by decide +kernel) (by decide +kernel) zw4 zw5 (hV.1 (100, "key is there, or no room") (by decide +kernel)) (vx_hat (fun w h => hts w (List.mem_cons_of_mem _ (List.mem_append_left _ (List.mem_append_right _ h)))) (by decide +kernel) (zV_ng hV)) (by decide +kernel) hV.2.2.1 hV.2.2.2 hS (hl.1.trans hml.symm) dX2_insert_37 dX2_insert_40 dX2_insert_41 dX2_insert_43 dX2_insert_46 (fun x hx => (hnx x hx).elim) (Nat.le_of_ble_eq_true rfl) (Nat.le_of_ble_eq_true rfl) (Nat.le_of_ble_eq_true rfl) (Nat.le_of_ble_eq_true rfl) hlocks (z_xt (k := 2) rfl (o2 hm) hP hK hD hS) hS.2.2 (Nat.le_of_ble_eq_true rfl) (Nat.le_of_ble_eq_true rfl)
set_option maxHeartbeats 4000000 in
set_option maxRecDepth 100000 in
theorem c_X2_keysThere (l : Launch) (dC : Nat → ClassId) (dI : Nat → Nat → Nat) (cI : ClassId) (ad : Nat → Nat) (zk : zN) (zm : zN) (zb : zN) (zs : zN) (zr : zN) (zu : zN) (zt : zT) (zf : zN) (zg : zN) (zbd : Int32) (zro : Int32) (zmc : Int32) (zmg : Int32) (zsp : Int32) (zjn : Int32) (F : Nat) (r : Int32) (hm : X2_keysThere F zk zb zmc = some r) : Met l yX2_keysThere wsX2_keysThere ({ frames := 2, cells := 0, slots := 0, locals := 40 }) (va_Pc [.ref (ad 0)] (zR (dC, dI) (wL cI ad zk zm zb zs zr zu zt zf zg zbd zro zmc zmg zsp zjn) [(cI, .int)])) (vp_Si (fun v => v = r)) 0 0 (fun _ => False) := by
  refine Met.ofW (cc := cX2_keysThere) (maxL := 1) (ret := (some .int)) (by decide) rfl ?_
  intro p e s m args below meth c s₁ B hml hv
  obtain ⟨rfl, hP, hK⟩ := hv
  have hx := B.exec
  have hb := B.bytes
  have hr := B.returns
  have hts := atoms_spec (ws := wsX2_keysThere) B.pre
  have hown : s.vm.findClass RX2 = some m.cls := findClass_of_methodNamed B.named
  have hlocks := B.notSynchronized
  have hl := lv_entry ([.ref (ad 0)]) (n := 1) (Nat.le_of_ble_eq_true rfl)
  rw [lg_entry_eq]
  generalize (lg_sl ([.ref (ad 0)]) ++ List.replicate (1 - (lg_sl ([.ref (ad 0)])).length) Slot.unset).toArray = ls at hl ⊢
  have hl : lv_has ls 1 [(0, .ref (ad 0))] := hl
  have zw0 := hts (.fieldLink RX2 53 "LearnedLedge" "markCount" "I") (by decide +kernel)
  have ziX2 : ∀ w ∈ u_ws RX2 TX2 15, w ∈ wsX2_keysThere := by decide +kernel
  refine lv_aload_n hx hb dX2_keysThere_0 rfl (lv_at hl 0 rfl) ?_
  obtain ⟨r1, h_1, hm⟩ := ob hm
  refine z_callRi (As := []) (rest := []) (ci := 2) (q := (RX2, TX2, 15)) ⟨hx, hb, hml, hown, hts⟩ (c_X2_allKeys l dC dI cI ad zk zm zb zs zr zu zt zf zg zbd zro zmc zmg zsp zjn F r1 h_1) (cwV 0 hts gX2_keysThere_X2_allKeys rfl rfl rfl kv_X2_allKeys ⟨Nat.le_of_ble_eq_true rfl, Nat.le_of_ble_eq_true rfl⟩) hK hP rfl rfl rfl rfl hl.1 rfl (Nat.le_of_ble_eq_true rfl) dX2_keysThere_1 ⟨Nat.zero_le _, Nat.zero_le _⟩ ?_
  refine lv_aload_n hx hb dX2_keysThere_4 rfl (lv_at hl 0 rfl) ?_
  refine va_get (D := (dC, dI)) (ci := 2) (v := .int zmc) (C := RX2) (T := TX2) (N := 15) hx hb hts ziX2 hown hK hP 0 rfl rfl 11 (by decide) zw0 (fun _ h9 => h9) rfl dX2_keysThere_5 ?_
  refine lv_isub hx hb dX2_keysThere_8 ?_
  exact W.iret hx hb hr (fun t ht hW => ⟨_, rfl, (o2 hm).symm, ht⟩) (fun q h => absurd h List.not_mem_nil) dX2_keysThere_9
