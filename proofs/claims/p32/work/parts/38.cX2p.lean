set_option maxHeartbeats 4000000 in
set_option maxRecDepth 100000 in
theorem n_X2_rebuild (l : Launch) (dC : Nat → ClassId) (dI : Nat → Nat → Nat) (cI : ClassId) (ad : Nat → Nat) (zk : zN) (zm : zN) (zb : zN) (zs : zN) (zr : zN) (zu : zN) (zt : zT) (zf : zN) (zg : zN) (zbd : Int32) (zro : Int32) (zmc : Int32) (zmg : Int32) (zsp : Int32) (zjn : Int32) (F : Nat) (p1 : Int32) (p2 : Int32) (sz : Nat) (r : Int32) (u_zk : zN) (u_zm : zN) (u_zb : zN) (u_zs : zN) (u_zr : zN) (u_zu : zN) (u_zt : zT) (u_zf : zN) (u_zbd : Int32) (u_zro : Int32) (u_zmc : Int32) (hm : X2_rebuild F zk zm zb zs zr zu zt zf zbd zro zmc p1 p2 = some (Sum.inr (r, u_zk, u_zm, u_zb, u_zs, u_zr, u_zu, u_zt, u_zf, u_zbd, u_zro, u_zmc))) : Met l yX2_rebuild wsX2_rebuild ({ frames := 6, cells := 0, slots := 0, locals := 91 }) (va_Pc [.ref (ad 0), .int p1, .int p2] (zW (dC, dI) (wL cI ad zk zm zb zs zr zu zt zf zg zbd zro zmc zmg zsp zjn) [(cI, .int)] sz)) (zQi (dC, dI) (wL cI ad u_zk u_zm u_zb u_zs u_zr u_zu u_zt u_zf zg u_zbd u_zro u_zmc zmg zsp zjn) [(cI, .int)] (va_A (wL cI ad zk zm zb zs zr zu zt zf zg zbd zro zmc zmg zsp zjn) sz) r) 0 0 (va_A (wL cI ad zk zm zb zs zr zu zt zf zg zbd zro zmc zmg zsp zjn) sz) := by
  refine Met.ofW (cc := cX2_rebuild) (maxL := 4) (ret := (some .int)) (by decide) rfl ?_
  intro p e s m args below meth c s₁ B hml hv
  obtain ⟨rfl, hsz, hP, hK, hD0⟩ := hv
  have hx := B.exec
  have hb := B.bytes
  have hr := B.returns
  have hts := atoms_spec (ws := wsX2_rebuild) B.pre
  have hown : s.vm.findClass RX2 = some m.cls := findClass_of_methodNamed B.named
  have hlocks := B.notSynchronized
  subst hsz
  have hD := hD0.self (sz := s.heap.size)
  generalize hAe : va_A (wL cI ad zk zm zb zs zr zu zt zf zg zbd zro zmc zmg zsp zjn) s.heap.size = A at hD ⊢
  have hA : ∀ q : Nat, s.heap.size ≤ q → A q := fun q h => by rw [← hAe]; exact Or.inr h
  have hS : va_S A s.heap s.heap [] := va_S.rf
  generalize eL : ([] : List Loc) = locs at hS ⊢
  obtain ⟨H, eH⟩ : ∃ z : Heap, z = s.heap := ⟨_, rfl⟩
  have hP : va_P (dC, dI) vwCl (wL cI ad zk zm zb zs zr zu zt zf zg zbd zro zmc zmg zsp zjn) H := by rw [eH]; exact hP
  have hS : va_S A s.heap H locs := by rw [eH]; exact hS
  refine z_heap eH ?_
  have hl := lv_entry ([.ref (ad 0), .int p1, .int p2]) (n := 4) (Nat.le_of_ble_eq_true rfl)
  rw [lg_entry_eq]
  generalize (lg_sl ([.ref (ad 0), .int p1, .int p2]) ++ List.replicate (4 - (lg_sl ([.ref (ad 0), .int p1, .int p2])).length) Slot.unset).toArray = ls at hl ⊢
  have hl : lv_has ls 4 [(0, .ref (ad 0)), (1, .int p1), (2, .int p2)] := hl
  have zw0 := hts (.fieldLink RX2 46 "LearnedLedge" "bound" "I") (List.mem_cons_of_mem _ (List.mem_append_left _ (List.mem_append_left _ (List.mem_append_left _ (List.mem_append_left _ (List.mem_append_left _ (List.mem_of_getElem? (i := 2) rfl)))))))
  have zw1 := hts (.fieldLink RX2 50 "LearnedLedge" "room" "I") (List.mem_cons_of_mem _ (List.mem_append_left _ (List.mem_append_left _ (List.mem_append_left _ (List.mem_append_left _ (List.mem_append_left _ (List.mem_of_getElem? (i := 3) rfl)))))))
  have zw2 := hts (.fieldLink RX2 40 "LearnedLedge" "freshKeys" "LLearnedLedge$Numbers;") (List.mem_cons_of_mem _ (List.mem_append_left _ (List.mem_append_left _ (List.mem_append_left _ (List.mem_append_left _ (List.mem_append_left _ (List.mem_of_getElem? (i := 4) rfl)))))))
  have zw3 := hts (.fieldLink RX2 24 "LearnedLedge" "starts" "LLearnedLedge$Numbers;") (List.mem_cons_of_mem _ (List.mem_append_left _ (List.mem_append_left _ (List.mem_append_left _ (List.mem_append_left _ (List.mem_append_left _ (List.mem_of_getElem? (i := 5) rfl)))))))
  have zw4 := hts (.classLink RX2 80 "java/lang/IllegalArgumentException") (List.mem_cons_of_mem _ (List.mem_append_left _ (List.mem_append_left _ (List.mem_append_left _ (List.mem_append_left _ (List.mem_append_left _ (List.mem_of_getElem? (i := 0) rfl)))))))
  have zw5 := hts (.initialized "java/lang/IllegalArgumentException") (List.mem_cons_of_mem _ (List.mem_append_left _ (List.mem_append_left _ (List.mem_append_left _ (List.mem_append_left _ (List.mem_append_left _ (List.mem_of_getElem? (i := 1) rfl)))))))
  have ziX2 : ∀ w ∈ u_ws RX2 TX2 15, w ∈ wsX2_rebuild := (fun _ h9 => (List.mem_cons_of_mem _ (List.mem_append_left _ (List.mem_append_left _ (List.mem_append_left _ (List.mem_append_right _ h9))))))
  refine lv_iload_n hx hb dX2_rebuild_0 rfl (lv_at hl 1 rfl) ?_
  refine lv_if_lt (tgt := 21) hx hb dX2_rebuild_1 (by decide) (fun c_1 => ?_) (fun c_1 => ?_)
  · have hm := it_t hm c_1
    exact zno hm
  · have hm := it_f hm c_1
    refine lv_iload_n hx hb dX2_rebuild_4 rfl (lv_at hl 1 rfl) ?_
    refine lv_bipush (v := 20) hx hb dX2_rebuild_5 (by decide) ?_
    refine lv_icmp_gt (tgt := 21) hx hb dX2_rebuild_7 (by decide) (fun c_7 => ?_) (fun c_7 => ?_)
    · have hm := it_t hm c_7
      exact zno hm
    · have hm := it_f hm c_7
      refine lv_iload_n hx hb dX2_rebuild_10 rfl (lv_at hl 2 rfl) ?_
      refine lv_iconst (v := 1) hx hb dX2_rebuild_11 (by decide) ?_
      refine lv_icmp_lt (tgt := 21) hx hb dX2_rebuild_12 (by decide) (fun c_12 => ?_) (fun c_12 => ?_)
      · have hm := it_t hm c_12
        exact zno hm
      · have hm := it_f hm c_12
        refine lv_iload_n hx hb dX2_rebuild_15 rfl (lv_at hl 2 rfl) ?_
        refine lv_bipush (v := 16) hx hb dX2_rebuild_16 (by decide) ?_
        refine lv_icmp_le (tgt := 31) hx hb dX2_rebuild_18 (by decide) (fun c_18 => ?_) (fun c_18 => ?_)
        · have hm := it_t hm c_18
          refine lv_aload_n hx hb dX2_rebuild_31 rfl (lv_at hl 0 rfl) ?_
          refine lv_iload_n hx hb dX2_rebuild_32 rfl (lv_at hl 1 rfl) ?_
          refine va_put (D := (dC, dI)) (ci := 2) (v := .int p1) (ty := .int) (C := RX2) (T := TX2) (N := 15) hx hb hts ziX2 tyX2 tyX2_ok nmX2 hown hK hP hD hS 0 rfl rfl 9 (by decide) zw0 (fun _ h9 => h9) rfl (by decide +kernel) rfl rfl (Nat.le_of_ble_eq_true rfl) dX2_rebuild_33 (fun H locs hP hD hS => ?_)
          have hP : va_P (dC, dI) vwCl (wL cI ad zk zm zb zs zr zu zt zf zg p1 zro zmc zmg zsp zjn) H := hP
          have hD : va_D A (wL cI ad zk zm zb zs zr zu zt zf zg p1 zro zmc zmg zsp zjn) := hD
          refine lv_aload_n hx hb dX2_rebuild_36 rfl (lv_at hl 0 rfl) ?_
          refine lv_iload_n hx hb dX2_rebuild_37 rfl (lv_at hl 2 rfl) ?_
          refine va_put (D := (dC, dI)) (ci := 2) (v := .int p2) (ty := .int) (C := RX2) (T := TX2) (N := 15) hx hb hts ziX2 tyX2 tyX2_ok nmX2 hown hK hP hD hS 0 rfl rfl 10 (by decide) zw1 (fun _ h9 => h9) rfl (by decide +kernel) rfl rfl (Nat.le_of_ble_eq_true rfl) dX2_rebuild_38 (fun H locs hP hD hS => ?_)
          have hP : va_P (dC, dI) vwCl (wL cI ad zk zm zb zs zr zu zt zf zg p1 p2 zmc zmg zsp zjn) H := hP
          have hD : va_D A (wL cI ad zk zm zb zs zr zu zt zf zg p1 p2 zmc zmg zsp zjn) := hD
          refine lv_aload_n hx hb dX2_rebuild_41 rfl (lv_at hl 0 rfl) ?_
          obtain ⟨zf42, h_42, hm⟩ := ob hm
          refine z_callWv (wc := (wL cI ad zk zm zb zs zr zu zt zf zg p1 p2 zmc zmg zsp zjn)) (w1 := (wL cI ad zk zm zb zs zr zu zt zf42 zg p1 p2 zmc zmg zsp zjn)) (ws := (wL cI ad zk zm zb zs zr zu zt zf zg p1 p2 zmc zmg zsp zjn)) (ws' := (wL cI ad zk zm zb zs zr zu zt zf42 zg p1 p2 zmc zmg zsp zjn)) (As := []) (rest := []) (ci := 2) (q := (RX2, TX2, 15)) ⟨hx, hb, hml, hown, hts⟩ (c_X2_gatherAll l dC dI cI ad zk zm zb zs zr zu zt zf zg p1 p2 zmc zmg zsp zjn F H.size zf42 h_42) (cwV 0 hts gX2_rebuild_X2_gatherAll rfl rfl rfl kv_X2_gatherAll ⟨Nat.le_of_ble_eq_true rfl, Nat.le_of_ble_eq_true rfl⟩) hK hP hD hS hA (z_spAll (wL cI ad zk zm zb zs zr zu zt zf zg p1 p2 zmc zmg zsp zjn) (wL cI ad zk zm zb zs zr zu zt zf42 zg p1 p2 zmc zmg zsp zjn)) ((paL cI ad zk zm zb zs zr zu zt zf42 zg p1 p2 zmc zmg zsp zjn).trans (paL cI ad zk zm zb zs zr zu zt zf zg p1 p2 zmc zmg zsp zjn).symm) rfl rfl rfl rfl hl.1 rfl (Nat.le_of_ble_eq_true rfl) dX2_rebuild_42 ⟨Nat.zero_le _, Nat.zero_le _⟩ (fun H locs hP hD hS => ?_)
          refine lv_aload_n hx hb dX2_rebuild_45 rfl (lv_at hl 0 rfl) ?_
          obtain ⟨⟨zk46, zm46, zb46, zs46, zr46, zu46, zmc46⟩, h_46, hm⟩ := ob hm
          refine z_callWv (wc := (wL cI ad zk zm zb zs zr zu zt zf42 zg p1 p2 zmc zmg zsp zjn)) (w1 := (wL cI ad zk46 zm46 zb46 zs46 zr46 zu46 zt zf42 zg p1 p2 zmc46 zmg zsp zjn)) (ws := (wL cI ad zk zm zb zs zr zu zt zf42 zg p1 p2 zmc zmg zsp zjn)) (ws' := (wL cI ad zk46 zm46 zb46 zs46 zr46 zu46 zt zf42 zg p1 p2 zmc46 zmg zsp zjn)) (As := []) (rest := []) (ci := 2) (q := (RX2, TX2, 15)) ⟨hx, hb, hml, hown, hts⟩ (c_X2_clearRow l dC dI cI ad zk zm zb zs zr zu zt zf42 zg p1 p2 zmc zmg zsp zjn F H.size zk46 zm46 zb46 zs46 zr46 zu46 zmc46 h_46) (cwV 0 hts gX2_rebuild_X2_clearRow rfl rfl rfl kv_X2_clearRow ⟨Nat.le_of_ble_eq_true rfl, Nat.le_of_ble_eq_true rfl⟩) hK hP hD hS hA (z_spAll (wL cI ad zk zm zb zs zr zu zt zf42 zg p1 p2 zmc zmg zsp zjn) (wL cI ad zk46 zm46 zb46 zs46 zr46 zu46 zt zf42 zg p1 p2 zmc46 zmg zsp zjn)) ((paL cI ad zk46 zm46 zb46 zs46 zr46 zu46 zt zf42 zg p1 p2 zmc46 zmg zsp zjn).trans (paL cI ad zk zm zb zs zr zu zt zf42 zg p1 p2 zmc zmg zsp zjn).symm) rfl rfl rfl rfl hl.1 rfl (Nat.le_of_ble_eq_true rfl) dX2_rebuild_46 ⟨Nat.zero_le _, Nat.zero_le _⟩ (fun H locs hP hD hS => ?_)
          refine lv_iconst (v := 0) hx hb dX2_rebuild_49 (by decide) ?_
          refine lv_istore_n (lv' := [(3, .int 0), (0, .ref (ad 0)), (1, .int p1), (2, .int p2)]) hx hb dX2_rebuild_50 rfl hl (by decide) rfl (fun ls hl => ?_)
          obtain ⟨z_51, hq_51, hm⟩ := ob hm
          have K_51 : ∀ (zkx51 : zN), ∀ (zmx51 : zN), ∀ (zsx51 : zN), ∀ (zrx51 : zN), ∀ (zux51 : zN), ∀ (ztx51 : zT), z_51 = (zkx51, zmx51, zsx51, zrx51, zux51, ztx51) → ∀ (H : Heap) (locs : List Loc), va_P (dC, dI) vwCl (wL cI ad zkx51 zmx51 zb46 zsx51 zrx51 zux51 ztx51 zf42 zg p1 p2 zmc46 zmg zsp zjn) H → va_D A (wL cI ad zkx51 zmx51 zb46 zsx51 zrx51 zux51 ztx51 zf42 zg p1 p2 zmc46 zmg zsp zjn) → va_S A s.heap H locs → ∀ (ls : Array Slot), lv_has ls 4 [(0, .ref (ad 0))] → W p l e (headSpec wsX2_rebuild ({ frames := 6, cells := 0, slots := 0, locals := 91 } : Room)).room s m ([.ref (ad 0), .int p1, .int p2] : List Value).toArray below meth c H locs 0 0 (MQ below (zQi (dC, dI) (wL cI ad u_zk u_zm u_zb u_zs u_zr u_zu u_zt u_zf zg u_zbd u_zro u_zmc zmg zsp zjn) [(cI, .int)] A r) ([.ref (ad 0), .int p1, .int p2] : List Value).toArray s 0 0 A) (F0 m 80 ls []) := by
            intro zkx51 zmx51 zsx51 zrx51 zux51 ztx51 ez H locs hP hD hS ls hl
            rw [ez] at hm
            refine lv_aload_n hx hb dX2_rebuild_80 rfl (lv_at hl 0 rfl) ?_
            refine va_get (D := (dC, dI)) (ci := 2) (v := .ref (ad 7)) (C := RX2) (T := TX2) (N := 15) hx hb hts ziX2 hown hK hP 0 rfl rfl 3 (by decide) zw3 (fun _ h9 => h9) rfl dX2_rebuild_81 ?_
            obtain ⟨r84, h_84, hm⟩ := ob hm
            refine z_callRi (As := []) (rest := []) (ci := 0) (q := (RX0, TX0, 2)) ⟨hx, hb, hml, hown, hts⟩ (c_X0_length l dC dI cI (ad 7) (ad 8) 256 zsx51 F r84 h_84) (cwV 0 hts gX2_rebuild_X0_length rfl rfl rfl kv_X0_length ⟨Nat.le_of_ble_eq_true rfl, Nat.le_of_ble_eq_true rfl⟩) hK (z_mid (pjL_zs cI ad zkx51 zmx51 zb46 zsx51 zrx51 zux51 ztx51 zf42 zg p1 p2 zmc46 zmg zsp zjn zsx51) hP) rfl rfl rfl rfl hl.1 rfl (Nat.le_of_ble_eq_true rfl) dX2_rebuild_84 ⟨Nat.zero_le _, Nat.zero_le _⟩ ?_
            cases o2 hm
            exact W.iret hx hb hr (fun t ht hW => ⟨⟨_, (), rfl, rfl, by rw [ht]; exact hP, va_K.moved hW.alike hK, hD⟩, hS.F ht⟩) hS.2.2 dX2_rebuild_87
          have L_51 : ∀ (n : Nat) (x3 : Int32) (zkl51 : zN) (zml51 : zN) (zsl51 : zN) (zrl51 : zN) (zul51 : zN) (ztl51 : zT), X2_rebuild_L51 p1 F zf42 n x3 zkl51 zml51 zsl51 zrl51 zul51 ztl51 = some z_51 → ∀ (H : Heap) (locs : List Loc), va_P (dC, dI) vwCl (wL cI ad zkl51 zml51 zb46 zsl51 zrl51 zul51 ztl51 zf42 zg p1 p2 zmc46 zmg zsp zjn) H → va_D A (wL cI ad zkl51 zml51 zb46 zsl51 zrl51 zul51 ztl51 zf42 zg p1 p2 zmc46 zmg zsp zjn) → va_S A s.heap H locs → ∀ (ls : Array Slot), lv_has ls 4 [(3, .int x3), (0, .ref (ad 0))] → W p l e (headSpec wsX2_rebuild ({ frames := 6, cells := 0, slots := 0, locals := 91 } : Room)).room s m ([.ref (ad 0), .int p1, .int p2] : List Value).toArray below meth c H locs 0 0 (MQ below (zQi (dC, dI) (wL cI ad u_zk u_zm u_zb u_zs u_zr u_zu u_zt u_zf zg u_zbd u_zro u_zmc zmg zsp zjn) [(cI, .int)] A r) ([.ref (ad 0), .int p1, .int p2] : List Value).toArray s 0 0 A) (F0 m 51 ls []) := by
            intro n
            induction n with
            | zero => intro x3 zkl51 zml51 zsl51 zrl51 zul51 ztl51 hm; cases hm
            | succ n ih_51 =>
              intro x3 zkl51 zml51 zsl51 zrl51 zul51 ztl51 hm H locs hP hD hS ls hl
              refine lv_iload_n hx hb dX2_rebuild_51 rfl (lv_at hl 0 rfl) ?_
              refine lv_aload_n hx hb dX2_rebuild_52 rfl (lv_at hl 1 rfl) ?_
              refine va_get (D := (dC, dI)) (ci := 2) (v := .ref (ad 14)) (C := RX2) (T := TX2) (N := 15) hx hb hts ziX2 hown hK hP 0 rfl rfl 7 (by decide) zw2 (fun _ h9 => h9) rfl dX2_rebuild_53 ?_
              obtain ⟨r56, h_56, hm⟩ := ob hm
              refine z_callRi (As := []) (rest := [.int x3]) (ci := 0) (q := (RX0, TX0, 2)) ⟨hx, hb, hml, hown, hts⟩ (c_X0_length l dC dI cI (ad 14) (ad 15) 256 zf42 F r56 h_56) (cwV 0 hts gX2_rebuild_X0_length rfl rfl rfl kv_X0_length ⟨Nat.le_of_ble_eq_true rfl, Nat.le_of_ble_eq_true rfl⟩) hK (z_mid (pjL_zf cI ad zkl51 zml51 zb46 zsl51 zrl51 zul51 ztl51 zf42 zg p1 p2 zmc46 zmg zsp zjn zf42) hP) rfl rfl rfl rfl hl.1 rfl (Nat.le_of_ble_eq_true rfl) dX2_rebuild_56 ⟨Nat.zero_le _, Nat.zero_le _⟩ ?_
              refine lv_icmp_ge (tgt := 80) hx hb dX2_rebuild_59 (by decide) (fun c_59 => ?_) (fun c_59 => ?_)
              · have hm := it_t hm c_59
                exact K_51 zkl51 zml51 zsl51 zrl51 zul51 ztl51 (o2 hm) _ _ hP hD hS _ (lv_sub hl [1] rfl)
              · have hm := it_f hm c_59
                refine lv_aload_n hx hb dX2_rebuild_62 rfl (lv_at hl 1 rfl) ?_
                refine lv_aload_n hx hb dX2_rebuild_63 rfl (lv_at hl 1 rfl) ?_
                refine va_get (D := (dC, dI)) (ci := 2) (v := .ref (ad 14)) (C := RX2) (T := TX2) (N := 15) hx hb hts ziX2 hown hK hP 0 rfl rfl 7 (by decide) zw2 (fun _ h9 => h9) rfl dX2_rebuild_64 ?_
                refine lv_iload_n hx hb dX2_rebuild_67 rfl (lv_at hl 0 rfl) ?_
                obtain ⟨r68, h_68, hm⟩ := ob hm
                refine z_callRi (As := [.int x3]) (rest := [.ref (ad 0)]) (ci := 0) (q := (RX0, TX0, 2)) ⟨hx, hb, hml, hown, hts⟩ (c_X0_at l dC dI cI (ad 14) (ad 15) 256 zf42 F x3 r68 h_68) (cwV 1 hts gX2_rebuild_X0_at rfl rfl rfl kv_X0_at ⟨Nat.le_of_ble_eq_true rfl, Nat.le_of_ble_eq_true rfl⟩) hK (z_mid (pjL_zf cI ad zkl51 zml51 zb46 zsl51 zrl51 zul51 ztl51 zf42 zg p1 p2 zmc46 zmg zsp zjn zf42) hP) rfl rfl rfl rfl hl.1 rfl (Nat.le_of_ble_eq_true rfl) dX2_rebuild_68 ⟨Nat.zero_le _, Nat.zero_le _⟩ ?_
                obtain ⟨⟨zk71, zm71, zs71, zr71, zu71, zt71⟩, h_71, hm⟩ := ob hm
                refine z_callWv (wc := (wL cI ad zkl51 zml51 zb46 zsl51 zrl51 zul51 ztl51 zf42 zg p1 p2 zmc46 zmg zsp zjn)) (w1 := (wL cI ad zk71 zm71 zb46 zs71 zr71 zu71 zt71 zf42 zg p1 p2 zmc46 zmg zsp zjn)) (ws := (wL cI ad zkl51 zml51 zb46 zsl51 zrl51 zul51 ztl51 zf42 zg p1 p2 zmc46 zmg zsp zjn)) (ws' := (wL cI ad zk71 zm71 zb46 zs71 zr71 zu71 zt71 zf42 zg p1 p2 zmc46 zmg zsp zjn)) (As := [.int r68]) (rest := []) (ci := 2) (q := (RX2, TX2, 15)) ⟨hx, hb, hml, hown, hts⟩ (c_X2_addLast l dC dI cI ad zkl51 zml51 zb46 zsl51 zrl51 zul51 ztl51 zf42 zg p1 p2 zmc46 zmg zsp zjn F r68 H.size zk71 zm71 zs71 zr71 zu71 zt71 h_71) (cwV 1 hts gX2_rebuild_X2_addLast rfl rfl rfl kv_X2_addLast ⟨Nat.le_of_ble_eq_true rfl, Nat.le_of_ble_eq_true rfl⟩) hK hP hD hS hA (z_spAll (wL cI ad zkl51 zml51 zb46 zsl51 zrl51 zul51 ztl51 zf42 zg p1 p2 zmc46 zmg zsp zjn) (wL cI ad zk71 zm71 zb46 zs71 zr71 zu71 zt71 zf42 zg p1 p2 zmc46 zmg zsp zjn)) ((paL cI ad zk71 zm71 zb46 zs71 zr71 zu71 zt71 zf42 zg p1 p2 zmc46 zmg zsp zjn).trans (paL cI ad zkl51 zml51 zb46 zsl51 zrl51 zul51 ztl51 zf42 zg p1 p2 zmc46 zmg zsp zjn).symm) rfl rfl rfl rfl hl.1 rfl (Nat.le_of_ble_eq_true rfl) dX2_rebuild_71 ⟨Nat.zero_le _, Nat.zero_le _⟩ (fun H locs hP hD hS => ?_)
                obtain ⟨x3_1, e_x3_1⟩ : ∃ y : Int32, y = x3 + 1 := ⟨_, rfl⟩
                have hm := bnd_e hm e_x3_1
                refine lv_iinc (v := x3_1) (lv' := [(3, .int x3_1), (0, .ref (ad 0))]) hx hb dX2_rebuild_74 hl (k := 0) rfl (by rw [e_x3_1]; rfl) (by decide) rfl (fun ls hl => ?_)
                refine lv_goto (tgt := 51) hx hb dX2_rebuild_77 (by decide) ?_
                exact ih_51 x3_1 zk71 zm71 zs71 zr71 zu71 zt71 hm _ _ hP hD hS _ (lv_sub hl [0, 1] rfl)
          exact L_51 F 0 zk46 zm46 zs46 zr46 zu46 zt hq_51 _ _ hP hD hS _ (lv_sub hl [0, 1] rfl)
        · have hm := it_f hm c_18
          exact zno hm
set_option maxHeartbeats 4000000 in
set_option maxRecDepth 100000 in
theorem c_X2_size (l : Launch) (dC : Nat → ClassId) (dI : Nat → Nat → Nat) (cI : ClassId) (ad : Nat → Nat) (zk : zN) (zm : zN) (zb : zN) (zs : zN) (zr : zN) (zu : zN) (zt : zT) (zf : zN) (zg : zN) (zbd : Int32) (zro : Int32) (zmc : Int32) (zmg : Int32) (zsp : Int32) (zjn : Int32) (F : Nat) (r : Int32) (hm : X2_size F zk zb zmc = some r) : Met l yX2_size wsX2_size ({ frames := 3, cells := 0, slots := 0, locals := 60 }) (va_Pc [.ref (ad 0)] (zR (dC, dI) (wL cI ad zk zm zb zs zr zu zt zf zg zbd zro zmc zmg zsp zjn) [(cI, .int)])) (vp_Si (fun v => v = r)) 0 0 (fun _ => False) := by
  refine Met.ofW (cc := cX2_size) (maxL := 1) (ret := (some .int)) (by decide) rfl ?_
  intro p e s m args below meth c s₁ B hml hv
  obtain ⟨rfl, hP, hK⟩ := hv
  have hx := B.exec
  have hb := B.bytes
  have hr := B.returns
  have hts := atoms_spec (ws := wsX2_size) B.pre
  have hown : s.vm.findClass RX2 = some m.cls := findClass_of_methodNamed B.named
  have hlocks := B.notSynchronized
  have hl := lv_entry ([.ref (ad 0)]) (n := 1) (Nat.le_of_ble_eq_true rfl)
  rw [lg_entry_eq]
  generalize (lg_sl ([.ref (ad 0)]) ++ List.replicate (1 - (lg_sl ([.ref (ad 0)])).length) Slot.unset).toArray = ls at hl ⊢
  have hl : lv_has ls 1 [(0, .ref (ad 0))] := hl
  refine lv_aload_n hx hb dX2_size_0 rfl (lv_at hl 0 rfl) ?_
  obtain ⟨r1, h_1, hm⟩ := ob hm
  refine z_callRi (As := []) (rest := []) (ci := 2) (q := (RX2, TX2, 15)) ⟨hx, hb, hml, hown, hts⟩ (c_X2_keysThere l dC dI cI ad zk zm zb zs zr zu zt zf zg zbd zro zmc zmg zsp zjn F r1 h_1) (cwV 0 hts gX2_size_X2_keysThere rfl rfl rfl kv_X2_keysThere ⟨Nat.le_of_ble_eq_true rfl, Nat.le_of_ble_eq_true rfl⟩) hK hP rfl rfl rfl rfl hl.1 rfl (Nat.le_of_ble_eq_true rfl) dX2_size_1 ⟨Nat.zero_le _, Nat.zero_le _⟩ ?_
  exact W.iret hx hb hr (fun t ht hW => ⟨_, rfl, (o2 hm).symm, ht⟩) (fun q h => absurd h List.not_mem_nil) dX2_size_4
set_option maxHeartbeats 4000000 in
set_option maxRecDepth 100000 in
theorem c_X2_contains (l : Launch) (dC : Nat → ClassId) (dI : Nat → Nat → Nat) (cI : ClassId) (ad : Nat → Nat) (zk : zN) (zm : zN) (zb : zN) (zs : zN) (zr : zN) (zu : zN) (zt : zT) (zf : zN) (zg : zN) (zbd : Int32) (zro : Int32) (zmc : Int32) (zmg : Int32) (zsp : Int32) (zjn : Int32) (F : Nat) (p1 : Int32) (r : Int32) (hm : X2_contains F zk zm zb p1 = some r) : Met l yX2_contains wsX2_contains ({ frames := 5, cells := 0, slots := 0, locals := 111 }) (va_Pc [.ref (ad 0), .int p1] (zR (dC, dI) (wL cI ad zk zm zb zs zr zu zt zf zg zbd zro zmc zmg zsp zjn) [(cI, .int)])) (vp_Si (fun v => v = r)) 0 0 (fun _ => False) := by
  refine Met.ofW (cc := cX2_contains) (maxL := 2) (ret := (some .boolean)) (by decide) rfl ?_
  intro p e s m args below meth c s₁ B hml hv
  obtain ⟨rfl, hP, hK⟩ := hv
  have hx := B.exec
  have hb := B.bytes
  have hr := B.returns
  have hts := atoms_spec (ws := wsX2_contains) B.pre
  have hown : s.vm.findClass RX2 = some m.cls := findClass_of_methodNamed B.named
  have hlocks := B.notSynchronized
  have hl := lv_entry ([.ref (ad 0), .int p1]) (n := 2) (Nat.le_of_ble_eq_true rfl)
  rw [lg_entry_eq]
  generalize (lg_sl ([.ref (ad 0), .int p1]) ++ List.replicate (2 - (lg_sl ([.ref (ad 0), .int p1])).length) Slot.unset).toArray = ls at hl ⊢
  have hl : lv_has ls 2 [(0, .ref (ad 0)), (1, .int p1)] := hl
  refine lv_aload_n hx hb dX2_contains_0 rfl (lv_at hl 0 rfl) ?_
  refine lv_iload_n hx hb dX2_contains_1 rfl (lv_at hl 1 rfl) ?_
  obtain ⟨r2, h_2, hm⟩ := ob hm
  refine z_callRi (As := [.int p1]) (rest := []) (ci := 2) (q := (RX2, TX2, 15)) ⟨hx, hb, hml, hown, hts⟩ (c_X2_isThere l dC dI cI ad zk zm zb zs zr zu zt zf zg zbd zro zmc zmg zsp zjn F p1 r2 h_2) (cwV 1 hts gX2_contains_X2_isThere rfl rfl rfl kv_X2_isThere ⟨Nat.le_of_ble_eq_true rfl, Nat.le_of_ble_eq_true rfl⟩) hK hP rfl rfl rfl rfl hl.1 rfl (Nat.le_of_ble_eq_true rfl) dX2_contains_2 ⟨Nat.zero_le _, Nat.zero_le _⟩ ?_
  obtain ⟨c_5, hm⟩ := ck hm
  exact W.zret hx hb hr (nar_b c_5) (fun t ht hW => ⟨_, rfl, (o2 hm).symm, ht⟩) (fun q h => absurd h List.not_mem_nil) dX2_contains_5
set_option maxHeartbeats 4000000 in
set_option maxRecDepth 100000 in
theorem c_X2_thereBelow (l : Launch) (dC : Nat → ClassId) (dI : Nat → Nat → Nat) (cI : ClassId) (ad : Nat → Nat) (zk : zN) (zm : zN) (zb : zN) (zs : zN) (zr : zN) (zu : zN) (zt : zT) (zf : zN) (zg : zN) (zbd : Int32) (zro : Int32) (zmc : Int32) (zmg : Int32) (zsp : Int32) (zjn : Int32) (F : Nat) (p1 : Int32) (r : Int32) (hm : X2_thereBelow F zk zm zb p1 = some r) : Met l yX2_thereBelow wsX2_thereBelow ({ frames := 3, cells := 0, slots := 0, locals := 67 }) (va_Pc [.ref (ad 0), .int p1] (zR (dC, dI) (wL cI ad zk zm zb zs zr zu zt zf zg zbd zro zmc zmg zsp zjn) [(cI, .int)])) (vp_Si (fun v => v = r)) 0 0 (fun _ => False) := by
  refine Met.ofW (cc := cX2_thereBelow) (maxL := 5) (ret := (some .int)) (by decide) rfl ?_
  intro p e s m args below meth c s₁ B hml hv
  obtain ⟨rfl, hP, hK⟩ := hv
  have hx := B.exec
  have hb := B.bytes
  have hr := B.returns
  have hts := atoms_spec (ws := wsX2_thereBelow) B.pre
  have hown : s.vm.findClass RX2 = some m.cls := findClass_of_methodNamed B.named
  have hlocks := B.notSynchronized
  have hl := lv_entry ([.ref (ad 0), .int p1]) (n := 5) (Nat.le_of_ble_eq_true rfl)
  rw [lg_entry_eq]
  generalize (lg_sl ([.ref (ad 0), .int p1]) ++ List.replicate (5 - (lg_sl ([.ref (ad 0), .int p1])).length) Slot.unset).toArray = ls at hl ⊢
  have hl : lv_has ls 5 [(0, .ref (ad 0)), (1, .int p1)] := hl
  have zw0 := hts (.fieldLink RX2 14 "LearnedLedge" "keys" "LLearnedLedge$Numbers;") (List.mem_cons_of_mem _ (List.mem_append_left _ (List.mem_append_left _ (List.mem_of_getElem? (i := 0) rfl))))
  have zw1 := hts (.fieldLink RX2 21 "LearnedLedge" "buffer" "LLearnedLedge$Numbers;") (List.mem_cons_of_mem _ (List.mem_append_left _ (List.mem_append_left _ (List.mem_of_getElem? (i := 1) rfl))))
  have zw2 := hts (.fieldLink RX2 18 "LearnedLedge" "marks" "LLearnedLedge$Numbers;") (List.mem_cons_of_mem _ (List.mem_append_left _ (List.mem_append_left _ (List.mem_of_getElem? (i := 2) rfl))))
  have ziX2 : ∀ w ∈ u_ws RX2 TX2 15, w ∈ wsX2_thereBelow := (fun _ h9 => (List.mem_cons_of_mem _ (List.mem_append_left _ (List.mem_append_right _ h9))))
  refine lv_aload_n hx hb dX2_thereBelow_0 rfl (lv_at hl 0 rfl) ?_
  refine va_get (D := (dC, dI)) (ci := 2) (v := .ref (ad 1)) (C := RX2) (T := TX2) (N := 15) hx hb hts ziX2 hown hK hP 0 rfl rfl 0 (by decide) zw0 (fun _ h9 => h9) rfl dX2_thereBelow_1 ?_
  refine lv_iload_n hx hb dX2_thereBelow_4 rfl (lv_at hl 1 rfl) ?_
  obtain ⟨r5, h_5, hm⟩ := ob hm
  refine z_callRi (As := [.int p1]) (rest := []) (ci := 0) (q := (RX0, TX0, 2)) ⟨hx, hb, hml, hown, hts⟩ (c_X0_below l dC dI cI (ad 1) (ad 2) 256 zk F p1 r5 h_5) (cwV 1 hts gX2_thereBelow_X0_below rfl rfl rfl kv_X0_below ⟨Nat.le_of_ble_eq_true rfl, Nat.le_of_ble_eq_true rfl⟩) hK (z_mid (pjL_zk cI ad zk zm zb zs zr zu zt zf zg zbd zro zmc zmg zsp zjn zk) hP) rfl rfl rfl rfl hl.1 rfl (Nat.le_of_ble_eq_true rfl) dX2_thereBelow_5 ⟨Nat.zero_le _, Nat.zero_le _⟩ ?_
  refine lv_istore_n (lv' := [(2, .int r5), (0, .ref (ad 0)), (1, .int p1)]) hx hb dX2_thereBelow_8 rfl hl (by decide) rfl (fun ls hl => ?_)
  refine lv_aload_n hx hb dX2_thereBelow_9 rfl (lv_at hl 1 rfl) ?_
  refine va_get (D := (dC, dI)) (ci := 2) (v := .ref (ad 5)) (C := RX2) (T := TX2) (N := 15) hx hb hts ziX2 hown hK hP 0 rfl rfl 2 (by decide) zw1 (fun _ h9 => h9) rfl dX2_thereBelow_10 ?_
  refine lv_iload_n hx hb dX2_thereBelow_13 rfl (lv_at hl 2 rfl) ?_
  obtain ⟨r14, h_14, hm⟩ := ob hm
  refine z_callRi (As := [.int p1]) (rest := []) (ci := 0) (q := (RX0, TX0, 2)) ⟨hx, hb, hml, hown, hts⟩ (c_X0_below l dC dI cI (ad 5) (ad 6) 16 zb F p1 r14 h_14) (cwV 1 hts gX2_thereBelow_X0_below rfl rfl rfl kv_X0_below ⟨Nat.le_of_ble_eq_true rfl, Nat.le_of_ble_eq_true rfl⟩) hK (z_mid (pjL_zb cI ad zk zm zb zs zr zu zt zf zg zbd zro zmc zmg zsp zjn zb) hP) rfl rfl rfl rfl hl.1 rfl (Nat.le_of_ble_eq_true rfl) dX2_thereBelow_14 ⟨Nat.zero_le _, Nat.zero_le _⟩ ?_
  refine lv_istore_n (lv' := [(3, .int r14), (2, .int r5), (0, .ref (ad 0)), (1, .int p1)]) hx hb dX2_thereBelow_17 rfl hl (by decide) rfl (fun ls hl => ?_)
  refine lv_iconst (v := 0) hx hb dX2_thereBelow_18 (by decide) ?_
  refine lv_istore (lv' := [(4, .int 0), (3, .int r14), (2, .int r5), (0, .ref (ad 0)), (1, .int p1)]) hx hb dX2_thereBelow_19 hl (by decide) rfl (fun ls hl => ?_)
  obtain ⟨z_21, hq_21, hm⟩ := ob hm
  have K_21 : ∀ (x3_2 : Int32), z_21 = x3_2 → ∀ (ls : Array Slot), lv_has ls 5 [(3, .int x3_2)] → W p l e (headSpec wsX2_thereBelow ({ frames := 3, cells := 0, slots := 0, locals := 67 } : Room)).room s m ([.ref (ad 0), .int p1] : List Value).toArray below meth c s.heap [] 0 0 (MQ below (vp_Si (fun v => v = r)) ([.ref (ad 0), .int p1] : List Value).toArray s 0 0 (fun _ => False)) (F0 m 47 ls []) := by
    intro x3_2 ez ls hl
    rw [ez] at hm
    refine lv_iload_n hx hb dX2_thereBelow_47 rfl (lv_at hl 0 rfl) ?_
    exact W.iret hx hb hr (fun t ht hW => ⟨_, rfl, (o2 hm).symm, ht⟩) (fun q h => absurd h List.not_mem_nil) dX2_thereBelow_48
  have L_21 : ∀ (n : Nat) (x4 : Int32) (x3 : Int32), X2_thereBelow_L21 zm F r5 n x4 x3 = some z_21 → ∀ (ls : Array Slot), lv_has ls 5 [(4, .int x4), (3, .int x3), (2, .int r5), (0, .ref (ad 0))] → W p l e (headSpec wsX2_thereBelow ({ frames := 3, cells := 0, slots := 0, locals := 67 } : Room)).room s m ([.ref (ad 0), .int p1] : List Value).toArray below meth c s.heap [] 0 0 (MQ below (vp_Si (fun v => v = r)) ([.ref (ad 0), .int p1] : List Value).toArray s 0 0 (fun _ => False)) (F0 m 21 ls []) := by
    intro n
    induction n with
    | zero => intro x4 x3 hm; cases hm
    | succ n ih_21 =>
      intro x4 x3 hm ls hl
      refine lv_iload hx hb dX2_thereBelow_21 (lv_at hl 0 rfl) ?_
      refine lv_iload_n hx hb dX2_thereBelow_23 rfl (lv_at hl 2 rfl) ?_
      refine lv_icmp_ge (tgt := 47) hx hb dX2_thereBelow_24 (by decide) (fun c_24 => ?_) (fun c_24 => ?_)
      · have hm := it_t hm c_24
        exact K_21 x3 (o2 hm) _ (lv_sub hl [1] rfl)
      · have hm := it_f hm c_24
        refine lv_iload_n hx hb dX2_thereBelow_27 rfl (lv_at hl 1 rfl) ?_
        refine lv_iconst (v := 1) hx hb dX2_thereBelow_28 (by decide) ?_
        refine lv_aload_n hx hb dX2_thereBelow_29 rfl (lv_at hl 3 rfl) ?_
        refine va_get (D := (dC, dI)) (ci := 2) (v := .ref (ad 3)) (C := RX2) (T := TX2) (N := 15) hx hb hts ziX2 hown hK hP 0 rfl rfl 1 (by decide) zw2 (fun _ h9 => h9) rfl dX2_thereBelow_30 ?_
        refine lv_iload hx hb dX2_thereBelow_33 (lv_at hl 0 rfl) ?_
        obtain ⟨r35, h_35, hm⟩ := ob hm
        refine z_callRi (As := [.int x4]) (rest := [.int 1, .int x3]) (ci := 0) (q := (RX0, TX0, 2)) ⟨hx, hb, hml, hown, hts⟩ (c_X0_at l dC dI cI (ad 3) (ad 4) 256 zm F x4 r35 h_35) (cwV 1 hts gX2_thereBelow_X0_at rfl rfl rfl kv_X0_at ⟨Nat.le_of_ble_eq_true rfl, Nat.le_of_ble_eq_true rfl⟩) hK (z_mid (pjL_zm cI ad zk zm zb zs zr zu zt zf zg zbd zro zmc zmg zsp zjn zm) hP) rfl rfl rfl rfl hl.1 rfl (Nat.le_of_ble_eq_true rfl) dX2_thereBelow_35 ⟨Nat.zero_le _, Nat.zero_le _⟩ ?_
        refine lv_isub hx hb dX2_thereBelow_38 ?_
        refine lv_iadd hx hb dX2_thereBelow_39 ?_
        refine lv_topi (fun x3_1 e_x3_1 => ?_)
        have hm := bnd_e hm e_x3_1
        refine lv_istore_n (lv' := [(3, .int x3_1), (4, .int x4), (2, .int r5), (0, .ref (ad 0))]) hx hb dX2_thereBelow_40 rfl hl (by decide) rfl (fun ls hl => ?_)
        obtain ⟨x4_1, e_x4_1⟩ : ∃ y : Int32, y = x4 + 1 := ⟨_, rfl⟩
        have hm := bnd_e hm e_x4_1
        refine lv_iinc (v := x4_1) (lv' := [(4, .int x4_1), (3, .int x3_1), (2, .int r5), (0, .ref (ad 0))]) hx hb dX2_thereBelow_41 hl (k := 1) rfl (by rw [e_x4_1]; rfl) (by decide) rfl (fun ls hl => ?_)
        refine lv_goto (tgt := 21) hx hb dX2_thereBelow_44 (by decide) ?_
        exact ih_21 x4_1 x3_1 hm _ (lv_sub hl [0, 1, 2, 3] rfl)
  exact L_21 F 0 r14 hq_21 _ (lv_sub hl [0, 1, 2, 3] rfl)
