set_option maxHeartbeats 4000000 in
set_option maxRecDepth 100000 in
theorem c_X2_gather (l : Launch) (dC : Nat → ClassId) (dI : Nat → Nat → Nat) (cI : ClassId) (ad : Nat → Nat) (zk : zN) (zm : zN) (zb : zN) (zs : zN) (zr : zN) (zu : zN) (zt : zT) (zf : zN) (zg : zN) (zbd : Int32) (zro : Int32) (zmc : Int32) (zmg : Int32) (zsp : Int32) (zjn : Int32) (F : Nat) (p1 : Int32) (p2 : Int32) (p3 : Int32) (p4 : Int32) (sz : Nat) (r : Int32) (u_zf : zN) (hm : X2_gather F zk zm zb zf p1 p2 p3 p4 = some (r, u_zf)) : Met l yX2_gather wsX2_gather ({ frames := 2, cells := 0, slots := 0, locals := 42 }) (va_Pc [.ref (ad 0), .int p1, .int p2, .int p3, .int p4] (zW (dC, dI) (wL cI ad zk zm zb zs zr zu zt zf zg zbd zro zmc zmg zsp zjn) [(cI, .int)] sz)) (zQi (dC, dI) (wL cI ad zk zm zb zs zr zu zt u_zf zg zbd zro zmc zmg zsp zjn) [(cI, .int)] (va_A (wL cI ad zk zm zb zs zr zu zt zf zg zbd zro zmc zmg zsp zjn) sz) r) 0 0 (va_A (wL cI ad zk zm zb zs zr zu zt zf zg zbd zro zmc zmg zsp zjn) sz) := by
  refine Met.ofW (cc := cX2_gather) (maxL := 9) (ret := (some .boolean)) (by decide) rfl ?_
  intro p e s m args below meth c s₁ B hml hv
  obtain ⟨rfl, hsz, hP, hK, hD0⟩ := hv
  have hx := B.exec
  have hb := B.bytes
  have hr := B.returns
  have hts := atoms_spec (ws := wsX2_gather) B.pre
  have hown : s.vm.findClass RX2 = some m.cls := findClass_of_methodNamed B.named
  have hlocks := B.notSynchronized
  subst hsz
  have hD := hD0.self (sz := s.heap.size)
  generalize hAe : va_A (wL cI ad zk zm zb zs zr zu zt zf zg zbd zro zmc zmg zsp zjn) s.heap.size = A at hD ⊢
  have hA : ∀ q : Nat, s.heap.size ≤ q → A q := fun q h => by rw [← hAe]; exact Or.inr h
  have hS : va_S A s.heap s.heap [] := va_S.rf
  generalize eL : ([] : List Loc) = locs at hS ⊢
  obtain ⟨H, eH⟩ : ∃ z : Heap, z = s.heap := ⟨_, rfl⟩
  have hP : va_P (dC, dI) vwCl (wL cI ad zk zm zb zs zr zu zt zf zg zbd zro zmc zmg zsp zjn) H := by rw [eH]; exact hP
  have hS : va_S A s.heap H locs := by rw [eH]; exact hS
  refine z_heap eH ?_
  have hl := lv_entry ([.ref (ad 0), .int p1, .int p2, .int p3, .int p4]) (n := 9) (Nat.le_of_ble_eq_true rfl)
  rw [lg_entry_eq]
  generalize (lg_sl ([.ref (ad 0), .int p1, .int p2, .int p3, .int p4]) ++ List.replicate (9 - (lg_sl ([.ref (ad 0), .int p1, .int p2, .int p3, .int p4])).length) Slot.unset).toArray = ls at hl ⊢
  have hl : lv_has ls 9 [(0, .ref (ad 0)), (1, .int p1), (2, .int p2), (3, .int p3), (4, .int p4)] := hl
  have zw0 := hts (.fieldLink RX2 14 "LearnedLedge" "keys" "LLearnedLedge$Numbers;") (List.mem_cons_of_mem _ (List.mem_append_left _ (List.mem_append_left _ (List.mem_of_getElem? (i := 0) rfl))))
  have zw1 := hts (.fieldLink RX2 21 "LearnedLedge" "buffer" "LLearnedLedge$Numbers;") (List.mem_cons_of_mem _ (List.mem_append_left _ (List.mem_append_left _ (List.mem_of_getElem? (i := 1) rfl))))
  have zw2 := hts (.fieldLink RX2 40 "LearnedLedge" "freshKeys" "LLearnedLedge$Numbers;") (List.mem_cons_of_mem _ (List.mem_append_left _ (List.mem_append_left _ (List.mem_of_getElem? (i := 2) rfl))))
  have zw3 := hts (.fieldLink RX2 18 "LearnedLedge" "marks" "LLearnedLedge$Numbers;") (List.mem_cons_of_mem _ (List.mem_append_left _ (List.mem_append_left _ (List.mem_of_getElem? (i := 3) rfl))))
  have ziX2 : ∀ w ∈ u_ws RX2 TX2 15, w ∈ wsX2_gather := (fun _ h9 => (List.mem_cons_of_mem _ (List.mem_append_left _ (List.mem_append_right _ h9))))
  refine lv_iconst (v := 0) hx hb dX2_gather_0 (by decide) ?_
  refine lv_istore (lv' := [(5, .int 0), (0, .ref (ad 0)), (1, .int p1), (2, .int p2), (3, .int p3), (4, .int p4)]) hx hb dX2_gather_1 hl (by decide) rfl (fun ls hl => ?_)
  refine lv_iload_n hx hb dX2_gather_3 rfl (lv_at hl 4 rfl) ?_
  refine lv_istore (lv' := [(6, .int p3), (5, .int 0), (0, .ref (ad 0)), (1, .int p1), (2, .int p2), (3, .int p3), (4, .int p4)]) hx hb dX2_gather_4 hl (by decide) rfl (fun ls hl => ?_)
  refine lv_iload_n hx hb dX2_gather_6 rfl (lv_at hl 3 rfl) ?_
  refine lv_istore (lv' := [(7, .int p1), (6, .int p3), (5, .int 0), (0, .ref (ad 0)), (1, .int p1), (2, .int p2), (3, .int p3), (4, .int p4)]) hx hb dX2_gather_7 hl (by decide) rfl (fun ls hl => ?_)
  obtain ⟨z_9, hq_9, hm⟩ := ob hm
  have K_9 : ∀ (x6_4 : Int32), ∀ (x5_1 : Int32), ∀ (zfx9 : zN), z_9 = (x6_4, x5_1, zfx9) → ∀ (H : Heap) (locs : List Loc), va_P (dC, dI) vwCl (wL cI ad zk zm zb zs zr zu zt zfx9 zg zbd zro zmc zmg zsp zjn) H → va_D A (wL cI ad zk zm zb zs zr zu zt zfx9 zg zbd zro zmc zmg zsp zjn) → va_S A s.heap H locs → ∀ (ls : Array Slot), lv_has ls 9 [(6, .int x6_4), (5, .int x5_1), (0, .ref (ad 0)), (4, .int p4)] → W p l e (headSpec wsX2_gather ({ frames := 2, cells := 0, slots := 0, locals := 42 } : Room)).room s m ([.ref (ad 0), .int p1, .int p2, .int p3, .int p4] : List Value).toArray below meth c H locs 0 0 (MQ below (zQi (dC, dI) (wL cI ad zk zm zb zs zr zu zt u_zf zg zbd zro zmc zmg zsp zjn) [(cI, .int)] A r) ([.ref (ad 0), .int p1, .int p2, .int p3, .int p4] : List Value).toArray s 0 0 A) (F0 m 102 ls []) := by
    intro x6_4 x5_1 zfx9 ez H locs hP hD hS ls hl
    rw [ez] at hm
    obtain ⟨z_102, hq_102, hm⟩ := ob hm
    have K_102 : ∀ (zfx102 : zN), z_102 = zfx102 → ∀ (H : Heap) (locs : List Loc), va_P (dC, dI) vwCl (wL cI ad zk zm zb zs zr zu zt zfx102 zg zbd zro zmc zmg zsp zjn) H → va_D A (wL cI ad zk zm zb zs zr zu zt zfx102 zg zbd zro zmc zmg zsp zjn) → va_S A s.heap H locs → ∀ (ls : Array Slot), lv_has ls 9 [(5, .int x5_1)] → W p l e (headSpec wsX2_gather ({ frames := 2, cells := 0, slots := 0, locals := 42 } : Room)).room s m ([.ref (ad 0), .int p1, .int p2, .int p3, .int p4] : List Value).toArray below meth c H locs 0 0 (MQ below (zQi (dC, dI) (wL cI ad zk zm zb zs zr zu zt u_zf zg zbd zro zmc zmg zsp zjn) [(cI, .int)] A r) ([.ref (ad 0), .int p1, .int p2, .int p3, .int p4] : List Value).toArray s 0 0 A) (F0 m 131 ls []) := by
      intro zfx102 ez H locs hP hD hS ls hl
      rw [ez] at hm
      refine lv_iload hx hb dX2_gather_131 (lv_at hl 0 rfl) ?_
      obtain ⟨c_133, hm⟩ := ck hm
      cases o2 hm
      exact W.zret hx hb hr (nar_b c_133) (fun t ht hW => ⟨⟨_, (), rfl, rfl, by rw [ht]; exact hP, va_K.moved hW.alike hK, hD⟩, hS.F ht⟩) hS.2.2 dX2_gather_133
    have L_102 : ∀ (n : Nat) (x6_5 : Int32) (zfl102 : zN), X2_gather_L102 p4 zb F n x6_5 zfl102 = some z_102 → ∀ (H : Heap) (locs : List Loc), va_P (dC, dI) vwCl (wL cI ad zk zm zb zs zr zu zt zfl102 zg zbd zro zmc zmg zsp zjn) H → va_D A (wL cI ad zk zm zb zs zr zu zt zfl102 zg zbd zro zmc zmg zsp zjn) → va_S A s.heap H locs → ∀ (ls : Array Slot), lv_has ls 9 [(6, .int x6_5), (5, .int x5_1), (0, .ref (ad 0)), (4, .int p4)] → W p l e (headSpec wsX2_gather ({ frames := 2, cells := 0, slots := 0, locals := 42 } : Room)).room s m ([.ref (ad 0), .int p1, .int p2, .int p3, .int p4] : List Value).toArray below meth c H locs 0 0 (MQ below (zQi (dC, dI) (wL cI ad zk zm zb zs zr zu zt u_zf zg zbd zro zmc zmg zsp zjn) [(cI, .int)] A r) ([.ref (ad 0), .int p1, .int p2, .int p3, .int p4] : List Value).toArray s 0 0 A) (F0 m 102 ls []) := by
      intro n
      induction n with
      | zero => intro x6_5 zfl102 hm; cases hm
      | succ n ih_102 =>
        intro x6_5 zfl102 hm H locs hP hD hS ls hl
        refine lv_iload hx hb dX2_gather_102 (lv_at hl 0 rfl) ?_
        refine lv_iload hx hb dX2_gather_104 (lv_at hl 3 rfl) ?_
        refine lv_icmp_ge (tgt := 131) hx hb dX2_gather_106 (by decide) (fun c_106 => ?_) (fun c_106 => ?_)
        · have hm := it_t hm c_106
          exact K_102 zfl102 (o2 hm) _ _ hP hD hS _ (lv_sub hl [1] rfl)
        · have hm := it_f hm c_106
          refine lv_aload_n hx hb dX2_gather_109 rfl (lv_at hl 2 rfl) ?_
          refine va_get (D := (dC, dI)) (ci := 2) (v := .ref (ad 14)) (C := RX2) (T := TX2) (N := 15) hx hb hts ziX2 hown hK hP 0 rfl rfl 7 (by decide) zw2 (fun _ h9 => h9) rfl dX2_gather_110 ?_
          refine lv_aload_n hx hb dX2_gather_113 rfl (lv_at hl 2 rfl) ?_
          refine va_get (D := (dC, dI)) (ci := 2) (v := .ref (ad 5)) (C := RX2) (T := TX2) (N := 15) hx hb hts ziX2 hown hK hP 0 rfl rfl 2 (by decide) zw1 (fun _ h9 => h9) rfl dX2_gather_114 ?_
          refine lv_iload hx hb dX2_gather_117 (lv_at hl 0 rfl) ?_
          obtain ⟨r119, h_119, hm⟩ := ob hm
          refine z_callRi (As := [.int x6_5]) (rest := [.ref (ad 14)]) (ci := 0) (q := (RX0, TX0, 2)) ⟨hx, hb, hml, hown, hts⟩ (c_X0_at l dC dI cI (ad 5) (ad 6) 16 zb F x6_5 r119 h_119) (cwV 1 hts gX2_gather_X0_at rfl rfl rfl kv_X0_at ⟨Nat.le_of_ble_eq_true rfl, Nat.le_of_ble_eq_true rfl⟩) hK (z_mid (pjL_zb cI ad zk zm zb zs zr zu zt zfl102 zg zbd zro zmc zmg zsp zjn zb) hP) rfl rfl rfl rfl hl.1 rfl (Nat.le_of_ble_eq_true rfl) dX2_gather_119 ⟨Nat.zero_le _, Nat.zero_le _⟩ ?_
          obtain ⟨zf122, h_122, hm⟩ := ob hm
          refine z_callWv (wc := (wN cI (ad 14) (ad 15) 256 zfl102)) (w1 := (wN cI (ad 14) (ad 15) 256 zf122)) (ws := (wL cI ad zk zm zb zs zr zu zt zfl102 zg zbd zro zmc zmg zsp zjn)) (ws' := (wL cI ad zk zm zb zs zr zu zt zf122 zg zbd zro zmc zmg zsp zjn)) (As := [.int r119]) (rest := []) (ci := 0) (q := (RX0, TX0, 2)) ⟨hx, hb, hml, hown, hts⟩ (c_X0_push l dC dI cI (ad 14) (ad 15) 256 zfl102 F r119 H.size zf122 h_122) (cwV 1 hts gX2_gather_X0_push rfl rfl rfl kv_X0_push ⟨Nat.le_of_ble_eq_true rfl, Nat.le_of_ble_eq_true rfl⟩) hK hP hD hS hA (pjL_zf cI ad zk zm zb zs zr zu zt zfl102 zg zbd zro zmc zmg zsp zjn zf122) ((paN cI (ad 14) (ad 15) 256 zf122).trans (paN cI (ad 14) (ad 15) 256 zfl102).symm) rfl rfl rfl rfl hl.1 rfl (Nat.le_of_ble_eq_true rfl) dX2_gather_122 ⟨Nat.zero_le _, Nat.zero_le _⟩ (fun H locs hP hD hS => ?_)
          obtain ⟨x6_6, e_x6_6⟩ : ∃ y : Int32, y = x6_5 + 1 := ⟨_, rfl⟩
          have hm := bnd_e hm e_x6_6
          refine lv_iinc (v := x6_6) (lv' := [(6, .int x6_6), (5, .int x5_1), (0, .ref (ad 0)), (4, .int p4)]) hx hb dX2_gather_125 hl (k := 0) rfl (by rw [e_x6_6]; rfl) (by decide) rfl (fun ls hl => ?_)
          refine lv_goto (tgt := 102) hx hb dX2_gather_128 (by decide) ?_
          exact ih_102 x6_6 zf122 hm _ _ hP hD hS _ (lv_sub hl [0, 1, 2, 3] rfl)
    exact L_102 F x6_4 zfx9 hq_102 _ _ hP hD hS _ (lv_sub hl [0, 1, 2, 3] rfl)
  have L_9 : ∀ (n : Nat) (x7 : Int32) (x6 : Int32) (x5 : Int32) (zfl9 : zN), X2_gather_L9 p2 p4 zk zm zb F n x7 x6 x5 zfl9 = some z_9 → ∀ (H : Heap) (locs : List Loc), va_P (dC, dI) vwCl (wL cI ad zk zm zb zs zr zu zt zfl9 zg zbd zro zmc zmg zsp zjn) H → va_D A (wL cI ad zk zm zb zs zr zu zt zfl9 zg zbd zro zmc zmg zsp zjn) → va_S A s.heap H locs → ∀ (ls : Array Slot), lv_has ls 9 [(7, .int x7), (6, .int x6), (5, .int x5), (0, .ref (ad 0)), (2, .int p2), (4, .int p4)] → W p l e (headSpec wsX2_gather ({ frames := 2, cells := 0, slots := 0, locals := 42 } : Room)).room s m ([.ref (ad 0), .int p1, .int p2, .int p3, .int p4] : List Value).toArray below meth c H locs 0 0 (MQ below (zQi (dC, dI) (wL cI ad zk zm zb zs zr zu zt u_zf zg zbd zro zmc zmg zsp zjn) [(cI, .int)] A r) ([.ref (ad 0), .int p1, .int p2, .int p3, .int p4] : List Value).toArray s 0 0 A) (F0 m 9 ls []) := by
    intro n
    induction n with
    | zero => intro x7 x6 x5 zfl9 hm; cases hm
    | succ n ih_9 =>
      intro x7 x6 x5 zfl9 hm H locs hP hD hS ls hl
      refine lv_iload hx hb dX2_gather_9 (lv_at hl 0 rfl) ?_
      refine lv_iload_n hx hb dX2_gather_11 rfl (lv_at hl 4 rfl) ?_
      refine lv_icmp_ge (tgt := 102) hx hb dX2_gather_12 (by decide) (fun c_12 => ?_) (fun c_12 => ?_)
      · have hm := it_t hm c_12
        exact K_9 x6 x5 zfl9 (o2 hm) _ _ hP hD hS _ (lv_sub hl [1, 2, 3, 5] rfl)
      · have hm := it_f hm c_12
        refine lv_aload_n hx hb dX2_gather_15 rfl (lv_at hl 3 rfl) ?_
        refine va_get (D := (dC, dI)) (ci := 2) (v := .ref (ad 1)) (C := RX2) (T := TX2) (N := 15) hx hb hts ziX2 hown hK hP 0 rfl rfl 0 (by decide) zw0 (fun _ h9 => h9) rfl dX2_gather_16 ?_
        refine lv_iload hx hb dX2_gather_19 (lv_at hl 0 rfl) ?_
        obtain ⟨r21, h_21, hm⟩ := ob hm
        refine z_callRi (As := [.int x7]) (rest := []) (ci := 0) (q := (RX0, TX0, 2)) ⟨hx, hb, hml, hown, hts⟩ (c_X0_at l dC dI cI (ad 1) (ad 2) 256 zk F x7 r21 h_21) (cwV 1 hts gX2_gather_X0_at rfl rfl rfl kv_X0_at ⟨Nat.le_of_ble_eq_true rfl, Nat.le_of_ble_eq_true rfl⟩) hK (z_mid (pjL_zk cI ad zk zm zb zs zr zu zt zfl9 zg zbd zro zmc zmg zsp zjn zk) hP) rfl rfl rfl rfl hl.1 rfl (Nat.le_of_ble_eq_true rfl) dX2_gather_21 ⟨Nat.zero_le _, Nat.zero_le _⟩ ?_
        refine lv_istore (lv' := [(8, .int r21), (7, .int x7), (6, .int x6), (5, .int x5), (0, .ref (ad 0)), (2, .int p2), (4, .int p4)]) hx hb dX2_gather_24 hl (by decide) rfl (fun ls hl => ?_)
        obtain ⟨z_26, hq_26, hm⟩ := ob hm
        have K_26 : ∀ (x6_3 : Int32), ∀ (zfx26 : zN), z_26 = (x6_3, zfx26) → ∀ (H : Heap) (locs : List Loc), va_P (dC, dI) vwCl (wL cI ad zk zm zb zs zr zu zt zfx26 zg zbd zro zmc zmg zsp zjn) H → va_D A (wL cI ad zk zm zb zs zr zu zt zfx26 zg zbd zro zmc zmg zsp zjn) → va_S A s.heap H locs → ∀ (ls : Array Slot), lv_has ls 9 [(8, .int r21), (7, .int x7), (6, .int x6_3), (5, .int x5), (0, .ref (ad 0)), (2, .int p2), (4, .int p4)] → W p l e (headSpec wsX2_gather ({ frames := 2, cells := 0, slots := 0, locals := 42 } : Room)).room s m ([.ref (ad 0), .int p1, .int p2, .int p3, .int p4] : List Value).toArray below meth c H locs 0 0 (MQ below (zQi (dC, dI) (wL cI ad zk zm zb zs zr zu zt u_zf zg zbd zro zmc zmg zsp zjn) [(cI, .int)] A r) ([.ref (ad 0), .int p1, .int p2, .int p3, .int p4] : List Value).toArray s 0 0 A) (F0 m 69 ls []) := by
          intro x6_3 zfx26 ez H locs hP hD hS ls hl
          rw [ez] at hm
          refine lv_aload_n hx hb dX2_gather_69 rfl (lv_at hl 4 rfl) ?_
          refine va_get (D := (dC, dI)) (ci := 2) (v := .ref (ad 3)) (C := RX2) (T := TX2) (N := 15) hx hb hts ziX2 hown hK hP 0 rfl rfl 1 (by decide) zw3 (fun _ h9 => h9) rfl dX2_gather_70 ?_
          refine lv_iload hx hb dX2_gather_73 (lv_at hl 1 rfl) ?_
          obtain ⟨r75, h_75, hm⟩ := ob hm
          refine z_callRi (As := [.int x7]) (rest := []) (ci := 0) (q := (RX0, TX0, 2)) ⟨hx, hb, hml, hown, hts⟩ (c_X0_at l dC dI cI (ad 3) (ad 4) 256 zm F x7 r75 h_75) (cwV 1 hts gX2_gather_X0_at rfl rfl rfl kv_X0_at ⟨Nat.le_of_ble_eq_true rfl, Nat.le_of_ble_eq_true rfl⟩) hK (z_mid (pjL_zm cI ad zk zm zb zs zr zu zt zfx26 zg zbd zro zmc zmg zsp zjn zm) hP) rfl rfl rfl rfl hl.1 rfl (Nat.le_of_ble_eq_true rfl) dX2_gather_75 ⟨Nat.zero_le _, Nat.zero_le _⟩ ?_
          refine lv_if_ne (tgt := 93) hx hb dX2_gather_78 (by decide) (fun c_78 => ?_) (fun c_78 => ?_)
          · have hm := it_f hm c_78
            refine lv_iconst (v := 1) hx hb dX2_gather_93 (by decide) ?_
            refine lv_istore (lv' := [(5, .int 1), (8, .int r21), (7, .int x7), (6, .int x6_3), (0, .ref (ad 0)), (2, .int p2), (4, .int p4)]) hx hb dX2_gather_94 hl (by decide) rfl (fun ls hl => ?_)
            obtain ⟨x7_1, e_x7_1⟩ : ∃ y : Int32, y = x7 + 1 := ⟨_, rfl⟩
            have hm := bnd_e hm e_x7_1
            refine lv_iinc (v := x7_1) (lv' := [(7, .int x7_1), (5, .int 1), (8, .int r21), (6, .int x6_3), (0, .ref (ad 0)), (2, .int p2), (4, .int p4)]) hx hb dX2_gather_96 hl (k := 2) rfl (by rw [e_x7_1]; rfl) (by decide) rfl (fun ls hl => ?_)
            refine lv_goto (tgt := 9) hx hb dX2_gather_99 (by decide) ?_
            exact ih_9 x7_1 x6_3 1 zfx26 hm _ _ hP hD hS _ (lv_sub hl [0, 3, 1, 4, 5, 6] rfl)
          · have hm := it_t hm c_78
            refine lv_aload_n hx hb dX2_gather_81 rfl (lv_at hl 4 rfl) ?_
            refine va_get (D := (dC, dI)) (ci := 2) (v := .ref (ad 14)) (C := RX2) (T := TX2) (N := 15) hx hb hts ziX2 hown hK hP 0 rfl rfl 7 (by decide) zw2 (fun _ h9 => h9) rfl dX2_gather_82 ?_
            refine lv_iload hx hb dX2_gather_85 (lv_at hl 0 rfl) ?_
            obtain ⟨zf87, h_87, hm⟩ := ob hm
            refine z_callWv (wc := (wN cI (ad 14) (ad 15) 256 zfx26)) (w1 := (wN cI (ad 14) (ad 15) 256 zf87)) (ws := (wL cI ad zk zm zb zs zr zu zt zfx26 zg zbd zro zmc zmg zsp zjn)) (ws' := (wL cI ad zk zm zb zs zr zu zt zf87 zg zbd zro zmc zmg zsp zjn)) (As := [.int r21]) (rest := []) (ci := 0) (q := (RX0, TX0, 2)) ⟨hx, hb, hml, hown, hts⟩ (c_X0_push l dC dI cI (ad 14) (ad 15) 256 zfx26 F r21 H.size zf87 h_87) (cwV 1 hts gX2_gather_X0_push rfl rfl rfl kv_X0_push ⟨Nat.le_of_ble_eq_true rfl, Nat.le_of_ble_eq_true rfl⟩) hK hP hD hS hA (pjL_zf cI ad zk zm zb zs zr zu zt zfx26 zg zbd zro zmc zmg zsp zjn zf87) ((paN cI (ad 14) (ad 15) 256 zf87).trans (paN cI (ad 14) (ad 15) 256 zfx26).symm) rfl rfl rfl rfl hl.1 rfl (Nat.le_of_ble_eq_true rfl) dX2_gather_87 ⟨Nat.zero_le _, Nat.zero_le _⟩ (fun H locs hP hD hS => ?_)
            refine lv_goto (tgt := 96) hx hb dX2_gather_90 (by decide) ?_
            obtain ⟨x7_2, e_x7_2⟩ : ∃ y : Int32, y = x7 + 1 := ⟨_, rfl⟩
            have hm := bnd_e hm e_x7_2
            refine lv_iinc (v := x7_2) (lv' := [(7, .int x7_2), (8, .int r21), (6, .int x6_3), (5, .int x5), (0, .ref (ad 0)), (2, .int p2), (4, .int p4)]) hx hb dX2_gather_96 hl (k := 1) rfl (by rw [e_x7_2]; rfl) (by decide) rfl (fun ls hl => ?_)
            refine lv_goto (tgt := 9) hx hb dX2_gather_99 (by decide) ?_
            exact ih_9 x7_2 x6_3 x5 zf87 hm _ _ hP hD hS _ (lv_sub hl [0, 2, 3, 4, 5, 6] rfl)
        have L_26 : ∀ (n : Nat) (x6_1 : Int32) (zfl26 : zN), X2_gather_L26 p4 zb F r21 n x6_1 zfl26 = some z_26 → ∀ (H : Heap) (locs : List Loc), va_P (dC, dI) vwCl (wL cI ad zk zm zb zs zr zu zt zfl26 zg zbd zro zmc zmg zsp zjn) H → va_D A (wL cI ad zk zm zb zs zr zu zt zfl26 zg zbd zro zmc zmg zsp zjn) → va_S A s.heap H locs → ∀ (ls : Array Slot), lv_has ls 9 [(8, .int r21), (7, .int x7), (6, .int x6_1), (5, .int x5), (0, .ref (ad 0)), (2, .int p2), (4, .int p4)] → W p l e (headSpec wsX2_gather ({ frames := 2, cells := 0, slots := 0, locals := 42 } : Room)).room s m ([.ref (ad 0), .int p1, .int p2, .int p3, .int p4] : List Value).toArray below meth c H locs 0 0 (MQ below (zQi (dC, dI) (wL cI ad zk zm zb zs zr zu zt u_zf zg zbd zro zmc zmg zsp zjn) [(cI, .int)] A r) ([.ref (ad 0), .int p1, .int p2, .int p3, .int p4] : List Value).toArray s 0 0 A) (F0 m 26 ls []) := by
          intro n
          induction n with
          | zero => intro x6_1 zfl26 hm; cases hm
          | succ n ih_26 =>
            intro x6_1 zfl26 hm H locs hP hD hS ls hl
            refine lv_iload hx hb dX2_gather_26 (lv_at hl 2 rfl) ?_
            refine lv_iload hx hb dX2_gather_28 (lv_at hl 6 rfl) ?_
            refine lv_icmp_ge (tgt := 69) hx hb dX2_gather_30 (by decide) (fun c_30 => ?_) (fun c_30 => ?_)
            · have hm := it_t hm c_30
              exact K_26 x6_1 zfl26 (o2 hm) _ _ hP hD hS _ (lv_sub hl [0, 1, 2, 3, 4, 5, 6] rfl)
            · have hm := it_f hm c_30
              refine lv_aload_n hx hb dX2_gather_33 rfl (lv_at hl 4 rfl) ?_
              refine va_get (D := (dC, dI)) (ci := 2) (v := .ref (ad 5)) (C := RX2) (T := TX2) (N := 15) hx hb hts ziX2 hown hK hP 0 rfl rfl 2 (by decide) zw1 (fun _ h9 => h9) rfl dX2_gather_34 ?_
              refine lv_iload hx hb dX2_gather_37 (lv_at hl 2 rfl) ?_
              obtain ⟨r39, h_39, hm⟩ := ob hm
              refine z_callRi (As := [.int x6_1]) (rest := []) (ci := 0) (q := (RX0, TX0, 2)) ⟨hx, hb, hml, hown, hts⟩ (c_X0_at l dC dI cI (ad 5) (ad 6) 16 zb F x6_1 r39 h_39) (cwV 1 hts gX2_gather_X0_at rfl rfl rfl kv_X0_at ⟨Nat.le_of_ble_eq_true rfl, Nat.le_of_ble_eq_true rfl⟩) hK (z_mid (pjL_zb cI ad zk zm zb zs zr zu zt zfl26 zg zbd zro zmc zmg zsp zjn zb) hP) rfl rfl rfl rfl hl.1 rfl (Nat.le_of_ble_eq_true rfl) dX2_gather_39 ⟨Nat.zero_le _, Nat.zero_le _⟩ ?_
              refine lv_iload hx hb dX2_gather_42 (lv_at hl 0 rfl) ?_
              refine lv_icmp_ge (tgt := 69) hx hb dX2_gather_44 (by decide) (fun c_44 => ?_) (fun c_44 => ?_)
              · have hm := it_t hm c_44
                exact K_26 x6_1 zfl26 (o2 hm) _ _ hP hD hS _ (lv_sub hl [0, 1, 2, 3, 4, 5, 6] rfl)
              · have hm := it_f hm c_44
                refine lv_aload_n hx hb dX2_gather_47 rfl (lv_at hl 4 rfl) ?_
                refine va_get (D := (dC, dI)) (ci := 2) (v := .ref (ad 14)) (C := RX2) (T := TX2) (N := 15) hx hb hts ziX2 hown hK hP 0 rfl rfl 7 (by decide) zw2 (fun _ h9 => h9) rfl dX2_gather_48 ?_
                refine lv_aload_n hx hb dX2_gather_51 rfl (lv_at hl 4 rfl) ?_
                refine va_get (D := (dC, dI)) (ci := 2) (v := .ref (ad 5)) (C := RX2) (T := TX2) (N := 15) hx hb hts ziX2 hown hK hP 0 rfl rfl 2 (by decide) zw1 (fun _ h9 => h9) rfl dX2_gather_52 ?_
                refine lv_iload hx hb dX2_gather_55 (lv_at hl 2 rfl) ?_
                obtain ⟨r57, h_57, hm⟩ := ob hm
                refine z_callRi (As := [.int x6_1]) (rest := [.ref (ad 14)]) (ci := 0) (q := (RX0, TX0, 2)) ⟨hx, hb, hml, hown, hts⟩ (c_X0_at l dC dI cI (ad 5) (ad 6) 16 zb F x6_1 r57 h_57) (cwV 1 hts gX2_gather_X0_at rfl rfl rfl kv_X0_at ⟨Nat.le_of_ble_eq_true rfl, Nat.le_of_ble_eq_true rfl⟩) hK (z_mid (pjL_zb cI ad zk zm zb zs zr zu zt zfl26 zg zbd zro zmc zmg zsp zjn zb) hP) rfl rfl rfl rfl hl.1 rfl (Nat.le_of_ble_eq_true rfl) dX2_gather_57 ⟨Nat.zero_le _, Nat.zero_le _⟩ ?_
                obtain ⟨zf60, h_60, hm⟩ := ob hm
                refine z_callWv (wc := (wN cI (ad 14) (ad 15) 256 zfl26)) (w1 := (wN cI (ad 14) (ad 15) 256 zf60)) (ws := (wL cI ad zk zm zb zs zr zu zt zfl26 zg zbd zro zmc zmg zsp zjn)) (ws' := (wL cI ad zk zm zb zs zr zu zt zf60 zg zbd zro zmc zmg zsp zjn)) (As := [.int r57]) (rest := []) (ci := 0) (q := (RX0, TX0, 2)) ⟨hx, hb, hml, hown, hts⟩ (c_X0_push l dC dI cI (ad 14) (ad 15) 256 zfl26 F r57 H.size zf60 h_60) (cwV 1 hts gX2_gather_X0_push rfl rfl rfl kv_X0_push ⟨Nat.le_of_ble_eq_true rfl, Nat.le_of_ble_eq_true rfl⟩) hK hP hD hS hA (pjL_zf cI ad zk zm zb zs zr zu zt zfl26 zg zbd zro zmc zmg zsp zjn zf60) ((paN cI (ad 14) (ad 15) 256 zf60).trans (paN cI (ad 14) (ad 15) 256 zfl26).symm) rfl rfl rfl rfl hl.1 rfl (Nat.le_of_ble_eq_true rfl) dX2_gather_60 ⟨Nat.zero_le _, Nat.zero_le _⟩ (fun H locs hP hD hS => ?_)
                obtain ⟨x6_2, e_x6_2⟩ : ∃ y : Int32, y = x6_1 + 1 := ⟨_, rfl⟩
                have hm := bnd_e hm e_x6_2
                refine lv_iinc (v := x6_2) (lv' := [(6, .int x6_2), (8, .int r21), (7, .int x7), (5, .int x5), (0, .ref (ad 0)), (2, .int p2), (4, .int p4)]) hx hb dX2_gather_63 hl (k := 2) rfl (by rw [e_x6_2]; rfl) (by decide) rfl (fun ls hl => ?_)
                refine lv_goto (tgt := 26) hx hb dX2_gather_66 (by decide) ?_
                exact ih_26 x6_2 zf60 hm _ _ hP hD hS _ (lv_sub hl [1, 2, 0, 3, 4, 5, 6] rfl)
        exact L_26 F x6 zfl9 hq_26 _ _ hP hD hS _ (lv_sub hl [0, 1, 2, 3, 4, 5, 6] rfl)
  exact L_9 F p1 p3 0 zf hq_9 _ _ hP hD hS _ (lv_sub hl [0, 1, 2, 3, 5, 7] rfl)
