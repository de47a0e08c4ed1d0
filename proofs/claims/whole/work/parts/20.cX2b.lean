set_option maxHeartbeats 4000000 in
set_option maxRecDepth 100000 in
theorem c_X2_gather (l : Launch) (dC : Nat → ClassId) (dI : Nat → Nat → Nat) (cI : ClassId) (ad : Nat → Nat) (zk : zN) (zm : zN) (zb : zN) (zs : zN) (zr : zN) (zu : zN) (zt : zT) (zf : zN) (zg : zN) (zbd : Int32) (zro : Int32) (zmc : Int32) (zmg : Int32) (zsp : Int32) (zjn : Int32) (F : Nat) (p1 : Int32) (p2 : Int32) (p3 : Int32) (p4 : Int32) (sz : Nat) (r : Int32) (u_zf : zN) (hm : X2_gather F zk zm zb zf p1 p2 p3 p4 = some (r, u_zf)) : Met l yX2_gather wsX2_gather ({ frames := 2, cells := 0, slots := 0, locals := 42 }) (va_Pc [.ref (ad 0), .int p1, .int p2, .int p3, .int p4] (zW (dC, dI) (wL cI ad zk zm zb zs zr zu zt zf zg zbd zro zmc zmg zsp zjn) [(cI, .int)] sz)) (zQi (dC, dI) (wL cI ad zk zm zb zs zr zu zt u_zf zg zbd zro zmc zmg zsp zjn) [(cI, .int)] (va_A (wL cI ad zk zm zb zs zr zu zt zf zg zbd zro zmc zmg zsp zjn) sz) r) 0 0 (va_A (wL cI ad zk zm zb zs zr zu zt zf zg zbd zro zmc zmg zsp zjn) sz) := by
  refine Met.ofW (cc := cX2_gather) (maxL := 9) (ret := (some .boolean)) (by decide) rfl ?_
  intro p e s m args below meth c s₁ B hml hv
  obtain ⟨rfl, hsz, hP, hK, hD0⟩ := hv
  have hx := B.exec
  have hb := B.bytes
  have hr := B.returns
  have hts := atoms_spec (ws := wsX2_gather) B.pre
  have hown : s.vm.findClass RX2 = some m.cls := findClass_of_methodNamed B.named
  have hlocks := B.notSynchronized
  subst hsz
  have hD := hD0.self (sz := s.heap.size)
  generalize hAe : va_A (wL cI ad zk zm zb zs zr zu zt zf zg zbd zro zmc zmg zsp zjn) s.heap.size = A at hD ⊢
  have hA : ∀ q : Nat, s.heap.size ≤ q → A q := fun q h => by rw [← hAe]; exact Or.inr h
  have hS : va_S A s.heap s.heap [] := va_S.rf
  generalize eL : ([] : List Loc) = locs at hS ⊢
  obtain ⟨H, eH⟩ : ∃ z : Heap, z = s.heap := ⟨_, rfl⟩
  have hP : va_P (dC, dI) vwCl (wL cI ad zk zm zb zs zr zu zt zf zg zbd zro zmc zmg zsp zjn) H := by rw [eH]; exact hP
  have hS : va_S A s.heap H locs := by rw [eH]; exact hS
  refine z_heap eH ?_
  have hl := lv_entry ([.ref (ad 0), .int p1, .int p2, .int p3, .int p4]) (n := 9) (Nat.le_of_ble_eq_true rfl)
  rw [lg_entry_eq]
  generalize (lg_sl ([.ref (ad 0), .int p1, .int p2, .int p3, .int p4]) ++ List.replicate (9 - (lg_sl ([.ref (ad 0), .int p1, .int p2, .int p3, .int p4])).length) Slot.unset).toArray = ls at hl ⊢
  have hl : lv_has ls 9 [(0, .ref (ad 0)), (1, .int p1), (2, .int p2), (3, .int p3), (4, .int p4)] := hl
  have zw0 := hts (.fieldLink RX2 14 "LearnedLedge" "keys" "LLearnedLedge$Numbers;") (by decide +kernel)
  have zw1 := hts (.fieldLink RX2 21 "LearnedLedge" "buffer" "LLearnedLedge$Numbers;") (by decide +kernel)
  have zw2 := hts (.fieldLink RX2 40 "LearnedLedge" "freshKeys" "LLearnedLedge$Numbers;") (by decide +kernel)
  have zw3 := hts (.fieldLink RX2 18 "LearnedLedge" "marks" "LLearnedLedge$Numbers;") (by decide +kernel)
  have ziX2 : ∀ w ∈ u_ws RX2 TX2 15, w ∈ wsX2_gather := by decide +kernel
  refine lv_iconst (v := 0) hx hb dX2_gather_0 (by decide) ?_
  refine lv_istore (lv' := [(5, .int 0), (0, .ref (ad 0)), (1, .int p1), (2, .int p2), (3, .int p3), (4, .int p4)]) hx hb dX2_gather_1 hl (by decide) rfl (fun ls hl => ?_)
  refine lv_iload_n hx hb dX2_gather_3 rfl (lv_at hl 4 rfl) ?_
  refine lv_istore (lv' := [(6, .int p3), (5, .int 0), (0, .ref (ad 0)), (1, .int p1), (2, .int p2), (3, .int p3), (4, .int p4)]) hx hb dX2_gather_4 hl (by decide) rfl (fun ls hl => ?_)
  refine lv_iload_n hx hb dX2_gather_6 rfl (lv_at hl 3 rfl) ?_
  refine lv_istore (lv' := [(7, .int p1), (6, .int p3), (5, .int 0), (0, .ref (ad 0)), (1, .int p1), (2, .int p2), (3, .int p3), (4, .int p4)]) hx hb dX2_gather_7 hl (by decide) rfl (fun ls hl => ?_)
  obtain ⟨z_9, hq_9, hm⟩ := ob hm
  have K_9 : ∀ (x6_4 : Int32), ∀ (x5_1 : Int32), ∀ (zfx9 : zN), z_9 = (x6_4, x5_1, zfx9) → ∀ (H : Heap) (locs : List Loc), va_P (dC, dI) vwCl (wL cI ad zk zm zb zs zr zu zt zfx9 zg zbd zro zmc zmg zsp zjn) H → va_D A (wL cI ad zk zm zb zs zr zu zt zfx9 zg zbd zro zmc zmg zsp zjn) → va_S A s.heap H locs → ∀ (ls : Array Slot), lv_has ls 9 [(6, .int x6_4), (5, .int x5_1), (0, .ref (ad 0)), (4, .int p4)] → W p l e (headSpec wsX2_gather ({ frames := 2, cells := 0, slots := 0, locals := 42 } : Room)).room s m ([.ref (ad 0), .int p1, .int p2, .int p3, .int p4] : List Value).toArray below meth c H locs 0 0 (MQ below (zQi (dC, dI) (wL cI ad zk zm zb zs zr zu zt u_zf zg zbd zro zmc zmg zsp zjn) [(cI, .int)] A r) ([.ref (ad 0), .int p1, .int p2, .int p3, .int p4] : List Value).toArray s 0 0 A) (F0 m 102 ls []) := by
    intro x6_4 x5_1 zfx9 ez H locs hP hD hS ls hl
    rw [ez] at hm
    obtain ⟨z_102, hq_102, hm⟩ := ob hm
    have K_102 : ∀ (zfx102 : zN), z_102 = zfx102 → ∀ (H : Heap) (locs : List Loc), va_P (dC, dI) vwCl (wL cI ad zk zm zb zs zr zu zt zfx102 zg zbd zro zmc zmg zsp zjn) H → va_D A (wL cI ad zk zm zb zs zr zu zt zfx102 zg zbd zro zmc zmg zsp zjn) → va_S A s.heap H locs → ∀ (ls : Array Slot), lv_has ls 9 [(5, .int x5_1)] → W p l e (headSpec wsX2_gather ({ frames := 2, cells := 0, slots := 0, locals := 42 } : Room)).room s m ([.ref (ad 0), .int p1, .int p2, .int p3, .int p4] : List Value).toArray below meth c H locs 0 0 (MQ below (zQi (dC, dI) (wL cI ad zk zm zb zs zr zu zt u_zf zg zbd zro zmc zmg zsp zjn) [(cI, .int)] A r) ([.ref (ad 0), .int p1, .int p2, .int p3, .int p4] : List Value).toArray s 0 0 A) (F0 m 131 ls []) := by
      intro zfx102 ez H locs hP hD hS ls hl
      rw [ez] at hm
      refine lv_iload hx hb dX2_gather_131 (lv_at hl 0 rfl) ?_
      obtain ⟨c_133, hm⟩ := ck hm
      cases o2 hm
      exact W.zret hx hb hr (nar_b c_133) (fun t ht hW => ⟨⟨_, (), rfl, rfl, by rw [ht]; exact hP, va_K.moved hW.alike hK, hD⟩, hS.F ht⟩) hS.2.2 dX2_gather_133
    have L_102 : ∀ (n : Nat) (x6_5 : Int32) (zfl102 : zN), X2_gather_L102 p4 zb F n x6_5 zfl102 = some z_102 → ∀ (H : Heap) (locs : List Loc), va_P (dC, dI) vwCl (wL cI ad zk zm zb zs zr zu zt zfl102 zg zbd zro zmc zmg zsp zjn) H → va_D A (wL cI ad zk zm zb zs zr zu zt zfl102 zg zbd zro zmc zmg zsp zjn) → va_S A s.heap H locs → ∀ (ls : Array Slot), lv_has ls 9 [(6, .int x6_5), (5, .int x5_1), (0, .ref (ad 0)), (4, .int p4)] → W p l e (headSpec wsX2_gather ({ frames := 2, cells := 0, slots := 0, locals := 42 } : Room)).room s m ([.ref (ad 0), .int p1, .int p2, .int p3, .int p4] : List Value).toArray below meth c H locs 0 0 (MQ below (zQi (dC, dI) (wL cI ad zk zm zb zs zr zu zt u_zf zg zbd zro zmc zmg zsp zjn) [(cI, .int)] A r) ([.ref (ad 0), .int p1, .int p2, .int p3, .int p4] : List Value).toArray s 0 0 A) (F0 m 102 ls []) := by
      intro n
      induction n with
      | zero => intro x6_5 zfl102 hm; cases hm
      | succ n ih_102 =>
        intro x6_5 zfl102 hm H locs hP hD hS ls hl
        refine lv_iload hx hb dX2_gather_102 (lv_at hl 0 rfl) ?_
        refine lv_iload hx hb dX2_gather_104 (lv_at hl 3 rfl) ?_
        refine lv_icmp_ge (tgt := 131) hx hb dX2_gather_106 (by decide) (fun c_106 => ?_) (fun c_106 => ?_)
        · have hm := it_t hm c_106
          exact K_102 zfl102 (o2 hm) _ _ hP hD hS _ (lv_sub hl [1] rfl)
        · have hm := it_f hm c_106
          refine lv_aload_n hx hb dX2_gather_109 rfl (lv_at hl 2 rfl) ?_
          refine va_get (D := (dC, dI)) (ci := 2) (v := .ref (ad 14)) (C := RX2) (T := TX2) (N := 15) hx hb hts ziX2 hown hK hP 0 rfl rfl 7 (by decide) zw2 (fun _ h9 => h9) rfl dX2_gather_110 ?_
          refine lv_aload_n hx hb dX2_gather_113 rfl (lv_at hl 2 rfl) ?_
          refine va_get (D := (dC, dI)) (ci := 2) (v := .ref (ad 5)) (C := RX2) (T := TX2) (N := 15) hx hb hts ziX2 hown hK hP 0 rfl rfl 2 (by decide) zw1 (fun _ h9 => h9) rfl dX2_gather_114 ?_
          refine lv_iload hx hb dX2_gather_117 (lv_at hl 0 rfl) ?_
          obtain ⟨r119, h_119, hm⟩ := ob hm
          refine z_callRi (As := [.int x6_5]) (rest := [.ref (ad 14)]) (ci := 0) (q := (RX0, TX0, 2)) ⟨hx, hb, hml, hown, hts⟩ (c_X0_at l dC dI cI (ad 5) (ad 6) 16 zb F x6_5 r119 h_119) (cwV 1 hts gX2_gather_X0_at rfl rfl rfl kv_X0_at ⟨Nat.le_of_ble_eq_true rfl, Nat.le_of_ble_eq_true rfl⟩) hK (hP.sub (ws' := (wN cI (ad 5) (ad 6) 16 zb)) [5, 6] rfl) rfl rfl rfl rfl hl.1 rfl (Nat.le_of_ble_eq_true rfl) dX2_gather_119 ⟨Nat.zero_le _, Nat.zero_le _⟩ ?_
          obtain ⟨zf122, h_122, hm⟩ := ob hm
          refine z_callWv (wc := (wN cI (ad 14) (ad 15) 256 zfl102)) (w1 := (wN cI (ad 14) (ad 15) 256 zf122)) (ws := (wL cI ad zk zm zb zs zr zu zt zfl102 zg zbd zro zmc zmg zsp zjn)) (ws' := (wL cI ad zk zm zb zs zr zu zt zf122 zg zbd zro zmc zmg zsp zjn)) [14, 15] [0, 1, 2, 3, 4, 5, 6, 7, 8, 9, 10, 11, 12, 13, 16, 17] 18 (As := [.int r119]) (rest := []) (ci := 0) (q := (RX0, TX0, 2)) ⟨hx, hb, hml, hown, hts⟩ (c_X0_push l dC dI cI (ad 14) (ad 15) 256 zfl102 F r119 H.size zf122 h_122) (cwV 1 hts gX2_gather_X0_push rfl rfl rfl kv_X0_push ⟨Nat.le_of_ble_eq_true rfl, Nat.le_of_ble_eq_true rfl⟩) hK hP hD hS hA (hP.sub (ws' := (wN cI (ad 14) (ad 15) 256 zfl102)) [14, 15] rfl) (hD.sub (ws' := (wN cI (ad 14) (ad 15) 256 zfl102)) [14, 15] (by decide) rfl) rfl rfl (by decide) rfl rfl (by decide) rfl rfl rfl rfl rfl hl.1 rfl (Nat.le_of_ble_eq_true rfl) dX2_gather_122 ⟨Nat.zero_le _, Nat.zero_le _⟩ (fun H locs hP hD hS => ?_)
          obtain ⟨x6_6, e_x6_6⟩ : ∃ y : Int32, y = x6_5 + 1 := ⟨_, rfl⟩
          have hm := bnd_e hm e_x6_6
          refine lv_iinc (v := x6_6) (lv' := [(6, .int x6_6), (5, .int x5_1), (0, .ref (ad 0)), (4, .int p4)]) hx hb dX2_gather_125 hl (k := 0) rfl (by rw [e_x6_6]; rfl) (by decide) rfl (fun ls hl => ?_)
          refine lv_goto (tgt := 102) hx hb dX2_gather_128 (by decide) ?_
          exact ih_102 x6_6 zf122 hm _ _ hP hD hS _ (lv_sub hl [0, 1, 2, 3] rfl)
    exact L_102 F x6_4 zfx9 hq_102 _ _ hP hD hS _ (lv_sub hl [0, 1, 2, 3] rfl)
  have L_9 : ∀ (n : Nat) (x7 : Int32) (x6 : Int32) (x5 : Int32) (zfl9 : zN), X2_gather_L9 p2 p4 zk zm zb F n x7 x6 x5 zfl9 = some z_9 → ∀ (H : Heap) (locs : List Loc), va_P (dC, dI) vwCl (wL cI ad zk zm zb zs zr zu zt zfl9 zg zbd zro zmc zmg zsp zjn) H → va_D A (wL cI ad zk zm zb zs zr zu zt zfl9 zg zbd zro zmc zmg zsp zjn) → va_S A s.heap H locs → ∀ (ls : Array Slot), lv_has ls 9 [(7, .int x7), (6, .int x6), (5, .int x5), (0, .ref (ad 0)), (2, .int p2), (4, .int p4)] → W p l e (headSpec wsX2_gather ({ frames := 2, cells := 0, slots := 0, locals := 42 } : Room)).room s m ([.ref (ad 0), .int p1, .int p2, .int p3, .int p4] : List Value).toArray below meth c H locs 0 0 (MQ below (zQi (dC, dI) (wL cI ad zk zm zb zs zr zu zt u_zf zg zbd zro zmc zmg zsp zjn) [(cI, .int)] A r) ([.ref (ad 0), .int p1, .int p2, .int p3, .int p4] : List Value).toArray s 0 0 A) (F0 m 9 ls []) := by
    intro n
    induction n with
    | zero => intro x7 x6 x5 zfl9 hm; cases hm
    | succ n ih_9 =>
      intro x7 x6 x5 zfl9 hm H locs hP hD hS ls hl
      refine lv_iload hx hb dX2_gather_9 (lv_at hl 0 rfl) ?_
      refine lv_iload_n hx hb dX2_gather_11 rfl (lv_at hl 4 rfl) ?_
      refine lv_icmp_ge (tgt := 102) hx hb dX2_gather_12 (by decide) (fun c_12 => ?_) (fun c_12 => ?_)
      · have hm := it_t hm c_12
        exact K_9 x6 x5 zfl9 (o2 hm) _ _ hP hD hS _ (lv_sub hl [1, 2, 3, 5] rfl)
      · have hm := it_f hm c_12
        refine lv_aload_n hx hb dX2_gather_15 rfl (lv_at hl 3 rfl) ?_
        refine va_get (D := (dC, dI)) (ci := 2) (v := .ref (ad 1)) (C := RX2) (T := TX2) (N := 15) hx hb hts ziX2 hown hK hP 0 rfl rfl 0 (by decide) zw0 (fun _ h9 => h9) rfl dX2_gather_16 ?_
        refine lv_iload hx hb dX2_gather_19 (lv_at hl 0 rfl) ?_
        obtain ⟨r21, h_21, hm⟩ := ob hm
        refine z_callRi (As := [.int x7]) (rest := []) (ci := 0) (q := (RX0, TX0, 2)) ⟨hx, hb, hml, hown, hts⟩ (c_X0_at l dC dI cI (ad 1) (ad 2) 256 zk F x7 r21 h_21) (cwV 1 hts gX2_gather_X0_at rfl rfl rfl kv_X0_at ⟨Nat.le_of_ble_eq_true rfl, Nat.le_of_ble_eq_true rfl⟩) hK (hP.sub (ws' := (wN cI (ad 1) (ad 2) 256 zk)) [1, 2] rfl) rfl rfl rfl rfl hl.1 rfl (Nat.le_of_ble_eq_true rfl) dX2_gather_21 ⟨Nat.zero_le _, Nat.zero_le _⟩ ?_
        refine lv_istore (lv' := [(8, .int r21), (7, .int x7), (6, .int x6), (5, .int x5), (0, .ref (ad 0)), (2, .int p2), (4, .int p4)]) hx hb dX2_gather_24 hl (by decide) rfl (fun ls hl => ?_)
        obtain ⟨z_26, hq_26, hm⟩ := ob hm
        have K_26 : ∀ (x6_3 : Int32), ∀ (zfx26 : zN), z_26 = (x6_3, zfx26) → ∀ (H : Heap) (locs : List Loc), va_P (dC, dI) vwCl (wL cI ad zk zm zb zs zr zu zt zfx26 zg zbd zro zmc zmg zsp zjn) H → va_D A (wL cI ad zk zm zb zs zr zu zt zfx26 zg zbd zro zmc zmg zsp zjn) → va_S A s.heap H locs → ∀ (ls : Array Slot), lv_has ls 9 [(8, .int r21), (7, .int x7), (6, .int x6_3), (5, .int x5), (0, .ref (ad 0)), (2, .int p2), (4, .int p4)] → W p l e (headSpec wsX2_gather ({ frames := 2, cells := 0, slots := 0, locals := 42 } : Room)).room s m ([.ref (ad 0), .int p1, .int p2, .int p3, .int p4] : List Value).toArray below meth c H locs 0 0 (MQ below (zQi (dC, dI) (wL cI ad zk zm zb zs zr zu zt u_zf zg zbd zro zmc zmg zsp zjn) [(cI, .int)] A r) ([.ref (ad 0), .int p1, .int p2, .int p3, .int p4] : List Value).toArray s 0 0 A) (F0 m 69 ls []) := by
          intro x6_3 zfx26 ez H locs hP hD hS ls hl
          rw [ez] at hm
          refine lv_aload_n hx hb dX2_gather_69 rfl (lv_at hl 4 rfl) ?_
          refine va_get (D := (dC, dI)) (ci := 2) (v := .ref (ad 3)) (C := RX2) (T := TX2) (N := 15) hx hb hts ziX2 hown hK hP 0 rfl rfl 1 (by decide) zw3 (fun _ h9 => h9) rfl dX2_gather_70 ?_
          refine lv_iload hx hb dX2_gather_73 (lv_at hl 1 rfl) ?_
          obtain ⟨r75, h_75, hm⟩ := ob hm
          refine z_callRi (As := [.int x7]) (rest := []) (ci := 0) (q := (RX0, TX0, 2)) ⟨hx, hb, hml, hown, hts⟩ (c_X0_at l dC dI cI (ad 3) (ad 4) 256 zm F x7 r75 h_75) (cwV 1 hts gX2_gather_X0_at rfl rfl rfl kv_X0_at ⟨Nat.le_of_ble_eq_true rfl, Nat.le_of_ble_eq_true rfl⟩) hK (hP.sub (ws' := (wN cI (ad 3) (ad 4) 256 zm)) [3, 4] rfl) rfl rfl rfl rfl hl.1 rfl (Nat.le_of_ble_eq_true rfl) dX2_gather_75 ⟨Nat.zero_le _, Nat.zero_le _⟩ ?_
          refine lv_if_ne (tgt := 93) hx hb dX2_gather_78 (by decide) (fun c_78 => ?_) (fun c_78 => ?_)
          · have hm := it_f hm c_78
            refine lv_iconst (v := 1) hx hb dX2_gather_93 (by decide) ?_
            refine lv_istore (lv' := [(5, .int 1), (8, .int r21), (7, .int x7), (6, .int x6_3), (0, .ref (ad 0)), (2, .int p2), (4, .int p4)]) hx hb dX2_gather_94 hl (by decide) rfl (fun ls hl => ?_)
            obtain ⟨x7_1, e_x7_1⟩ : ∃ y : Int32, y = x7 + 1 := ⟨_, rfl⟩
            have hm := bnd_e hm e_x7_1
            refine lv_iinc (v := x7_1) (lv' := [(7, .int x7_1), (5, .int 1), (8, .int r21), (6, .int x6_3), (0, .ref (ad 0)), (2, .int p2), (4, .int p4)]) hx hb dX2_gather_96 hl (k := 2) rfl (by rw [e_x7_1]; rfl) (by decide) rfl (fun ls hl => ?_)
            refine lv_goto (tgt := 9) hx hb dX2_gather_99 (by decide) ?_
            exact ih_9 x7_1 x6_3 1 zfx26 hm _ _ hP hD hS _ (lv_sub hl [0, 3, 1, 4, 5, 6] rfl)
          · have hm := it_t hm c_78
            refine lv_aload_n hx hb dX2_gather_81 rfl (lv_at hl 4 rfl) ?_
            refine va_get (D := (dC, dI)) (ci := 2) (v := .ref (ad 14)) (C := RX2) (T := TX2) (N := 15) hx hb hts ziX2 hown hK hP 0 rfl rfl 7 (by decide) zw2 (fun _ h9 => h9) rfl dX2_gather_82 ?_
            refine lv_iload hx hb dX2_gather_85 (lv_at hl 0 rfl) ?_
            obtain ⟨zf87, h_87, hm⟩ := ob hm
            refine z_callWv (wc := (wN cI (ad 14) (ad 15) 256 zfx26)) (w1 := (wN cI (ad 14) (ad 15) 256 zf87)) (ws := (wL cI ad zk zm zb zs zr zu zt zfx26 zg zbd zro zmc zmg zsp zjn)) (ws' := (wL cI ad zk zm zb zs zr zu zt zf87 zg zbd zro zmc zmg zsp zjn)) [14, 15] [0, 1, 2, 3, 4, 5, 6, 7, 8, 9, 10, 11, 12, 13, 16, 17] 18 (As := [.int r21]) (rest := []) (ci := 0) (q := (RX0, TX0, 2)) ⟨hx, hb, hml, hown, hts⟩ (c_X0_push l dC dI cI (ad 14) (ad 15) 256 zfx26 F r21 H.size zf87 h_87) (cwV 1 hts gX2_gather_X0_push rfl rfl rfl kv_X0_push ⟨Nat.le_of_ble_eq_true rfl, Nat.le_of_ble_eq_true rfl⟩) hK hP hD hS hA (hP.sub (ws' := (wN cI (ad 14) (ad 15) 256 zfx26)) [14, 15] rfl) (hD.sub (ws' := (wN cI (ad 14) (ad 15) 256 zfx26)) [14, 15] (by decide) rfl) rfl rfl (by decide) rfl rfl (by decide) rfl rfl rfl rfl rfl hl.1 rfl (Nat.le_of_ble_eq_true rfl) dX2_gather_87 ⟨Nat.zero_le _, Nat.zero_le _⟩ (fun H locs hP hD hS => ?_)
            refine lv_goto (tgt := 96) hx hb dX2_gather_90 (by decide) ?_
            obtain ⟨x7_2, e_x7_2⟩ : ∃ y : Int32, y = x7 + 1 := ⟨_, rfl⟩
            have hm := bnd_e hm e_x7_2
            refine lv_iinc (v := x7_2) (lv' := [(7, .int x7_2), (8, .int r21), (6, .int x6_3), (5, .int x5), (0, .ref (ad 0)), (2, .int p2), (4, .int p4)]) hx hb dX2_gather_96 hl (k := 1) rfl (by rw [e_x7_2]; rfl) (by decide) rfl (fun ls hl => ?_)
            refine lv_goto (tgt := 9) hx hb dX2_gather_99 (by decide) ?_
            exact ih_9 x7_2 x6_3 x5 zf87 hm _ _ hP hD hS _ (lv_sub hl [0, 2, 3, 4, 5, 6] rfl)
        have L_26 : ∀ (n : Nat) (x6_1 : Int32) (zfl26 : zN), X2_gather_L26 p4 zb F r21 n x6_1 zfl26 = some z_26 → ∀ (H : Heap) (locs : List Loc), va_P (dC, dI) vwCl (wL cI ad zk zm zb zs zr zu zt zfl26 zg zbd zro zmc zmg zsp zjn) H → va_D A (wL cI ad zk zm zb zs zr zu zt zfl26 zg zbd zro zmc zmg zsp zjn) → va_S A s.heap H locs → ∀ (ls : Array Slot), lv_has ls 9 [(8, .int r21), (7, .int x7), (6, .int x6_1), (5, .int x5), (0, .ref (ad 0)), (2, .int p2), (4, .int p4)] → W p l e (headSpec wsX2_gather ({ frames := 2, cells := 0, slots := 0, locals := 42 } : Room)).room s m ([.ref (ad 0), .int p1, .int p2, .int p3, .int p4] : List Value).toArray below meth c H locs 0 0 (MQ below (zQi (dC, dI) (wL cI ad zk zm zb zs zr zu zt u_zf zg zbd zro zmc zmg zsp zjn) [(cI, .int)] A r) ([.ref (ad 0), .int p1, .int p2, .int p3, .int p4] : List Value).toArray s 0 0 A) (F0 m 26 ls []) := by
          intro n
          induction n with
          | zero => intro x6_1 zfl26 hm; cases hm
          | succ n ih_26 =>
            intro x6_1 zfl26 hm H locs hP hD hS ls hl
            refine lv_iload hx hb dX2_gather_26 (lv_at hl 2 rfl) ?_
            refine lv_iload hx hb dX2_gather_28 (lv_at hl 6 rfl) ?_
            refine lv_icmp_ge (tgt := 69) hx hb dX2_gather_30 (by decide) (fun c_30 => ?_) (fun c_30 => ?_)
            · have hm := it_t hm c_30
              exact K_26 x6_1 zfl26 (o2 hm) _ _ hP hD hS _ (lv_sub hl [0, 1, 2, 3, 4, 5, 6] rfl)
            · have hm := it_f hm c_30
              refine lv_aload_n hx hb dX2_gather_33 rfl (lv_at hl 4 rfl) ?_
              refine va_get (D := (dC, dI)) (ci := 2) (v := .ref (ad 5)) (C := RX2) (T := TX2) (N := 15) hx hb hts ziX2 hown hK hP 0 rfl rfl 2 (by decide) zw1 (fun _ h9 => h9) rfl dX2_gather_34 ?_
              refine lv_iload hx hb dX2_gather_37 (lv_at hl 2 rfl) ?_
              obtain ⟨r39, h_39, hm⟩ := ob hm
              refine z_callRi (As := [.int x6_1]) (rest := []) (ci := 0) (q := (RX0, TX0, 2)) ⟨hx, hb, hml, hown, hts⟩ (c_X0_at l dC dI cI (ad 5) (ad 6) 16 zb F x6_1 r39 h_39) (cwV 1 hts gX2_gather_X0_at rfl rfl rfl kv_X0_at ⟨Nat.le_of_ble_eq_true rfl, Nat.le_of_ble_eq_true rfl⟩) hK (hP.sub (ws' := (wN cI (ad 5) (ad 6) 16 zb)) [5, 6] rfl) rfl rfl rfl rfl hl.1 rfl (Nat.le_of_ble_eq_true rfl) dX2_gather_39 ⟨Nat.zero_le _, Nat.zero_le _⟩ ?_
              refine lv_iload hx hb dX2_gather_42 (lv_at hl 0 rfl) ?_
              refine lv_icmp_ge (tgt := 69) hx hb dX2_gather_44 (by decide) (fun c_44 => ?_) (fun c_44 => ?_)
              · have hm := it_t hm c_44
                exact K_26 x6_1 zfl26 (o2 hm) _ _ hP hD hS _ (lv_sub hl [0, 1, 2, 3, 4, 5, 6] rfl)
              · have hm := it_f hm c_44
                refine lv_aload_n hx hb dX2_gather_47 rfl (lv_at hl 4 rfl) ?_
                refine va_get (D := (dC, dI)) (ci := 2) (v := .ref (ad 14)) (C := RX2) (T := TX2) (N := 15) hx hb hts ziX2 hown hK hP 0 rfl rfl 7 (by decide) zw2 (fun _ h9 => h9) rfl dX2_gather_48 ?_
                refine lv_aload_n hx hb dX2_gather_51 rfl (lv_at hl 4 rfl) ?_
                refine va_get (D := (dC, dI)) (ci := 2) (v := .ref (ad 5)) (C := RX2) (T := TX2) (N := 15) hx hb hts ziX2 hown hK hP 0 rfl rfl 2 (by decide) zw1 (fun _ h9 => h9) rfl dX2_gather_52 ?_
                refine lv_iload hx hb dX2_gather_55 (lv_at hl 2 rfl) ?_
                obtain ⟨r57, h_57, hm⟩ := ob hm
                refine z_callRi (As := [.int x6_1]) (rest := [.ref (ad 14)]) (ci := 0) (q := (RX0, TX0, 2)) ⟨hx, hb, hml, hown, hts⟩ (c_X0_at l dC dI cI (ad 5) (ad 6) 16 zb F x6_1 r57 h_57) (cwV 1 hts gX2_gather_X0_at rfl rfl rfl kv_X0_at ⟨Nat.le_of_ble_eq_true rfl, Nat.le_of_ble_eq_true rfl⟩) hK (hP.sub (ws' := (wN cI (ad 5) (ad 6) 16 zb)) [5, 6] rfl) rfl rfl rfl rfl hl.1 rfl (Nat.le_of_ble_eq_true rfl) dX2_gather_57 ⟨Nat.zero_le _, Nat.zero_le _⟩ ?_
                obtain ⟨zf60, h_60, hm⟩ := ob hm
                refine z_callWv (wc := (wN cI (ad 14) (ad 15) 256 zfl26)) (w1 := (wN cI (ad 14) (ad 15) 256 zf60)) (ws := (wL cI ad zk zm zb zs zr zu zt zfl26 zg zbd zro zmc zmg zsp zjn)) (ws' := (wL cI ad zk zm zb zs zr zu zt zf60 zg zbd zro zmc zmg zsp zjn)) [14, 15] [0, 1, 2, 3, 4, 5, 6, 7, 8, 9, 10, 11, 12, 13, 16, 17] 18 (As := [.int r57]) (rest := []) (ci := 0) (q := (RX0, TX0, 2)) ⟨hx, hb, hml, hown, hts⟩ (c_X0_push l dC dI cI (ad 14) (ad 15) 256 zfl26 F r57 H.size zf60 h_60) (cwV 1 hts gX2_gather_X0_push rfl rfl rfl kv_X0_push ⟨Nat.le_of_ble_eq_true rfl, Nat.le_of_ble_eq_true rfl⟩) hK hP hD hS hA (hP.sub (ws' := (wN cI (ad 14) (ad 15) 256 zfl26)) [14, 15] rfl) (hD.sub (ws' := (wN cI (ad 14) (ad 15) 256 zfl26)) [14, 15] (by decide) rfl) rfl rfl (by decide) rfl rfl (by decide) rfl rfl rfl rfl rfl hl.1 rfl (Nat.le_of_ble_eq_true rfl) dX2_gather_60 ⟨Nat.zero_le _, Nat.zero_le _⟩ (fun H locs hP hD hS => ?_)
                obtain ⟨x6_2, e_x6_2⟩ : ∃ y : Int32, y = x6_1 + 1 := ⟨_, rfl⟩
                have hm := bnd_e hm e_x6_2
                refine lv_iinc (v := x6_2) (lv' := [(6, .int x6_2), (8, .int r21), (7, .int x7), (5, .int x5), (0, .ref (ad 0)), (2, .int p2), (4, .int p4)]) hx hb dX2_gather_63 hl (k := 2) rfl (by rw [e_x6_2]; rfl) (by decide) rfl (fun ls hl => ?_)
                refine lv_goto (tgt := 26) hx hb dX2_gather_66 (by decide) ?_
                exact ih_26 x6_2 zf60 hm _ _ hP hD hS _ (lv_sub hl [1, 2, 0, 3, 4, 5, 6] rfl)
        exact L_26 F x6 zfl9 hq_26 _ _ hP hD hS _ (lv_sub hl [0, 1, 2, 3, 4, 5, 6] rfl)
  exact L_9 F p1 p3 0 zf hq_9 _ _ hP hD hS _ (lv_sub hl [0, 1, 2, 3, 5, 7] rfl)
set_option maxHeartbeats 4000000 in
set_option maxRecDepth 100000 in
theorem c_X2_cutFresh (l : Launch) (dC : Nat → ClassId) (dI : Nat → Nat → Nat) (cI : ClassId) (ad : Nat → Nat) (zk : zN) (zm : zN) (zb : zN) (zs : zN) (zr : zN) (zu : zN) (zt : zT) (zf : zN) (zg : zN) (zbd : Int32) (zro : Int32) (zmc : Int32) (zmg : Int32) (zsp : Int32) (zjn : Int32) (F : Nat) (p1 : Int32) (sz : Nat) (u_zt : zT) (u_zg : zN) (u_zsp : Int32) (hm : X2_cutFresh F zt zf zg zbd zsp p1 = some (u_zt, u_zg, u_zsp)) : Met l yX2_cutFresh wsX2_cutFresh ({ frames := 2, cells := 0, slots := 0, locals := 42 }) (va_Pc [.ref (ad 0), .int p1] (zW (dC, dI) (wL cI ad zk zm zb zs zr zu zt zf zg zbd zro zmc zmg zsp zjn) [(cI, .int)] sz)) (zQv (dC, dI) (wL cI ad zk zm zb zs zr zu u_zt zf u_zg zbd zro zmc zmg u_zsp zjn) [(cI, .int)] (va_A (wL cI ad zk zm zb zs zr zu zt zf zg zbd zro zmc zmg zsp zjn) sz)) 0 0 (va_A (wL cI ad zk zm zb zs zr zu zt zf zg zbd zro zmc zmg zsp zjn) sz) := by
  refine Met.ofW (cc := cX2_cutFresh) (maxL := 4) (ret := none) (by decide) rfl ?_
  intro p e s m args below meth c s₁ B hml hv
  obtain ⟨rfl, hsz, hP, hK, hD0⟩ := hv
  have hx := B.exec
  have hb := B.bytes
  have hr := B.returns
  have hts := atoms_spec (ws := wsX2_cutFresh) B.pre
  have hown : s.vm.findClass RX2 = some m.cls := findClass_of_methodNamed B.named
  have hlocks := B.notSynchronized
  subst hsz
  have hD := hD0.self (sz := s.heap.size)
  generalize hAe : va_A (wL cI ad zk zm zb zs zr zu zt zf zg zbd zro zmc zmg zsp zjn) s.heap.size = A at hD ⊢
  have hA : ∀ q : Nat, s.heap.size ≤ q → A q := fun q h => by rw [← hAe]; exact Or.inr h
  have hS : va_S A s.heap s.heap [] := va_S.rf
  generalize eL : ([] : List Loc) = locs at hS ⊢
  obtain ⟨H, eH⟩ : ∃ z : Heap, z = s.heap := ⟨_, rfl⟩
  have hP : va_P (dC, dI) vwCl (wL cI ad zk zm zb zs zr zu zt zf zg zbd zro zmc zmg zsp zjn) H := by rw [eH]; exact hP
  have hS : va_S A s.heap H locs := by rw [eH]; exact hS
  refine z_heap eH ?_
  have hl := lv_entry ([.ref (ad 0), .int p1]) (n := 4) (Nat.le_of_ble_eq_true rfl)
  rw [lg_entry_eq]
  generalize (lg_sl ([.ref (ad 0), .int p1]) ++ List.replicate (4 - (lg_sl ([.ref (ad 0), .int p1])).length) Slot.unset).toArray = ls at hl ⊢
  have hl : lv_has ls 4 [(0, .ref (ad 0)), (1, .int p1)] := hl
  have zw0 := hts (.fieldLink RX2 40 "LearnedLedge" "freshKeys" "LLearnedLedge$Numbers;") (by decide +kernel)
  have zw1 := hts (.fieldLink RX2 36 "LearnedLedge" "tail" "LLearnedLedge$SlopeRange;") (by decide +kernel)
  have zw2 := hts (.fieldLink RX2 46 "LearnedLedge" "bound" "I") (by decide +kernel)
  have zw3 := hts (.fieldLink RX2 43 "LearnedLedge" "freshStarts" "LLearnedLedge$Numbers;") (by decide +kernel)
  have zw4 := hts (.fieldLink RX2 59 "LearnedLedge" "splitCount" "I") (by decide +kernel)
  have ziX2 : ∀ w ∈ u_ws RX2 TX2 15, w ∈ wsX2_cutFresh := by decide +kernel
  refine lv_iload_n hx hb dX2_cutFresh_0 rfl (lv_at hl 1 rfl) ?_
  refine lv_istore_n (lv' := [(2, .int p1), (0, .ref (ad 0)), (1, .int p1)]) hx hb dX2_cutFresh_1 rfl hl (by decide) rfl (fun ls hl => ?_)
  obtain ⟨z_2, hq_2, hm⟩ := ob hm
  have K_2 : ∀ (ztx2 : zT), ∀ (zgx2 : zN), ∀ (zspx2 : Int32), z_2 = (ztx2, zgx2, zspx2) → ∀ (H : Heap) (locs : List Loc), va_P (dC, dI) vwCl (wL cI ad zk zm zb zs zr zu ztx2 zf zgx2 zbd zro zmc zmg zspx2 zjn) H → va_D A (wL cI ad zk zm zb zs zr zu ztx2 zf zgx2 zbd zro zmc zmg zspx2 zjn) → va_S A s.heap H locs → ∀ (ls : Array Slot), lv_has ls 4 [] → W p l e (headSpec wsX2_cutFresh ({ frames := 2, cells := 0, slots := 0, locals := 42 } : Room)).room s m ([.ref (ad 0), .int p1] : List Value).toArray below meth c H locs 0 0 (MQ below (zQv (dC, dI) (wL cI ad zk zm zb zs zr zu u_zt zf u_zg zbd zro zmc zmg u_zsp zjn) [(cI, .int)] A) ([.ref (ad 0), .int p1] : List Value).toArray s 0 0 A) (F0 m 85 ls []) := by
    intro ztx2 zgx2 zspx2 ez H locs hP hD hS ls hl
    rw [ez] at hm
    cases o2 hm
    exact W.vret hx hb hr (fun t ht hW => ⟨⟨(), rfl, trivial, by rw [ht]; exact hP, va_K.moved hW.alike hK, hD⟩, hS.F ht⟩) hS.2.2 dX2_cutFresh_85
  have L_2 : ∀ (n : Nat) (x2 : Int32) (ztl2 : zT) (zgl2 : zN) (zspl2 : Int32), X2_cutFresh_L2 p1 zf zbd F n x2 ztl2 zgl2 zspl2 = some z_2 → ∀ (H : Heap) (locs : List Loc), va_P (dC, dI) vwCl (wL cI ad zk zm zb zs zr zu ztl2 zf zgl2 zbd zro zmc zmg zspl2 zjn) H → va_D A (wL cI ad zk zm zb zs zr zu ztl2 zf zgl2 zbd zro zmc zmg zspl2 zjn) → va_S A s.heap H locs → ∀ (ls : Array Slot), lv_has ls 4 [(2, .int x2), (0, .ref (ad 0)), (1, .int p1)] → W p l e (headSpec wsX2_cutFresh ({ frames := 2, cells := 0, slots := 0, locals := 42 } : Room)).room s m ([.ref (ad 0), .int p1] : List Value).toArray below meth c H locs 0 0 (MQ below (zQv (dC, dI) (wL cI ad zk zm zb zs zr zu u_zt zf u_zg zbd zro zmc zmg u_zsp zjn) [(cI, .int)] A) ([.ref (ad 0), .int p1] : List Value).toArray s 0 0 A) (F0 m 2 ls []) := by
    intro n
    induction n with
    | zero => intro x2 ztl2 zgl2 zspl2 hm; cases hm
    | succ n ih_2 =>
      intro x2 ztl2 zgl2 zspl2 hm H locs hP hD hS ls hl
      refine lv_iload_n hx hb dX2_cutFresh_2 rfl (lv_at hl 0 rfl) ?_
      refine lv_aload_n hx hb dX2_cutFresh_3 rfl (lv_at hl 1 rfl) ?_
      refine va_get (D := (dC, dI)) (ci := 2) (v := .ref (ad 14)) (C := RX2) (T := TX2) (N := 15) hx hb hts ziX2 hown hK hP 0 rfl rfl 7 (by decide) zw0 (fun _ h9 => h9) rfl dX2_cutFresh_4 ?_
      obtain ⟨r7, h_7, hm⟩ := ob hm
      refine z_callRi (As := []) (rest := [.int x2]) (ci := 0) (q := (RX0, TX0, 2)) ⟨hx, hb, hml, hown, hts⟩ (c_X0_length l dC dI cI (ad 14) (ad 15) 256 zf F r7 h_7) (cwV 0 hts gX2_cutFresh_X0_length rfl rfl rfl kv_X0_length ⟨Nat.le_of_ble_eq_true rfl, Nat.le_of_ble_eq_true rfl⟩) hK (hP.sub (ws' := (wN cI (ad 14) (ad 15) 256 zf)) [14, 15] rfl) rfl rfl rfl rfl hl.1 rfl (Nat.le_of_ble_eq_true rfl) dX2_cutFresh_7 ⟨Nat.zero_le _, Nat.zero_le _⟩ ?_
      refine lv_icmp_ge (tgt := 85) hx hb dX2_cutFresh_10 (by decide) (fun c_10 => ?_) (fun c_10 => ?_)
      · have hm := it_t hm c_10
        exact K_2 ztl2 zgl2 zspl2 (o2 hm) _ _ hP hD hS _ (lv_sub hl [] rfl)
      · have hm := it_f hm c_10
        refine lv_aload_n hx hb dX2_cutFresh_13 rfl (lv_at hl 1 rfl) ?_
        refine va_get (D := (dC, dI)) (ci := 2) (v := .ref (ad 14)) (C := RX2) (T := TX2) (N := 15) hx hb hts ziX2 hown hK hP 0 rfl rfl 7 (by decide) zw0 (fun _ h9 => h9) rfl dX2_cutFresh_14 ?_
        refine lv_iload_n hx hb dX2_cutFresh_17 rfl (lv_at hl 0 rfl) ?_
        obtain ⟨r18, h_18, hm⟩ := ob hm
        refine z_callRi (As := [.int x2]) (rest := []) (ci := 0) (q := (RX0, TX0, 2)) ⟨hx, hb, hml, hown, hts⟩ (c_X0_at l dC dI cI (ad 14) (ad 15) 256 zf F x2 r18 h_18) (cwV 1 hts gX2_cutFresh_X0_at rfl rfl rfl kv_X0_at ⟨Nat.le_of_ble_eq_true rfl, Nat.le_of_ble_eq_true rfl⟩) hK (hP.sub (ws' := (wN cI (ad 14) (ad 15) 256 zf)) [14, 15] rfl) rfl rfl rfl rfl hl.1 rfl (Nat.le_of_ble_eq_true rfl) dX2_cutFresh_18 ⟨Nat.zero_le _, Nat.zero_le _⟩ ?_
        refine lv_istore_n (lv' := [(3, .int r18), (2, .int x2), (0, .ref (ad 0)), (1, .int p1)]) hx hb dX2_cutFresh_21 rfl hl (by decide) rfl (fun ls hl => ?_)
        refine lv_iload_n hx hb dX2_cutFresh_22 rfl (lv_at hl 1 rfl) ?_
        refine lv_iload_n hx hb dX2_cutFresh_23 rfl (lv_at hl 3 rfl) ?_
        refine lv_icmp_eq (tgt := 39) hx hb dX2_cutFresh_24 (by decide) (fun c_24 => ?_) (fun c_24 => ?_)
        · have hm := it_t hm c_24
          refine lv_aload_n hx hb dX2_cutFresh_39 rfl (lv_at hl 2 rfl) ?_
          refine va_get (D := (dC, dI)) (ci := 2) (v := .ref (ad 13)) (C := RX2) (T := TX2) (N := 15) hx hb hts ziX2 hown hK hP 0 rfl rfl 6 (by decide) zw1 (fun _ h9 => h9) rfl dX2_cutFresh_40 ?_
          refine lv_iload_n hx hb dX2_cutFresh_43 rfl (lv_at hl 0 rfl) ?_
          refine lv_iload_n hx hb dX2_cutFresh_44 rfl (lv_at hl 1 rfl) ?_
          refine lv_aload_n hx hb dX2_cutFresh_45 rfl (lv_at hl 2 rfl) ?_
          refine va_get (D := (dC, dI)) (ci := 2) (v := .int zbd) (C := RX2) (T := TX2) (N := 15) hx hb hts ziX2 hown hK hP 0 rfl rfl 9 (by decide) zw2 (fun _ h9 => h9) rfl dX2_cutFresh_46 ?_
          obtain ⟨zt49, h_49, hm⟩ := ob hm
          refine z_callWv (wc := (wT (ad 13) ztl2)) (w1 := (wT (ad 13) zt49)) (ws := (wL cI ad zk zm zb zs zr zu ztl2 zf zgl2 zbd zro zmc zmg zspl2 zjn)) (ws' := (wL cI ad zk zm zb zs zr zu zt49 zf zgl2 zbd zro zmc zmg zspl2 zjn)) [13] [0, 1, 2, 3, 4, 5, 6, 7, 8, 9, 10, 11, 12, 14, 15, 16, 17] 18 (As := [.int r18, .int x2, .int zbd]) (rest := []) (ci := 1) (q := (RX1, TX1, 7)) ⟨hx, hb, hml, hown, hts⟩ (c_X1_begin l dC dI (ad 13) ztl2 F r18 x2 zbd H.size zt49 h_49) (cwV 3 hts gX2_cutFresh_X1_begin rfl rfl rfl kv_X1_begin ⟨Nat.le_of_ble_eq_true rfl, Nat.le_of_ble_eq_true rfl⟩) (hK.sub (tys' := []) [] rfl) hP hD hS hA (hP.sub (ws' := (wT (ad 13) ztl2)) [13] rfl) (hD.sub (ws' := (wT (ad 13) ztl2)) [13] (by decide) rfl) rfl rfl (by decide) rfl rfl (by decide) rfl rfl rfl rfl rfl hl.1 rfl (Nat.le_of_ble_eq_true rfl) dX2_cutFresh_49 ⟨Nat.zero_le _, Nat.zero_le _⟩ (fun H locs hP hD hS => ?_)
          refine lv_aload_n hx hb dX2_cutFresh_52 rfl (lv_at hl 2 rfl) ?_
          refine va_get (D := (dC, dI)) (ci := 2) (v := .ref (ad 16)) (C := RX2) (T := TX2) (N := 15) hx hb hts ziX2 hown hK hP 0 rfl rfl 8 (by decide) zw3 (fun _ h9 => h9) rfl dX2_cutFresh_53 ?_
          refine lv_iload_n hx hb dX2_cutFresh_56 rfl (lv_at hl 1 rfl) ?_
          obtain ⟨zg57, h_57, hm⟩ := ob hm
          refine z_callWv (wc := (wN cI (ad 16) (ad 17) 256 zgl2)) (w1 := (wN cI (ad 16) (ad 17) 256 zg57)) (ws := (wL cI ad zk zm zb zs zr zu zt49 zf zgl2 zbd zro zmc zmg zspl2 zjn)) (ws' := (wL cI ad zk zm zb zs zr zu zt49 zf zg57 zbd zro zmc zmg zspl2 zjn)) [16, 17] [0, 1, 2, 3, 4, 5, 6, 7, 8, 9, 10, 11, 12, 13, 14, 15] 18 (As := [.int x2]) (rest := []) (ci := 0) (q := (RX0, TX0, 2)) ⟨hx, hb, hml, hown, hts⟩ (c_X0_push l dC dI cI (ad 16) (ad 17) 256 zgl2 F x2 H.size zg57 h_57) (cwV 1 hts gX2_cutFresh_X0_push rfl rfl rfl kv_X0_push ⟨Nat.le_of_ble_eq_true rfl, Nat.le_of_ble_eq_true rfl⟩) hK hP hD hS hA (hP.sub (ws' := (wN cI (ad 16) (ad 17) 256 zgl2)) [16, 17] rfl) (hD.sub (ws' := (wN cI (ad 16) (ad 17) 256 zgl2)) [16, 17] (by decide) rfl) rfl rfl (by decide) rfl rfl (by decide) rfl rfl rfl rfl rfl hl.1 rfl (Nat.le_of_ble_eq_true rfl) dX2_cutFresh_57 ⟨Nat.zero_le _, Nat.zero_le _⟩ (fun H locs hP hD hS => ?_)
          refine lv_aload_n hx hb dX2_cutFresh_60 rfl (lv_at hl 2 rfl) ?_
          refine lv_dup hx hb dX2_cutFresh_61 rfl ?_
          refine va_get (D := (dC, dI)) (ci := 2) (v := .int zspl2) (C := RX2) (T := TX2) (N := 15) hx hb hts ziX2 hown hK hP 0 rfl rfl 13 (by decide) zw4 (fun _ h9 => h9) rfl dX2_cutFresh_62 ?_
          refine lv_iload_n hx hb dX2_cutFresh_65 rfl (lv_at hl 1 rfl) ?_
          refine lv_iload_n hx hb dX2_cutFresh_66 rfl (lv_at hl 3 rfl) ?_
          refine lv_icmp_ne (tgt := 74) hx hb dX2_cutFresh_67 (by decide) (fun c_67 => ?_) (fun c_67 => ?_)
          · have hm := it_f hm c_67
            refine lv_iconst (v := 1) hx hb dX2_cutFresh_74 (by decide) ?_
            refine lv_iadd hx hb dX2_cutFresh_75 ?_
            refine va_put (D := (dC, dI)) (ci := 2) (v := .int (zspl2 + 1)) (ty := .int) (C := RX2) (T := TX2) (N := 15) hx hb hts ziX2 tyX2 tyX2_ok nmX2 hown hK hP hD hS 0 rfl rfl 13 (by decide) zw4 (fun _ h9 => h9) rfl (by decide +kernel) rfl rfl (Nat.le_of_ble_eq_true rfl) dX2_cutFresh_76 (fun H locs hP hD hS => ?_)
            have hP : va_P (dC, dI) vwCl (wL cI ad zk zm zb zs zr zu zt49 zf zg57 zbd zro zmc zmg (zspl2 + 1) zjn) H := hP
            have hD : va_D A (wL cI ad zk zm zb zs zr zu zt49 zf zg57 zbd zro zmc zmg (zspl2 + 1) zjn) := hD
            obtain ⟨x2_1, e_x2_1⟩ : ∃ y : Int32, y = x2 + 1 := ⟨_, rfl⟩
            have hm := bnd_e hm e_x2_1
            refine lv_iinc (v := x2_1) (lv' := [(2, .int x2_1), (3, .int r18), (0, .ref (ad 0)), (1, .int p1)]) hx hb dX2_cutFresh_79 hl (k := 1) rfl (by rw [e_x2_1]; rfl) (by decide) rfl (fun ls hl => ?_)
            refine lv_goto (tgt := 2) hx hb dX2_cutFresh_82 (by decide) ?_
            exact ih_2 x2_1 zt49 zg57 (zspl2 + 1) hm _ _ hP hD hS _ (lv_sub hl [0, 2, 3] rfl)
          · have hm := it_t hm c_67
            refine lv_iconst (v := 0) hx hb dX2_cutFresh_70 (by decide) ?_
            refine lv_goto (tgt := 75) hx hb dX2_cutFresh_71 (by decide) ?_
            refine lv_iadd hx hb dX2_cutFresh_75 ?_
            refine va_put (D := (dC, dI)) (ci := 2) (v := .int (zspl2 + 0)) (ty := .int) (C := RX2) (T := TX2) (N := 15) hx hb hts ziX2 tyX2 tyX2_ok nmX2 hown hK hP hD hS 0 rfl rfl 13 (by decide) zw4 (fun _ h9 => h9) rfl (by decide +kernel) rfl rfl (Nat.le_of_ble_eq_true rfl) dX2_cutFresh_76 (fun H locs hP hD hS => ?_)
            have hP : va_P (dC, dI) vwCl (wL cI ad zk zm zb zs zr zu zt49 zf zg57 zbd zro zmc zmg (zspl2 + 0) zjn) H := hP
            have hD : va_D A (wL cI ad zk zm zb zs zr zu zt49 zf zg57 zbd zro zmc zmg (zspl2 + 0) zjn) := hD
            obtain ⟨x2_2, e_x2_2⟩ : ∃ y : Int32, y = x2 + 1 := ⟨_, rfl⟩
            have hm := bnd_e hm e_x2_2
            refine lv_iinc (v := x2_2) (lv' := [(2, .int x2_2), (3, .int r18), (0, .ref (ad 0)), (1, .int p1)]) hx hb dX2_cutFresh_79 hl (k := 1) rfl (by rw [e_x2_2]; rfl) (by decide) rfl (fun ls hl => ?_)
            refine lv_goto (tgt := 2) hx hb dX2_cutFresh_82 (by decide) ?_
            exact ih_2 x2_2 zt49 zg57 (zspl2 + 0) hm _ _ hP hD hS _ (lv_sub hl [0, 2, 3] rfl)
        · have hm := it_f hm c_24
          refine lv_aload_n hx hb dX2_cutFresh_27 rfl (lv_at hl 2 rfl) ?_
          refine va_get (D := (dC, dI)) (ci := 2) (v := .ref (ad 13)) (C := RX2) (T := TX2) (N := 15) hx hb hts ziX2 hown hK hP 0 rfl rfl 6 (by decide) zw1 (fun _ h9 => h9) rfl dX2_cutFresh_28 ?_
          refine lv_iload_n hx hb dX2_cutFresh_31 rfl (lv_at hl 0 rfl) ?_
          refine lv_iload_n hx hb dX2_cutFresh_32 rfl (lv_at hl 1 rfl) ?_
          obtain ⟨⟨r33, zt33⟩, h_33, hm⟩ := ob hm
          refine z_callWi (wc := (wT (ad 13) ztl2)) (w1 := (wT (ad 13) zt33)) (ws := (wL cI ad zk zm zb zs zr zu ztl2 zf zgl2 zbd zro zmc zmg zspl2 zjn)) (ws' := (wL cI ad zk zm zb zs zr zu zt33 zf zgl2 zbd zro zmc zmg zspl2 zjn)) [13] [0, 1, 2, 3, 4, 5, 6, 7, 8, 9, 10, 11, 12, 14, 15, 16, 17] 18 (As := [.int r18, .int x2]) (rest := []) (ci := 1) (q := (RX1, TX1, 7)) ⟨hx, hb, hml, hown, hts⟩ (c_X1_take l dC dI (ad 13) ztl2 F r18 x2 H.size r33 zt33 h_33) (cwV 2 hts gX2_cutFresh_X1_take rfl rfl rfl kv_X1_take ⟨Nat.le_of_ble_eq_true rfl, Nat.le_of_ble_eq_true rfl⟩) (hK.sub (tys' := []) [] rfl) hP hD hS hA (hP.sub (ws' := (wT (ad 13) ztl2)) [13] rfl) (hD.sub (ws' := (wT (ad 13) ztl2)) [13] (by decide) rfl) rfl rfl (by decide) rfl rfl (by decide) rfl rfl rfl rfl rfl hl.1 rfl (Nat.le_of_ble_eq_true rfl) dX2_cutFresh_33 ⟨Nat.zero_le _, Nat.zero_le _⟩ (fun H locs hP hD hS => ?_)
          refine lv_if_ne (tgt := 79) hx hb dX2_cutFresh_36 (by decide) (fun c_36 => ?_) (fun c_36 => ?_)
          · have hm := it_f hm c_36
            obtain ⟨x2_3, e_x2_3⟩ : ∃ y : Int32, y = x2 + 1 := ⟨_, rfl⟩
            have hm := bnd_e hm e_x2_3
            refine lv_iinc (v := x2_3) (lv' := [(2, .int x2_3), (3, .int r18), (0, .ref (ad 0)), (1, .int p1)]) hx hb dX2_cutFresh_79 hl (k := 1) rfl (by rw [e_x2_3]; rfl) (by decide) rfl (fun ls hl => ?_)
            refine lv_goto (tgt := 2) hx hb dX2_cutFresh_82 (by decide) ?_
            exact ih_2 x2_3 zt33 zgl2 zspl2 hm _ _ hP hD hS _ (lv_sub hl [0, 2, 3] rfl)
          · have hm := it_t hm c_36
            refine lv_aload_n hx hb dX2_cutFresh_39 rfl (lv_at hl 2 rfl) ?_
            refine va_get (D := (dC, dI)) (ci := 2) (v := .ref (ad 13)) (C := RX2) (T := TX2) (N := 15) hx hb hts ziX2 hown hK hP 0 rfl rfl 6 (by decide) zw1 (fun _ h9 => h9) rfl dX2_cutFresh_40 ?_
            refine lv_iload_n hx hb dX2_cutFresh_43 rfl (lv_at hl 0 rfl) ?_
            refine lv_iload_n hx hb dX2_cutFresh_44 rfl (lv_at hl 1 rfl) ?_
            refine lv_aload_n hx hb dX2_cutFresh_45 rfl (lv_at hl 2 rfl) ?_
            refine va_get (D := (dC, dI)) (ci := 2) (v := .int zbd) (C := RX2) (T := TX2) (N := 15) hx hb hts ziX2 hown hK hP 0 rfl rfl 9 (by decide) zw2 (fun _ h9 => h9) rfl dX2_cutFresh_46 ?_
            obtain ⟨zt49_1, h_49, hm⟩ := ob hm
            refine z_callWv (wc := (wT (ad 13) zt33)) (w1 := (wT (ad 13) zt49_1)) (ws := (wL cI ad zk zm zb zs zr zu zt33 zf zgl2 zbd zro zmc zmg zspl2 zjn)) (ws' := (wL cI ad zk zm zb zs zr zu zt49_1 zf zgl2 zbd zro zmc zmg zspl2 zjn)) [13] [0, 1, 2, 3, 4, 5, 6, 7, 8, 9, 10, 11, 12, 14, 15, 16, 17] 18 (As := [.int r18, .int x2, .int zbd]) (rest := []) (ci := 1) (q := (RX1, TX1, 7)) ⟨hx, hb, hml, hown, hts⟩ (c_X1_begin l dC dI (ad 13) zt33 F r18 x2 zbd H.size zt49_1 h_49) (cwV 3 hts gX2_cutFresh_X1_begin rfl rfl rfl kv_X1_begin ⟨Nat.le_of_ble_eq_true rfl, Nat.le_of_ble_eq_true rfl⟩) (hK.sub (tys' := []) [] rfl) hP hD hS hA (hP.sub (ws' := (wT (ad 13) zt33)) [13] rfl) (hD.sub (ws' := (wT (ad 13) zt33)) [13] (by decide) rfl) rfl rfl (by decide) rfl rfl (by decide) rfl rfl rfl rfl rfl hl.1 rfl (Nat.le_of_ble_eq_true rfl) dX2_cutFresh_49 ⟨Nat.zero_le _, Nat.zero_le _⟩ (fun H locs hP hD hS => ?_)
            refine lv_aload_n hx hb dX2_cutFresh_52 rfl (lv_at hl 2 rfl) ?_
            refine va_get (D := (dC, dI)) (ci := 2) (v := .ref (ad 16)) (C := RX2) (T := TX2) (N := 15) hx hb hts ziX2 hown hK hP 0 rfl rfl 8 (by decide) zw3 (fun _ h9 => h9) rfl dX2_cutFresh_53 ?_
            refine lv_iload_n hx hb dX2_cutFresh_56 rfl (lv_at hl 1 rfl) ?_
            obtain ⟨zg57_1, h_57, hm⟩ := ob hm
            refine z_callWv (wc := (wN cI (ad 16) (ad 17) 256 zgl2)) (w1 := (wN cI (ad 16) (ad 17) 256 zg57_1)) (ws := (wL cI ad zk zm zb zs zr zu zt49_1 zf zgl2 zbd zro zmc zmg zspl2 zjn)) (ws' := (wL cI ad zk zm zb zs zr zu zt49_1 zf zg57_1 zbd zro zmc zmg zspl2 zjn)) [16, 17] [0, 1, 2, 3, 4, 5, 6, 7, 8, 9, 10, 11, 12, 13, 14, 15] 18 (As := [.int x2]) (rest := []) (ci := 0) (q := (RX0, TX0, 2)) ⟨hx, hb, hml, hown, hts⟩ (c_X0_push l dC dI cI (ad 16) (ad 17) 256 zgl2 F x2 H.size zg57_1 h_57) (cwV 1 hts gX2_cutFresh_X0_push rfl rfl rfl kv_X0_push ⟨Nat.le_of_ble_eq_true rfl, Nat.le_of_ble_eq_true rfl⟩) hK hP hD hS hA (hP.sub (ws' := (wN cI (ad 16) (ad 17) 256 zgl2)) [16, 17] rfl) (hD.sub (ws' := (wN cI (ad 16) (ad 17) 256 zgl2)) [16, 17] (by decide) rfl) rfl rfl (by decide) rfl rfl (by decide) rfl rfl rfl rfl rfl hl.1 rfl (Nat.le_of_ble_eq_true rfl) dX2_cutFresh_57 ⟨Nat.zero_le _, Nat.zero_le _⟩ (fun H locs hP hD hS => ?_)
            refine lv_aload_n hx hb dX2_cutFresh_60 rfl (lv_at hl 2 rfl) ?_
            refine lv_dup hx hb dX2_cutFresh_61 rfl ?_
            refine va_get (D := (dC, dI)) (ci := 2) (v := .int zspl2) (C := RX2) (T := TX2) (N := 15) hx hb hts ziX2 hown hK hP 0 rfl rfl 13 (by decide) zw4 (fun _ h9 => h9) rfl dX2_cutFresh_62 ?_
            refine lv_iload_n hx hb dX2_cutFresh_65 rfl (lv_at hl 1 rfl) ?_
            refine lv_iload_n hx hb dX2_cutFresh_66 rfl (lv_at hl 3 rfl) ?_
            refine lv_icmp_ne (tgt := 74) hx hb dX2_cutFresh_67 (by decide) (fun c_67 => ?_) (fun c_67 => ?_)
            · have hm := it_f hm c_67
              refine lv_iconst (v := 1) hx hb dX2_cutFresh_74 (by decide) ?_
              refine lv_iadd hx hb dX2_cutFresh_75 ?_
              refine va_put (D := (dC, dI)) (ci := 2) (v := .int (zspl2 + 1)) (ty := .int) (C := RX2) (T := TX2) (N := 15) hx hb hts ziX2 tyX2 tyX2_ok nmX2 hown hK hP hD hS 0 rfl rfl 13 (by decide) zw4 (fun _ h9 => h9) rfl (by decide +kernel) rfl rfl (Nat.le_of_ble_eq_true rfl) dX2_cutFresh_76 (fun H locs hP hD hS => ?_)
              have hP : va_P (dC, dI) vwCl (wL cI ad zk zm zb zs zr zu zt49_1 zf zg57_1 zbd zro zmc zmg (zspl2 + 1) zjn) H := hP
              have hD : va_D A (wL cI ad zk zm zb zs zr zu zt49_1 zf zg57_1 zbd zro zmc zmg (zspl2 + 1) zjn) := hD
              obtain ⟨x2_4, e_x2_4⟩ : ∃ y : Int32, y = x2 + 1 := ⟨_, rfl⟩
              have hm := bnd_e hm e_x2_4
              refine lv_iinc (v := x2_4) (lv' := [(2, .int x2_4), (3, .int r18), (0, .ref (ad 0)), (1, .int p1)]) hx hb dX2_cutFresh_79 hl (k := 1) rfl (by rw [e_x2_4]; rfl) (by decide) rfl (fun ls hl => ?_)
              refine lv_goto (tgt := 2) hx hb dX2_cutFresh_82 (by decide) ?_
              exact ih_2 x2_4 zt49_1 zg57_1 (zspl2 + 1) hm _ _ hP hD hS _ (lv_sub hl [0, 2, 3] rfl)
            · have hm := it_t hm c_67
              refine lv_iconst (v := 0) hx hb dX2_cutFresh_70 (by decide) ?_
              refine lv_goto (tgt := 75) hx hb dX2_cutFresh_71 (by decide) ?_
              refine lv_iadd hx hb dX2_cutFresh_75 ?_
              refine va_put (D := (dC, dI)) (ci := 2) (v := .int (zspl2 + 0)) (ty := .int) (C := RX2) (T := TX2) (N := 15) hx hb hts ziX2 tyX2 tyX2_ok nmX2 hown hK hP hD hS 0 rfl rfl 13 (by decide) zw4 (fun _ h9 => h9) rfl (by decide +kernel) rfl rfl (Nat.le_of_ble_eq_true rfl) dX2_cutFresh_76 (fun H locs hP hD hS => ?_)
              have hP : va_P (dC, dI) vwCl (wL cI ad zk zm zb zs zr zu zt49_1 zf zg57_1 zbd zro zmc zmg (zspl2 + 0) zjn) H := hP
              have hD : va_D A (wL cI ad zk zm zb zs zr zu zt49_1 zf zg57_1 zbd zro zmc zmg (zspl2 + 0) zjn) := hD
              obtain ⟨x2_5, e_x2_5⟩ : ∃ y : Int32, y = x2 + 1 := ⟨_, rfl⟩
              have hm := bnd_e hm e_x2_5
              refine lv_iinc (v := x2_5) (lv' := [(2, .int x2_5), (3, .int r18), (0, .ref (ad 0)), (1, .int p1)]) hx hb dX2_cutFresh_79 hl (k := 1) rfl (by rw [e_x2_5]; rfl) (by decide) rfl (fun ls hl => ?_)
              refine lv_goto (tgt := 2) hx hb dX2_cutFresh_82 (by decide) ?_
              exact ih_2 x2_5 zt49_1 zg57_1 (zspl2 + 0) hm _ _ hP hD hS _ (lv_sub hl [0, 2, 3] rfl)
  exact L_2 F p1 zt zg zsp hq_2 _ _ hP hD hS _ (lv_sub hl [0, 1, 2] rfl)
set_option maxHeartbeats 4000000 in
set_option maxRecDepth 100000 in
theorem c_X2_firstOf (l : Launch) (dC : Nat → ClassId) (dI : Nat → Nat → Nat) (cI : ClassId) (ad : Nat → Nat) (zk : zN) (zm : zN) (zb : zN) (zs : zN) (zr : zN) (zu : zN) (zt : zT) (zf : zN) (zg : zN) (zbd : Int32) (zro : Int32) (zmc : Int32) (zmg : Int32) (zsp : Int32) (zjn : Int32) (F : Nat) (p1 : Int32) (r : Int32) (hm : X2_firstOf F zk zs p1 = some r) : Met l yX2_firstOf wsX2_firstOf ({ frames := 2, cells := 0, slots := 0, locals := 42 }) (va_Pc [.ref (ad 0), .int p1] (zR (dC, dI) (wL cI ad zk zm zb zs zr zu zt zf zg zbd zro zmc zmg zsp zjn) [(cI, .int)])) (vp_Si (fun v => v = r)) 0 0 (fun _ => False) := by
  refine Met.ofW (cc := cX2_firstOf) (maxL := 2) (ret := (some .int)) (by decide) rfl ?_
  intro p e s m args below meth c s₁ B hml hv
  obtain ⟨rfl, hP, hK⟩ := hv
  have hx := B.exec
  have hb := B.bytes
  have hr := B.returns
  have hts := atoms_spec (ws := wsX2_firstOf) B.pre
  have hown : s.vm.findClass RX2 = some m.cls := findClass_of_methodNamed B.named
  have hlocks := B.notSynchronized
  have hl := lv_entry ([.ref (ad 0), .int p1]) (n := 2) (Nat.le_of_ble_eq_true rfl)
  rw [lg_entry_eq]
  generalize (lg_sl ([.ref (ad 0), .int p1]) ++ List.replicate (2 - (lg_sl ([.ref (ad 0), .int p1])).length) Slot.unset).toArray = ls at hl ⊢
  have hl : lv_has ls 2 [(0, .ref (ad 0)), (1, .int p1)] := hl
  have zw0 := hts (.fieldLink RX2 14 "LearnedLedge" "keys" "LLearnedLedge$Numbers;") (by decide +kernel)
  have zw1 := hts (.fieldLink RX2 24 "LearnedLedge" "starts" "LLearnedLedge$Numbers;") (by decide +kernel)
  have ziX2 : ∀ w ∈ u_ws RX2 TX2 15, w ∈ wsX2_firstOf := by decide +kernel
  refine lv_aload_n hx hb dX2_firstOf_0 rfl (lv_at hl 0 rfl) ?_
  refine va_get (D := (dC, dI)) (ci := 2) (v := .ref (ad 1)) (C := RX2) (T := TX2) (N := 15) hx hb hts ziX2 hown hK hP 0 rfl rfl 0 (by decide) zw0 (fun _ h9 => h9) rfl dX2_firstOf_1 ?_
  refine lv_aload_n hx hb dX2_firstOf_4 rfl (lv_at hl 0 rfl) ?_
  refine va_get (D := (dC, dI)) (ci := 2) (v := .ref (ad 7)) (C := RX2) (T := TX2) (N := 15) hx hb hts ziX2 hown hK hP 0 rfl rfl 3 (by decide) zw1 (fun _ h9 => h9) rfl dX2_firstOf_5 ?_
  refine lv_iload_n hx hb dX2_firstOf_8 rfl (lv_at hl 1 rfl) ?_
  obtain ⟨r9, h_9, hm⟩ := ob hm
  refine z_callRi (As := [.int p1]) (rest := [.ref (ad 1)]) (ci := 0) (q := (RX0, TX0, 2)) ⟨hx, hb, hml, hown, hts⟩ (c_X0_at l dC dI cI (ad 7) (ad 8) 256 zs F p1 r9 h_9) (cwV 1 hts gX2_firstOf_X0_at rfl rfl rfl kv_X0_at ⟨Nat.le_of_ble_eq_true rfl, Nat.le_of_ble_eq_true rfl⟩) hK (hP.sub (ws' := (wN cI (ad 7) (ad 8) 256 zs)) [7, 8] rfl) rfl rfl rfl rfl hl.1 rfl (Nat.le_of_ble_eq_true rfl) dX2_firstOf_9 ⟨Nat.zero_le _, Nat.zero_le _⟩ ?_
  obtain ⟨r12, h_12, hm⟩ := ob hm
  refine z_callRi (As := [.int r9]) (rest := []) (ci := 0) (q := (RX0, TX0, 2)) ⟨hx, hb, hml, hown, hts⟩ (c_X0_at l dC dI cI (ad 1) (ad 2) 256 zk F r9 r12 h_12) (cwV 1 hts gX2_firstOf_X0_at rfl rfl rfl kv_X0_at ⟨Nat.le_of_ble_eq_true rfl, Nat.le_of_ble_eq_true rfl⟩) hK (hP.sub (ws' := (wN cI (ad 1) (ad 2) 256 zk)) [1, 2] rfl) rfl rfl rfl rfl hl.1 rfl (Nat.le_of_ble_eq_true rfl) dX2_firstOf_12 ⟨Nat.zero_le _, Nat.zero_le _⟩ ?_
  exact W.iret hx hb hr (fun t ht hW => ⟨_, rfl, (o2 hm).symm, ht⟩) (fun q h => absurd h List.not_mem_nil) dX2_firstOf_15
set_option maxHeartbeats 4000000 in
set_option maxRecDepth 100000 in
theorem c_X2_endOf (l : Launch) (dC : Nat → ClassId) (dI : Nat → Nat → Nat) (cI : ClassId) (ad : Nat → Nat) (zk : zN) (zm : zN) (zb : zN) (zs : zN) (zr : zN) (zu : zN) (zt : zT) (zf : zN) (zg : zN) (zbd : Int32) (zro : Int32) (zmc : Int32) (zmg : Int32) (zsp : Int32) (zjn : Int32) (F : Nat) (p1 : Int32) (r : Int32) (hm : X2_endOf F zk zs p1 = some r) : Met l yX2_endOf wsX2_endOf ({ frames := 2, cells := 0, slots := 0, locals := 42 }) (va_Pc [.ref (ad 0), .int p1] (zR (dC, dI) (wL cI ad zk zm zb zs zr zu zt zf zg zbd zro zmc zmg zsp zjn) [(cI, .int)])) (vp_Si (fun v => v = r)) 0 0 (fun _ => False) := by
  refine Met.ofW (cc := cX2_endOf) (maxL := 2) (ret := (some .int)) (by decide) rfl ?_
  intro p e s m args below meth c s₁ B hml hv
  obtain ⟨rfl, hP, hK⟩ := hv
  have hx := B.exec
  have hb := B.bytes
  have hr := B.returns
  have hts := atoms_spec (ws := wsX2_endOf) B.pre
  have hown : s.vm.findClass RX2 = some m.cls := findClass_of_methodNamed B.named
  have hlocks := B.notSynchronized
  have hl := lv_entry ([.ref (ad 0), .int p1]) (n := 2) (Nat.le_of_ble_eq_true rfl)
  rw [lg_entry_eq]
  generalize (lg_sl ([.ref (ad 0), .int p1]) ++ List.replicate (2 - (lg_sl ([.ref (ad 0), .int p1])).length) Slot.unset).toArray = ls at hl ⊢
  have hl : lv_has ls 2 [(0, .ref (ad 0)), (1, .int p1)] := hl
  have zw0 := hts (.fieldLink RX2 24 "LearnedLedge" "starts" "LLearnedLedge$Numbers;") (by decide +kernel)
  have zw1 := hts (.fieldLink RX2 14 "LearnedLedge" "keys" "LLearnedLedge$Numbers;") (by decide +kernel)
  have ziX2 : ∀ w ∈ u_ws RX2 TX2 15, w ∈ wsX2_endOf := by decide +kernel
  refine lv_aload_n hx hb dX2_endOf_0 rfl (lv_at hl 0 rfl) ?_
  refine va_get (D := (dC, dI)) (ci := 2) (v := .ref (ad 7)) (C := RX2) (T := TX2) (N := 15) hx hb hts ziX2 hown hK hP 0 rfl rfl 3 (by decide) zw0 (fun _ h9 => h9) rfl dX2_endOf_1 ?_
  refine lv_iload_n hx hb dX2_endOf_4 rfl (lv_at hl 1 rfl) ?_
  refine lv_iconst (v := 1) hx hb dX2_endOf_5 (by decide) ?_
  refine lv_iadd hx hb dX2_endOf_6 ?_
  obtain ⟨r7, h_7, hm⟩ := ob hm
  refine z_callRi (As := [.int (p1 + 1)]) (rest := []) (ci := 0) (q := (RX0, TX0, 2)) ⟨hx, hb, hml, hown, hts⟩ (c_X0_has l dC dI cI (ad 7) (ad 8) 256 zs F (p1 + 1) r7 h_7) (cwV 1 hts gX2_endOf_X0_has rfl rfl rfl kv_X0_has ⟨Nat.le_of_ble_eq_true rfl, Nat.le_of_ble_eq_true rfl⟩) hK (hP.sub (ws' := (wN cI (ad 7) (ad 8) 256 zs)) [7, 8] rfl) rfl rfl rfl rfl hl.1 rfl (Nat.le_of_ble_eq_true rfl) dX2_endOf_7 ⟨Nat.zero_le _, Nat.zero_le _⟩ ?_
  refine lv_if_eq (tgt := 26) hx hb dX2_endOf_10 (by decide) (fun c_10 => ?_) (fun c_10 => ?_)
  · have hm := it_t hm c_10
    refine lv_aload_n hx hb dX2_endOf_26 rfl (lv_at hl 0 rfl) ?_
    refine va_get (D := (dC, dI)) (ci := 2) (v := .ref (ad 1)) (C := RX2) (T := TX2) (N := 15) hx hb hts ziX2 hown hK hP 0 rfl rfl 0 (by decide) zw1 (fun _ h9 => h9) rfl dX2_endOf_27 ?_
    obtain ⟨r30, h_30, hm⟩ := ob hm
    refine z_callRi (As := []) (rest := []) (ci := 0) (q := (RX0, TX0, 2)) ⟨hx, hb, hml, hown, hts⟩ (c_X0_length l dC dI cI (ad 1) (ad 2) 256 zk F r30 h_30) (cwV 0 hts gX2_endOf_X0_length rfl rfl rfl kv_X0_length ⟨Nat.le_of_ble_eq_true rfl, Nat.le_of_ble_eq_true rfl⟩) hK (hP.sub (ws' := (wN cI (ad 1) (ad 2) 256 zk)) [1, 2] rfl) rfl rfl rfl rfl hl.1 rfl (Nat.le_of_ble_eq_true rfl) dX2_endOf_30 ⟨Nat.zero_le _, Nat.zero_le _⟩ ?_
    exact W.iret hx hb hr (fun t ht hW => ⟨_, rfl, (o2 hm).symm, ht⟩) (fun q h => absurd h List.not_mem_nil) dX2_endOf_33
  · have hm := it_f hm c_10
    refine lv_aload_n hx hb dX2_endOf_13 rfl (lv_at hl 0 rfl) ?_
    refine va_get (D := (dC, dI)) (ci := 2) (v := .ref (ad 7)) (C := RX2) (T := TX2) (N := 15) hx hb hts ziX2 hown hK hP 0 rfl rfl 3 (by decide) zw0 (fun _ h9 => h9) rfl dX2_endOf_14 ?_
    refine lv_iload_n hx hb dX2_endOf_17 rfl (lv_at hl 1 rfl) ?_
    refine lv_iconst (v := 1) hx hb dX2_endOf_18 (by decide) ?_
    refine lv_iadd hx hb dX2_endOf_19 ?_
    obtain ⟨r20, h_20, hm⟩ := ob hm
    refine z_callRi (As := [.int (p1 + 1)]) (rest := []) (ci := 0) (q := (RX0, TX0, 2)) ⟨hx, hb, hml, hown, hts⟩ (c_X0_at l dC dI cI (ad 7) (ad 8) 256 zs F (p1 + 1) r20 h_20) (cwV 1 hts gX2_endOf_X0_at rfl rfl rfl kv_X0_at ⟨Nat.le_of_ble_eq_true rfl, Nat.le_of_ble_eq_true rfl⟩) hK (hP.sub (ws' := (wN cI (ad 7) (ad 8) 256 zs)) [7, 8] rfl) rfl rfl rfl rfl hl.1 rfl (Nat.le_of_ble_eq_true rfl) dX2_endOf_20 ⟨Nat.zero_le _, Nat.zero_le _⟩ ?_
    refine lv_goto (tgt := 33) hx hb dX2_endOf_23 (by decide) ?_
    exact W.iret hx hb hr (fun t ht hW => ⟨_, rfl, (o2 hm).symm, ht⟩) (fun q h => absurd h List.not_mem_nil) dX2_endOf_33
set_option maxHeartbeats 4000000 in
set_option maxRecDepth 100000 in
theorem c_X2_mergePiece (l : Launch) (dC : Nat → ClassId) (dI : Nat → Nat → Nat) (cI : ClassId) (ad : Nat → Nat) (zk : zN) (zm : zN) (zb : zN) (zs : zN) (zr : zN) (zu : zN) (zt : zT) (zf : zN) (zg : zN) (zbd : Int32) (zro : Int32) (zmc : Int32) (zmg : Int32) (zsp : Int32) (zjn : Int32) (F : Nat) (p1 : Int32) (sz : Nat) (u_zt : zT) (u_zf : zN) (u_zg : zN) (u_zsp : Int32) (hm : X2_mergePiece F zk zm zb zs zt zf zg zbd zsp p1 = some (u_zt, u_zf, u_zg, u_zsp)) : Met l yX2_mergePiece wsX2_mergePiece ({ frames := 3, cells := 0, slots := 0, locals := 70 }) (va_Pc [.ref (ad 0), .int p1] (zW (dC, dI) (wL cI ad zk zm zb zs zr zu zt zf zg zbd zro zmc zmg zsp zjn) [(cI, .int)] sz)) (zQv (dC, dI) (wL cI ad zk zm zb zs zr zu u_zt u_zf u_zg zbd zro zmc zmg u_zsp zjn) [(cI, .int)] (va_A (wL cI ad zk zm zb zs zr zu zt zf zg zbd zro zmc zmg zsp zjn) sz)) 0 0 (va_A (wL cI ad zk zm zb zs zr zu zt zf zg zbd zro zmc zmg zsp zjn) sz) := by
  refine Met.ofW (cc := cX2_mergePiece) (maxL := 6) (ret := none) (by decide) rfl ?_
  intro p e s m args below meth c s₁ B hml hv
  obtain ⟨rfl, hsz, hP, hK, hD0⟩ := hv
  have hx := B.exec
  have hb := B.bytes
  have hr := B.returns
  have hts := atoms_spec (ws := wsX2_mergePiece) B.pre
  have hown : s.vm.findClass RX2 = some m.cls := findClass_of_methodNamed B.named
  have hlocks := B.notSynchronized
  subst hsz
  have hD := hD0.self (sz := s.heap.size)
  generalize hAe : va_A (wL cI ad zk zm zb zs zr zu zt zf zg zbd zro zmc zmg zsp zjn) s.heap.size = A at hD ⊢
  have hA : ∀ q : Nat, s.heap.size ≤ q → A q := fun q h => by rw [← hAe]; exact Or.inr h
  have hS : va_S A s.heap s.heap [] := va_S.rf
  generalize eL : ([] : List Loc) = locs at hS ⊢
  obtain ⟨H, eH⟩ : ∃ z : Heap, z = s.heap := ⟨_, rfl⟩
  have hP : va_P (dC, dI) vwCl (wL cI ad zk zm zb zs zr zu zt zf zg zbd zro zmc zmg zsp zjn) H := by rw [eH]; exact hP
  have hS : va_S A s.heap H locs := by rw [eH]; exact hS
  refine z_heap eH ?_
  have hl := lv_entry ([.ref (ad 0), .int p1]) (n := 6) (Nat.le_of_ble_eq_true rfl)
  rw [lg_entry_eq]
  generalize (lg_sl ([.ref (ad 0), .int p1]) ++ List.replicate (6 - (lg_sl ([.ref (ad 0), .int p1])).length) Slot.unset).toArray = ls at hl ⊢
  have hl : lv_has ls 6 [(0, .ref (ad 0)), (1, .int p1)] := hl
  have zw0 := hts (.fieldLink RX2 21 "LearnedLedge" "buffer" "LLearnedLedge$Numbers;") (by decide +kernel)
  have zw1 := hts (.fieldLink RX2 24 "LearnedLedge" "starts" "LLearnedLedge$Numbers;") (by decide +kernel)
  have zw2 := hts (.fieldLink RX2 40 "LearnedLedge" "freshKeys" "LLearnedLedge$Numbers;") (by decide +kernel)
  have zw3 := hts (.fieldLink RX2 43 "LearnedLedge" "freshStarts" "LLearnedLedge$Numbers;") (by decide +kernel)
  have ziX2 : ∀ w ∈ u_ws RX2 TX2 15, w ∈ wsX2_mergePiece := by decide +kernel
  refine lv_iload_n hx hb dX2_mergePiece_0 rfl (lv_at hl 1 rfl) ?_
  obtain ⟨z_20, hq_20, hm⟩ := ob hm
  have J_20 : ∀ (y20 : Int32), z_20 = y20 → W p l e (headSpec wsX2_mergePiece ({ frames := 3, cells := 0, slots := 0, locals := 70 } : Room)).room s m ([.ref (ad 0), .int p1] : List Value).toArray below meth c H locs 0 0 (MQ below (zQv (dC, dI) (wL cI ad zk zm zb zs zr zu u_zt u_zf u_zg zbd zro zmc zmg u_zsp zjn) [(cI, .int)] A) ([.ref (ad 0), .int p1] : List Value).toArray s 0 0 A) (F0 m 20 ls [.int y20]) := by
    intro y20 ez
    rw [ez] at hm
    refine lv_istore_n (lv' := [(2, .int y20), (0, .ref (ad 0)), (1, .int p1)]) hx hb dX2_mergePiece_20 rfl hl (by decide) rfl (fun ls hl => ?_)
    refine lv_aload_n hx hb dX2_mergePiece_21 rfl (lv_at hl 1 rfl) ?_
    refine va_get (D := (dC, dI)) (ci := 2) (v := .ref (ad 7)) (C := RX2) (T := TX2) (N := 15) hx hb hts ziX2 hown hK hP 0 rfl rfl 3 (by decide) zw1 (fun _ h9 => h9) rfl dX2_mergePiece_22 ?_
    refine lv_iload_n hx hb dX2_mergePiece_25 rfl (lv_at hl 2 rfl) ?_
    refine lv_iconst (v := 1) hx hb dX2_mergePiece_26 (by decide) ?_
    refine lv_iadd hx hb dX2_mergePiece_27 ?_
    obtain ⟨r28, h_28, hm⟩ := ob hm
    refine z_callRi (As := [.int (p1 + 1)]) (rest := []) (ci := 0) (q := (RX0, TX0, 2)) ⟨hx, hb, hml, hown, hts⟩ (c_X0_has l dC dI cI (ad 7) (ad 8) 256 zs F (p1 + 1) r28 h_28) (cwV 1 hts gX2_mergePiece_X0_has rfl rfl rfl kv_X0_has ⟨Nat.le_of_ble_eq_true rfl, Nat.le_of_ble_eq_true rfl⟩) hK (hP.sub (ws' := (wN cI (ad 7) (ad 8) 256 zs)) [7, 8] rfl) rfl rfl rfl rfl hl.1 rfl (Nat.le_of_ble_eq_true rfl) dX2_mergePiece_28 ⟨Nat.zero_le _, Nat.zero_le _⟩ ?_
    obtain ⟨z_58, hq_58, hm⟩ := ob hm
    have J_58 : ∀ (y58 : Int32), z_58 = y58 → W p l e (headSpec wsX2_mergePiece ({ frames := 3, cells := 0, slots := 0, locals := 70 } : Room)).room s m ([.ref (ad 0), .int p1] : List Value).toArray below meth c H locs 0 0 (MQ below (zQv (dC, dI) (wL cI ad zk zm zb zs zr zu u_zt u_zf u_zg zbd zro zmc zmg u_zsp zjn) [(cI, .int)] A) ([.ref (ad 0), .int p1] : List Value).toArray s 0 0 A) (F0 m 58 ls [.int y58]) := by
      intro y58 ez
      rw [ez] at hm
      refine lv_istore_n (lv' := [(3, .int y58), (2, .int y20), (0, .ref (ad 0)), (1, .int p1)]) hx hb dX2_mergePiece_58 rfl hl (by decide) rfl (fun ls hl => ?_)
      refine lv_aload_n hx hb dX2_mergePiece_59 rfl (lv_at hl 2 rfl) ?_
      refine va_get (D := (dC, dI)) (ci := 2) (v := .ref (ad 14)) (C := RX2) (T := TX2) (N := 15) hx hb hts ziX2 hown hK hP 0 rfl rfl 7 (by decide) zw2 (fun _ h9 => h9) rfl dX2_mergePiece_60 ?_
      obtain ⟨r63, h_63, hm⟩ := ob hm
      refine z_callRi (As := []) (rest := []) (ci := 0) (q := (RX0, TX0, 2)) ⟨hx, hb, hml, hown, hts⟩ (c_X0_length l dC dI cI (ad 14) (ad 15) 256 zf F r63 h_63) (cwV 0 hts gX2_mergePiece_X0_length rfl rfl rfl kv_X0_length ⟨Nat.le_of_ble_eq_true rfl, Nat.le_of_ble_eq_true rfl⟩) hK (hP.sub (ws' := (wN cI (ad 14) (ad 15) 256 zf)) [14, 15] rfl) rfl rfl rfl rfl hl.1 rfl (Nat.le_of_ble_eq_true rfl) dX2_mergePiece_63 ⟨Nat.zero_le _, Nat.zero_le _⟩ ?_
      refine lv_istore (lv' := [(4, .int r63), (3, .int y58), (2, .int y20), (0, .ref (ad 0)), (1, .int p1)]) hx hb dX2_mergePiece_66 hl (by decide) rfl (fun ls hl => ?_)
      refine lv_aload_n hx hb dX2_mergePiece_68 rfl (lv_at hl 3 rfl) ?_
      refine lv_aload_n hx hb dX2_mergePiece_69 rfl (lv_at hl 3 rfl) ?_
      refine va_get (D := (dC, dI)) (ci := 2) (v := .ref (ad 7)) (C := RX2) (T := TX2) (N := 15) hx hb hts ziX2 hown hK hP 0 rfl rfl 3 (by decide) zw1 (fun _ h9 => h9) rfl dX2_mergePiece_70 ?_
      refine lv_iload_n hx hb dX2_mergePiece_73 rfl (lv_at hl 4 rfl) ?_
      obtain ⟨r74, h_74, hm⟩ := ob hm
      refine z_callRi (As := [.int p1]) (rest := [.ref (ad 0)]) (ci := 0) (q := (RX0, TX0, 2)) ⟨hx, hb, hml, hown, hts⟩ (c_X0_at l dC dI cI (ad 7) (ad 8) 256 zs F p1 r74 h_74) (cwV 1 hts gX2_mergePiece_X0_at rfl rfl rfl kv_X0_at ⟨Nat.le_of_ble_eq_true rfl, Nat.le_of_ble_eq_true rfl⟩) hK (hP.sub (ws' := (wN cI (ad 7) (ad 8) 256 zs)) [7, 8] rfl) rfl rfl rfl rfl hl.1 rfl (Nat.le_of_ble_eq_true rfl) dX2_mergePiece_74 ⟨Nat.zero_le _, Nat.zero_le _⟩ ?_
      refine lv_aload_n hx hb dX2_mergePiece_77 rfl (lv_at hl 3 rfl) ?_
      refine lv_iload_n hx hb dX2_mergePiece_78 rfl (lv_at hl 4 rfl) ?_
      obtain ⟨r79, h_79, hm⟩ := ob hm
      refine z_callRi (As := [.int p1]) (rest := [.int r74, .ref (ad 0)]) (ci := 2) (q := (RX2, TX2, 15)) ⟨hx, hb, hml, hown, hts⟩ (c_X2_endOf l dC dI cI ad zk zm zb zs zr zu zt zf zg zbd zro zmc zmg zsp zjn F p1 r79 h_79) (cwV 1 hts gX2_mergePiece_X2_endOf rfl rfl rfl kv_X2_endOf ⟨Nat.le_of_ble_eq_true rfl, Nat.le_of_ble_eq_true rfl⟩) hK hP rfl rfl rfl rfl hl.1 rfl (Nat.le_of_ble_eq_true rfl) dX2_mergePiece_79 ⟨Nat.zero_le _, Nat.zero_le _⟩ ?_
      refine lv_iload_n hx hb dX2_mergePiece_82 rfl (lv_at hl 2 rfl) ?_
      refine lv_iload_n hx hb dX2_mergePiece_83 rfl (lv_at hl 1 rfl) ?_
      obtain ⟨⟨r84, zf84⟩, h_84, hm⟩ := ob hm
      refine z_callWi (wc := (wL cI ad zk zm zb zs zr zu zt zf zg zbd zro zmc zmg zsp zjn)) (w1 := (wL cI ad zk zm zb zs zr zu zt zf84 zg zbd zro zmc zmg zsp zjn)) (ws := (wL cI ad zk zm zb zs zr zu zt zf zg zbd zro zmc zmg zsp zjn)) (ws' := (wL cI ad zk zm zb zs zr zu zt zf84 zg zbd zro zmc zmg zsp zjn)) [0, 1, 2, 3, 4, 5, 6, 7, 8, 9, 10, 11, 12, 13, 14, 15, 16, 17] [] 18 (As := [.int r74, .int r79, .int y20, .int y58]) (rest := []) (ci := 2) (q := (RX2, TX2, 15)) ⟨hx, hb, hml, hown, hts⟩ (c_X2_gather l dC dI cI ad zk zm zb zs zr zu zt zf zg zbd zro zmc zmg zsp zjn F r74 r79 y20 y58 H.size r84 zf84 h_84) (cwV 4 hts gX2_mergePiece_X2_gather rfl rfl rfl kv_X2_gather ⟨Nat.le_of_ble_eq_true rfl, Nat.le_of_ble_eq_true rfl⟩) hK hP hD hS hA hP hD rfl rfl (by decide) rfl rfl (by decide) rfl rfl rfl rfl rfl hl.1 rfl (Nat.le_of_ble_eq_true rfl) dX2_mergePiece_84 ⟨Nat.zero_le _, Nat.zero_le _⟩ (fun H locs hP hD hS => ?_)
      refine lv_istore (lv' := [(5, .int r84), (4, .int r63), (3, .int y58), (2, .int y20), (0, .ref (ad 0)), (1, .int p1)]) hx hb dX2_mergePiece_87 hl (by decide) rfl (fun ls hl => ?_)
      refine lv_iload hx hb dX2_mergePiece_89 (lv_at hl 0 rfl) ?_
      refine lv_if_ne (tgt := 99) hx hb dX2_mergePiece_91 (by decide) (fun c_91 => ?_) (fun c_91 => ?_)
      · have hm := it_f hm c_91
        refine lv_aload_n hx hb dX2_mergePiece_99 rfl (lv_at hl 4 rfl) ?_
        refine lv_iload hx hb dX2_mergePiece_100 (lv_at hl 1 rfl) ?_
        obtain ⟨⟨zt102, zg102, zsp102⟩, h_102, hm⟩ := ob hm
        refine z_callWv (wc := (wL cI ad zk zm zb zs zr zu zt zf84 zg zbd zro zmc zmg zsp zjn)) (w1 := (wL cI ad zk zm zb zs zr zu zt102 zf84 zg102 zbd zro zmc zmg zsp102 zjn)) (ws := (wL cI ad zk zm zb zs zr zu zt zf84 zg zbd zro zmc zmg zsp zjn)) (ws' := (wL cI ad zk zm zb zs zr zu zt102 zf84 zg102 zbd zro zmc zmg zsp102 zjn)) [0, 1, 2, 3, 4, 5, 6, 7, 8, 9, 10, 11, 12, 13, 14, 15, 16, 17] [] 18 (As := [.int r63]) (rest := []) (ci := 2) (q := (RX2, TX2, 15)) ⟨hx, hb, hml, hown, hts⟩ (c_X2_cutFresh l dC dI cI ad zk zm zb zs zr zu zt zf84 zg zbd zro zmc zmg zsp zjn F r63 H.size zt102 zg102 zsp102 h_102) (cwV 1 hts gX2_mergePiece_X2_cutFresh rfl rfl rfl kv_X2_cutFresh ⟨Nat.le_of_ble_eq_true rfl, Nat.le_of_ble_eq_true rfl⟩) hK hP hD hS hA hP hD rfl rfl (by decide) rfl rfl (by decide) rfl rfl rfl rfl rfl hl.1 rfl (Nat.le_of_ble_eq_true rfl) dX2_mergePiece_102 ⟨Nat.zero_le _, Nat.zero_le _⟩ (fun H locs hP hD hS => ?_)
        refine lv_goto (tgt := 117) hx hb dX2_mergePiece_105 (by decide) ?_
        cases o2 hm
        exact W.vret hx hb hr (fun t ht hW => ⟨⟨(), rfl, trivial, by rw [ht]; exact hP, va_K.moved hW.alike hK, hD⟩, hS.F ht⟩) hS.2.2 dX2_mergePiece_117
      · have hm := it_t hm c_91
        refine lv_iload_n hx hb dX2_mergePiece_94 rfl (lv_at hl 3 rfl) ?_
        refine lv_iload_n hx hb dX2_mergePiece_95 rfl (lv_at hl 2 rfl) ?_
        refine lv_icmp_ge (tgt := 108) hx hb dX2_mergePiece_96 (by decide) (fun c_96 => ?_) (fun c_96 => ?_)
        · have hm := it_t hm c_96
          refine lv_aload_n hx hb dX2_mergePiece_108 rfl (lv_at hl 4 rfl) ?_
          refine va_get (D := (dC, dI)) (ci := 2) (v := .ref (ad 16)) (C := RX2) (T := TX2) (N := 15) hx hb hts ziX2 hown hK hP 0 rfl rfl 8 (by decide) zw3 (fun _ h9 => h9) rfl dX2_mergePiece_109 ?_
          refine lv_iload hx hb dX2_mergePiece_112 (lv_at hl 1 rfl) ?_
          obtain ⟨zg114, h_114, hm⟩ := ob hm
          refine z_callWv (wc := (wN cI (ad 16) (ad 17) 256 zg)) (w1 := (wN cI (ad 16) (ad 17) 256 zg114)) (ws := (wL cI ad zk zm zb zs zr zu zt zf84 zg zbd zro zmc zmg zsp zjn)) (ws' := (wL cI ad zk zm zb zs zr zu zt zf84 zg114 zbd zro zmc zmg zsp zjn)) [16, 17] [0, 1, 2, 3, 4, 5, 6, 7, 8, 9, 10, 11, 12, 13, 14, 15] 18 (As := [.int r63]) (rest := []) (ci := 0) (q := (RX0, TX0, 2)) ⟨hx, hb, hml, hown, hts⟩ (c_X0_push l dC dI cI (ad 16) (ad 17) 256 zg F r63 H.size zg114 h_114) (cwV 1 hts gX2_mergePiece_X0_push rfl rfl rfl kv_X0_push ⟨Nat.le_of_ble_eq_true rfl, Nat.le_of_ble_eq_true rfl⟩) hK hP hD hS hA (hP.sub (ws' := (wN cI (ad 16) (ad 17) 256 zg)) [16, 17] rfl) (hD.sub (ws' := (wN cI (ad 16) (ad 17) 256 zg)) [16, 17] (by decide) rfl) rfl rfl (by decide) rfl rfl (by decide) rfl rfl rfl rfl rfl hl.1 rfl (Nat.le_of_ble_eq_true rfl) dX2_mergePiece_114 ⟨Nat.zero_le _, Nat.zero_le _⟩ (fun H locs hP hD hS => ?_)
          cases o2 hm
          exact W.vret hx hb hr (fun t ht hW => ⟨⟨(), rfl, trivial, by rw [ht]; exact hP, va_K.moved hW.alike hK, hD⟩, hS.F ht⟩) hS.2.2 dX2_mergePiece_117
        · have hm := it_f hm c_96
          refine lv_aload_n hx hb dX2_mergePiece_99 rfl (lv_at hl 4 rfl) ?_
          refine lv_iload hx hb dX2_mergePiece_100 (lv_at hl 1 rfl) ?_
          obtain ⟨⟨zt102_1, zg102_1, zsp102_1⟩, h_102, hm⟩ := ob hm
          refine z_callWv (wc := (wL cI ad zk zm zb zs zr zu zt zf84 zg zbd zro zmc zmg zsp zjn)) (w1 := (wL cI ad zk zm zb zs zr zu zt102_1 zf84 zg102_1 zbd zro zmc zmg zsp102_1 zjn)) (ws := (wL cI ad zk zm zb zs zr zu zt zf84 zg zbd zro zmc zmg zsp zjn)) (ws' := (wL cI ad zk zm zb zs zr zu zt102_1 zf84 zg102_1 zbd zro zmc zmg zsp102_1 zjn)) [0, 1, 2, 3, 4, 5, 6, 7, 8, 9, 10, 11, 12, 13, 14, 15, 16, 17] [] 18 (As := [.int r63]) (rest := []) (ci := 2) (q := (RX2, TX2, 15)) ⟨hx, hb, hml, hown, hts⟩ (c_X2_cutFresh l dC dI cI ad zk zm zb zs zr zu zt zf84 zg zbd zro zmc zmg zsp zjn F r63 H.size zt102_1 zg102_1 zsp102_1 h_102) (cwV 1 hts gX2_mergePiece_X2_cutFresh rfl rfl rfl kv_X2_cutFresh ⟨Nat.le_of_ble_eq_true rfl, Nat.le_of_ble_eq_true rfl⟩) hK hP hD hS hA hP hD rfl rfl (by decide) rfl rfl (by decide) rfl rfl rfl rfl rfl hl.1 rfl (Nat.le_of_ble_eq_true rfl) dX2_mergePiece_102 ⟨Nat.zero_le _, Nat.zero_le _⟩ (fun H locs hP hD hS => ?_)
          refine lv_goto (tgt := 117) hx hb dX2_mergePiece_105 (by decide) ?_
          cases o2 hm
          exact W.vret hx hb hr (fun t ht hW => ⟨⟨(), rfl, trivial, by rw [ht]; exact hP, va_K.moved hW.alike hK, hD⟩, hS.F ht⟩) hS.2.2 dX2_mergePiece_117
    have hm := hq_58
    refine lv_if_eq (tgt := 51) hx hb dX2_mergePiece_31 (by decide) (fun c_31 => ?_) (fun c_31 => ?_)
    · have hm := it_t hm c_31
      refine lv_aload_n hx hb dX2_mergePiece_51 rfl (lv_at hl 1 rfl) ?_
      refine va_get (D := (dC, dI)) (ci := 2) (v := .ref (ad 5)) (C := RX2) (T := TX2) (N := 15) hx hb hts ziX2 hown hK hP 0 rfl rfl 2 (by decide) zw0 (fun _ h9 => h9) rfl dX2_mergePiece_52 ?_
      obtain ⟨r55, h_55, hm⟩ := ob hm
      refine z_callRi (As := []) (rest := []) (ci := 0) (q := (RX0, TX0, 2)) ⟨hx, hb, hml, hown, hts⟩ (c_X0_length l dC dI cI (ad 5) (ad 6) 16 zb F r55 h_55) (cwV 0 hts gX2_mergePiece_X0_length rfl rfl rfl kv_X0_length ⟨Nat.le_of_ble_eq_true rfl, Nat.le_of_ble_eq_true rfl⟩) hK (hP.sub (ws' := (wN cI (ad 5) (ad 6) 16 zb)) [5, 6] rfl) rfl rfl rfl rfl hl.1 rfl (Nat.le_of_ble_eq_true rfl) dX2_mergePiece_55 ⟨Nat.zero_le _, Nat.zero_le _⟩ ?_
      exact J_58 r55 (o2 hm)
    · have hm := it_f hm c_31
      refine lv_aload_n hx hb dX2_mergePiece_34 rfl (lv_at hl 1 rfl) ?_
      refine va_get (D := (dC, dI)) (ci := 2) (v := .ref (ad 5)) (C := RX2) (T := TX2) (N := 15) hx hb hts ziX2 hown hK hP 0 rfl rfl 2 (by decide) zw0 (fun _ h9 => h9) rfl dX2_mergePiece_35 ?_
      refine lv_aload_n hx hb dX2_mergePiece_38 rfl (lv_at hl 1 rfl) ?_
      refine lv_iload_n hx hb dX2_mergePiece_39 rfl (lv_at hl 2 rfl) ?_
      refine lv_iconst (v := 1) hx hb dX2_mergePiece_40 (by decide) ?_
      refine lv_iadd hx hb dX2_mergePiece_41 ?_
      obtain ⟨r42, h_42, hm⟩ := ob hm
      refine z_callRi (As := [.int (p1 + 1)]) (rest := [.ref (ad 5)]) (ci := 2) (q := (RX2, TX2, 15)) ⟨hx, hb, hml, hown, hts⟩ (c_X2_firstOf l dC dI cI ad zk zm zb zs zr zu zt zf zg zbd zro zmc zmg zsp zjn F (p1 + 1) r42 h_42) (cwV 1 hts gX2_mergePiece_X2_firstOf rfl rfl rfl kv_X2_firstOf ⟨Nat.le_of_ble_eq_true rfl, Nat.le_of_ble_eq_true rfl⟩) hK hP rfl rfl rfl rfl hl.1 rfl (Nat.le_of_ble_eq_true rfl) dX2_mergePiece_42 ⟨Nat.zero_le _, Nat.zero_le _⟩ ?_
      obtain ⟨r45, h_45, hm⟩ := ob hm
      refine z_callRi (As := [.int r42]) (rest := []) (ci := 0) (q := (RX0, TX0, 2)) ⟨hx, hb, hml, hown, hts⟩ (c_X0_below l dC dI cI (ad 5) (ad 6) 16 zb F r42 r45 h_45) (cwV 1 hts gX2_mergePiece_X0_below rfl rfl rfl kv_X0_below ⟨Nat.le_of_ble_eq_true rfl, Nat.le_of_ble_eq_true rfl⟩) hK (hP.sub (ws' := (wN cI (ad 5) (ad 6) 16 zb)) [5, 6] rfl) rfl rfl rfl rfl hl.1 rfl (Nat.le_of_ble_eq_true rfl) dX2_mergePiece_45 ⟨Nat.zero_le _, Nat.zero_le _⟩ ?_
      refine lv_goto (tgt := 58) hx hb dX2_mergePiece_48 (by decide) ?_
      exact J_58 r45 (o2 hm)
  have hm := hq_20
  refine lv_if_ne (tgt := 8) hx hb dX2_mergePiece_1 (by decide) (fun c_1 => ?_) (fun c_1 => ?_)
  · have hm := it_f hm c_1
    refine lv_aload_n hx hb dX2_mergePiece_8 rfl (lv_at hl 0 rfl) ?_
    refine va_get (D := (dC, dI)) (ci := 2) (v := .ref (ad 5)) (C := RX2) (T := TX2) (N := 15) hx hb hts ziX2 hown hK hP 0 rfl rfl 2 (by decide) zw0 (fun _ h9 => h9) rfl dX2_mergePiece_9 ?_
    refine lv_aload_n hx hb dX2_mergePiece_12 rfl (lv_at hl 0 rfl) ?_
    refine lv_iload_n hx hb dX2_mergePiece_13 rfl (lv_at hl 1 rfl) ?_
    obtain ⟨r14, h_14, hm⟩ := ob hm
    refine z_callRi (As := [.int p1]) (rest := [.ref (ad 5)]) (ci := 2) (q := (RX2, TX2, 15)) ⟨hx, hb, hml, hown, hts⟩ (c_X2_firstOf l dC dI cI ad zk zm zb zs zr zu zt zf zg zbd zro zmc zmg zsp zjn F p1 r14 h_14) (cwV 1 hts gX2_mergePiece_X2_firstOf rfl rfl rfl kv_X2_firstOf ⟨Nat.le_of_ble_eq_true rfl, Nat.le_of_ble_eq_true rfl⟩) hK hP rfl rfl rfl rfl hl.1 rfl (Nat.le_of_ble_eq_true rfl) dX2_mergePiece_14 ⟨Nat.zero_le _, Nat.zero_le _⟩ ?_
    obtain ⟨r17, h_17, hm⟩ := ob hm
    refine z_callRi (As := [.int r14]) (rest := []) (ci := 0) (q := (RX0, TX0, 2)) ⟨hx, hb, hml, hown, hts⟩ (c_X0_below l dC dI cI (ad 5) (ad 6) 16 zb F r14 r17 h_17) (cwV 1 hts gX2_mergePiece_X0_below rfl rfl rfl kv_X0_below ⟨Nat.le_of_ble_eq_true rfl, Nat.le_of_ble_eq_true rfl⟩) hK (hP.sub (ws' := (wN cI (ad 5) (ad 6) 16 zb)) [5, 6] rfl) rfl rfl rfl rfl hl.1 rfl (Nat.le_of_ble_eq_true rfl) dX2_mergePiece_17 ⟨Nat.zero_le _, Nat.zero_le _⟩ ?_
    exact J_20 r17 (o2 hm)
  · have hm := it_t hm c_1
    refine lv_iconst (v := 0) hx hb dX2_mergePiece_4 (by decide) ?_
    refine lv_goto (tgt := 20) hx hb dX2_mergePiece_5 (by decide) ?_
    exact J_20 0 (o2 hm)
set_option maxHeartbeats 4000000 in
set_option maxRecDepth 100000 in
theorem c_X2_clearPieces (l : Launch) (dC : Nat → ClassId) (dI : Nat → Nat → Nat) (cI : ClassId) (ad : Nat → Nat) (zk : zN) (zm : zN) (zb : zN) (zs : zN) (zr : zN) (zu : zN) (zt : zT) (zf : zN) (zg : zN) (zbd : Int32) (zro : Int32) (zmc : Int32) (zmg : Int32) (zsp : Int32) (zjn : Int32) (F : Nat) (sz : Nat) (u_zs : zN) (u_zr : zN) (u_zu : zN) (hm : X2_clearPieces F zs zr zu = some (u_zs, u_zr, u_zu)) : Met l yX2_clearPieces wsX2_clearPieces ({ frames := 1, cells := 0, slots := 0, locals := 20 }) (va_Pc [.ref (ad 0)] (zW (dC, dI) (wL cI ad zk zm zb zs zr zu zt zf zg zbd zro zmc zmg zsp zjn) [(cI, .int)] sz)) (zQv (dC, dI) (wL cI ad zk zm zb u_zs u_zr u_zu zt zf zg zbd zro zmc zmg zsp zjn) [(cI, .int)] (va_A (wL cI ad zk zm zb zs zr zu zt zf zg zbd zro zmc zmg zsp zjn) sz)) 0 0 (va_A (wL cI ad zk zm zb zs zr zu zt zf zg zbd zro zmc zmg zsp zjn) sz) := by
  refine Met.ofW (cc := cX2_clearPieces) (maxL := 1) (ret := none) (by decide) rfl ?_
  intro p e s m args below meth c s₁ B hml hv
  obtain ⟨rfl, hsz, hP, hK, hD0⟩ := hv
  have hx := B.exec
  have hb := B.bytes
  have hr := B.returns
  have hts := atoms_spec (ws := wsX2_clearPieces) B.pre
  have hown : s.vm.findClass RX2 = some m.cls := findClass_of_methodNamed B.named
  have hlocks := B.notSynchronized
  subst hsz
  have hD := hD0.self (sz := s.heap.size)
  generalize hAe : va_A (wL cI ad zk zm zb zs zr zu zt zf zg zbd zro zmc zmg zsp zjn) s.heap.size = A at hD ⊢
  have hA : ∀ q : Nat, s.heap.size ≤ q → A q := fun q h => by rw [← hAe]; exact Or.inr h
  have hS : va_S A s.heap s.heap [] := va_S.rf
  generalize eL : ([] : List Loc) = locs at hS ⊢
  obtain ⟨H, eH⟩ : ∃ z : Heap, z = s.heap := ⟨_, rfl⟩
  have hP : va_P (dC, dI) vwCl (wL cI ad zk zm zb zs zr zu zt zf zg zbd zro zmc zmg zsp zjn) H := by rw [eH]; exact hP
  have hS : va_S A s.heap H locs := by rw [eH]; exact hS
  refine z_heap eH ?_
  have hl := lv_entry ([.ref (ad 0)]) (n := 1) (Nat.le_of_ble_eq_true rfl)
  rw [lg_entry_eq]
  generalize (lg_sl ([.ref (ad 0)]) ++ List.replicate (1 - (lg_sl ([.ref (ad 0)])).length) Slot.unset).toArray = ls at hl ⊢
  have hl : lv_has ls 1 [(0, .ref (ad 0))] := hl
  have zw0 := hts (.fieldLink RX2 24 "LearnedLedge" "starts" "LLearnedLedge$Numbers;") (by decide +kernel)
  have zw1 := hts (.fieldLink RX2 27 "LearnedLedge" "rises" "LLearnedLedge$Numbers;") (by decide +kernel)
  have zw2 := hts (.fieldLink RX2 30 "LearnedLedge" "runs" "LLearnedLedge$Numbers;") (by decide +kernel)
  have ziX2 : ∀ w ∈ u_ws RX2 TX2 15, w ∈ wsX2_clearPieces := by decide +kernel
  refine lv_aload_n hx hb dX2_clearPieces_0 rfl (lv_at hl 0 rfl) ?_
  refine va_get (D := (dC, dI)) (ci := 2) (v := .ref (ad 7)) (C := RX2) (T := TX2) (N := 15) hx hb hts ziX2 hown hK hP 0 rfl rfl 3 (by decide) zw0 (fun _ h9 => h9) rfl dX2_clearPieces_1 ?_
  obtain ⟨zs4, h_4, hm⟩ := ob hm
  refine z_callWv (wc := (wN cI (ad 7) (ad 8) 256 zs)) (w1 := (wN cI (ad 7) (ad 8) 256 zs4)) (ws := (wL cI ad zk zm zb zs zr zu zt zf zg zbd zro zmc zmg zsp zjn)) (ws' := (wL cI ad zk zm zb zs4 zr zu zt zf zg zbd zro zmc zmg zsp zjn)) [7, 8] [0, 1, 2, 3, 4, 5, 6, 9, 10, 11, 12, 13, 14, 15, 16, 17] 18 (As := []) (rest := []) (ci := 0) (q := (RX0, TX0, 2)) ⟨hx, hb, hml, hown, hts⟩ (c_X0_clear l dC dI cI (ad 7) (ad 8) 256 zs F H.size zs4 h_4) (cwV 0 hts gX2_clearPieces_X0_clear rfl rfl rfl kv_X0_clear ⟨Nat.le_of_ble_eq_true rfl, Nat.le_of_ble_eq_true rfl⟩) hK hP hD hS hA (hP.sub (ws' := (wN cI (ad 7) (ad 8) 256 zs)) [7, 8] rfl) (hD.sub (ws' := (wN cI (ad 7) (ad 8) 256 zs)) [7, 8] (by decide) rfl) rfl rfl (by decide) rfl rfl (by decide) rfl rfl rfl rfl rfl hl.1 rfl (Nat.le_of_ble_eq_true rfl) dX2_clearPieces_4 ⟨Nat.zero_le _, Nat.zero_le _⟩ (fun H locs hP hD hS => ?_)
  refine lv_aload_n hx hb dX2_clearPieces_7 rfl (lv_at hl 0 rfl) ?_
  refine va_get (D := (dC, dI)) (ci := 2) (v := .ref (ad 9)) (C := RX2) (T := TX2) (N := 15) hx hb hts ziX2 hown hK hP 0 rfl rfl 4 (by decide) zw1 (fun _ h9 => h9) rfl dX2_clearPieces_8 ?_
  obtain ⟨zr11, h_11, hm⟩ := ob hm
  refine z_callWv (wc := (wN cI (ad 9) (ad 10) 256 zr)) (w1 := (wN cI (ad 9) (ad 10) 256 zr11)) (ws := (wL cI ad zk zm zb zs4 zr zu zt zf zg zbd zro zmc zmg zsp zjn)) (ws' := (wL cI ad zk zm zb zs4 zr11 zu zt zf zg zbd zro zmc zmg zsp zjn)) [9, 10] [0, 1, 2, 3, 4, 5, 6, 7, 8, 11, 12, 13, 14, 15, 16, 17] 18 (As := []) (rest := []) (ci := 0) (q := (RX0, TX0, 2)) ⟨hx, hb, hml, hown, hts⟩ (c_X0_clear l dC dI cI (ad 9) (ad 10) 256 zr F H.size zr11 h_11) (cwV 0 hts gX2_clearPieces_X0_clear rfl rfl rfl kv_X0_clear ⟨Nat.le_of_ble_eq_true rfl, Nat.le_of_ble_eq_true rfl⟩) hK hP hD hS hA (hP.sub (ws' := (wN cI (ad 9) (ad 10) 256 zr)) [9, 10] rfl) (hD.sub (ws' := (wN cI (ad 9) (ad 10) 256 zr)) [9, 10] (by decide) rfl) rfl rfl (by decide) rfl rfl (by decide) rfl rfl rfl rfl rfl hl.1 rfl (Nat.le_of_ble_eq_true rfl) dX2_clearPieces_11 ⟨Nat.zero_le _, Nat.zero_le _⟩ (fun H locs hP hD hS => ?_)
  refine lv_aload_n hx hb dX2_clearPieces_14 rfl (lv_at hl 0 rfl) ?_
  refine va_get (D := (dC, dI)) (ci := 2) (v := .ref (ad 11)) (C := RX2) (T := TX2) (N := 15) hx hb hts ziX2 hown hK hP 0 rfl rfl 5 (by decide) zw2 (fun _ h9 => h9) rfl dX2_clearPieces_15 ?_
  obtain ⟨zu18, h_18, hm⟩ := ob hm
  refine z_callWv (wc := (wN cI (ad 11) (ad 12) 256 zu)) (w1 := (wN cI (ad 11) (ad 12) 256 zu18)) (ws := (wL cI ad zk zm zb zs4 zr11 zu zt zf zg zbd zro zmc zmg zsp zjn)) (ws' := (wL cI ad zk zm zb zs4 zr11 zu18 zt zf zg zbd zro zmc zmg zsp zjn)) [11, 12] [0, 1, 2, 3, 4, 5, 6, 7, 8, 9, 10, 13, 14, 15, 16, 17] 18 (As := []) (rest := []) (ci := 0) (q := (RX0, TX0, 2)) ⟨hx, hb, hml, hown, hts⟩ (c_X0_clear l dC dI cI (ad 11) (ad 12) 256 zu F H.size zu18 h_18) (cwV 0 hts gX2_clearPieces_X0_clear rfl rfl rfl kv_X0_clear ⟨Nat.le_of_ble_eq_true rfl, Nat.le_of_ble_eq_true rfl⟩) hK hP hD hS hA (hP.sub (ws' := (wN cI (ad 11) (ad 12) 256 zu)) [11, 12] rfl) (hD.sub (ws' := (wN cI (ad 11) (ad 12) 256 zu)) [11, 12] (by decide) rfl) rfl rfl (by decide) rfl rfl (by decide) rfl rfl rfl rfl rfl hl.1 rfl (Nat.le_of_ble_eq_true rfl) dX2_clearPieces_18 ⟨Nat.zero_le _, Nat.zero_le _⟩ (fun H locs hP hD hS => ?_)
  cases o2 hm
  exact W.vret hx hb hr (fun t ht hW => ⟨⟨(), rfl, trivial, by rw [ht]; exact hP, va_K.moved hW.alike hK, hD⟩, hS.F ht⟩) hS.2.2 dX2_clearPieces_21
set_option maxHeartbeats 4000000 in
set_option maxRecDepth 100000 in
theorem c_X2_clearRow (l : Launch) (dC : Nat → ClassId) (dI : Nat → Nat → Nat) (cI : ClassId) (ad : Nat → Nat) (zk : zN) (zm : zN) (zb : zN) (zs : zN) (zr : zN) (zu : zN) (zt : zT) (zf : zN) (zg : zN) (zbd : Int32) (zro : Int32) (zmc : Int32) (zmg : Int32) (zsp : Int32) (zjn : Int32) (F : Nat) (sz : Nat) (u_zk : zN) (u_zm : zN) (u_zb : zN) (u_zs : zN) (u_zr : zN) (u_zu : zN) (u_zmc : Int32) (hm : X2_clearRow F zk zm zb zs zr zu zmc = some (u_zk, u_zm, u_zb, u_zs, u_zr, u_zu, u_zmc)) : Met l yX2_clearRow wsX2_clearRow ({ frames := 2, cells := 0, slots := 0, locals := 40 }) (va_Pc [.ref (ad 0)] (zW (dC, dI) (wL cI ad zk zm zb zs zr zu zt zf zg zbd zro zmc zmg zsp zjn) [(cI, .int)] sz)) (zQv (dC, dI) (wL cI ad u_zk u_zm u_zb u_zs u_zr u_zu zt zf zg zbd zro u_zmc zmg zsp zjn) [(cI, .int)] (va_A (wL cI ad zk zm zb zs zr zu zt zf zg zbd zro zmc zmg zsp zjn) sz)) 0 0 (va_A (wL cI ad zk zm zb zs zr zu zt zf zg zbd zro zmc zmg zsp zjn) sz) := by
  refine Met.ofW (cc := cX2_clearRow) (maxL := 1) (ret := none) (by decide) rfl ?_
  intro p e s m args below meth c s₁ B hml hv
  obtain ⟨rfl, hsz, hP, hK, hD0⟩ := hv
  have hx := B.exec
  have hb := B.bytes
  have hr := B.returns
  have hts := atoms_spec (ws := wsX2_clearRow) B.pre
  have hown : s.vm.findClass RX2 = some m.cls := findClass_of_methodNamed B.named
  have hlocks := B.notSynchronized
  subst hsz
  have hD := hD0.self (sz := s.heap.size)
  generalize hAe : va_A (wL cI ad zk zm zb zs zr zu zt zf zg zbd zro zmc zmg zsp zjn) s.heap.size = A at hD ⊢
  have hA : ∀ q : Nat, s.heap.size ≤ q → A q := fun q h => by rw [← hAe]; exact Or.inr h
  have hS : va_S A s.heap s.heap [] := va_S.rf
  generalize eL : ([] : List Loc) = locs at hS ⊢
  obtain ⟨H, eH⟩ : ∃ z : Heap, z = s.heap := ⟨_, rfl⟩
  have hP : va_P (dC, dI) vwCl (wL cI ad zk zm zb zs zr zu zt zf zg zbd zro zmc zmg zsp zjn) H := by rw [eH]; exact hP
  have hS : va_S A s.heap H locs := by rw [eH]; exact hS
  refine z_heap eH ?_
  have hl := lv_entry ([.ref (ad 0)]) (n := 1) (Nat.le_of_ble_eq_true rfl)
  rw [lg_entry_eq]
  generalize (lg_sl ([.ref (ad 0)]) ++ List.replicate (1 - (lg_sl ([.ref (ad 0)])).length) Slot.unset).toArray = ls at hl ⊢
  have hl : lv_has ls 1 [(0, .ref (ad 0))] := hl
  have zw0 := hts (.fieldLink RX2 14 "LearnedLedge" "keys" "LLearnedLedge$Numbers;") (by decide +kernel)
  have zw1 := hts (.fieldLink RX2 18 "LearnedLedge" "marks" "LLearnedLedge$Numbers;") (by decide +kernel)
  have zw2 := hts (.fieldLink RX2 53 "LearnedLedge" "markCount" "I") (by decide +kernel)
  have zw3 := hts (.fieldLink RX2 21 "LearnedLedge" "buffer" "LLearnedLedge$Numbers;") (by decide +kernel)
  have ziX2 : ∀ w ∈ u_ws RX2 TX2 15, w ∈ wsX2_clearRow := by decide +kernel
  refine lv_aload_n hx hb dX2_clearRow_0 rfl (lv_at hl 0 rfl) ?_
  refine va_get (D := (dC, dI)) (ci := 2) (v := .ref (ad 1)) (C := RX2) (T := TX2) (N := 15) hx hb hts ziX2 hown hK hP 0 rfl rfl 0 (by decide) zw0 (fun _ h9 => h9) rfl dX2_clearRow_1 ?_
  obtain ⟨zk4, h_4, hm⟩ := ob hm
  refine z_callWv (wc := (wN cI (ad 1) (ad 2) 256 zk)) (w1 := (wN cI (ad 1) (ad 2) 256 zk4)) (ws := (wL cI ad zk zm zb zs zr zu zt zf zg zbd zro zmc zmg zsp zjn)) (ws' := (wL cI ad zk4 zm zb zs zr zu zt zf zg zbd zro zmc zmg zsp zjn)) [1, 2] [0, 3, 4, 5, 6, 7, 8, 9, 10, 11, 12, 13, 14, 15, 16, 17] 18 (As := []) (rest := []) (ci := 0) (q := (RX0, TX0, 2)) ⟨hx, hb, hml, hown, hts⟩ (c_X0_clear l dC dI cI (ad 1) (ad 2) 256 zk F H.size zk4 h_4) (cwV 0 hts gX2_clearRow_X0_clear rfl rfl rfl kv_X0_clear ⟨Nat.le_of_ble_eq_true rfl, Nat.le_of_ble_eq_true rfl⟩) hK hP hD hS hA (hP.sub (ws' := (wN cI (ad 1) (ad 2) 256 zk)) [1, 2] rfl) (hD.sub (ws' := (wN cI (ad 1) (ad 2) 256 zk)) [1, 2] (by decide) rfl) rfl rfl (by decide) rfl rfl (by decide) rfl rfl rfl rfl rfl hl.1 rfl (Nat.le_of_ble_eq_true rfl) dX2_clearRow_4 ⟨Nat.zero_le _, Nat.zero_le _⟩ (fun H locs hP hD hS => ?_)
  refine lv_aload_n hx hb dX2_clearRow_7 rfl (lv_at hl 0 rfl) ?_
  refine va_get (D := (dC, dI)) (ci := 2) (v := .ref (ad 3)) (C := RX2) (T := TX2) (N := 15) hx hb hts ziX2 hown hK hP 0 rfl rfl 1 (by decide) zw1 (fun _ h9 => h9) rfl dX2_clearRow_8 ?_
  obtain ⟨zm11, h_11, hm⟩ := ob hm
  refine z_callWv (wc := (wN cI (ad 3) (ad 4) 256 zm)) (w1 := (wN cI (ad 3) (ad 4) 256 zm11)) (ws := (wL cI ad zk4 zm zb zs zr zu zt zf zg zbd zro zmc zmg zsp zjn)) (ws' := (wL cI ad zk4 zm11 zb zs zr zu zt zf zg zbd zro zmc zmg zsp zjn)) [3, 4] [0, 1, 2, 5, 6, 7, 8, 9, 10, 11, 12, 13, 14, 15, 16, 17] 18 (As := []) (rest := []) (ci := 0) (q := (RX0, TX0, 2)) ⟨hx, hb, hml, hown, hts⟩ (c_X0_clear l dC dI cI (ad 3) (ad 4) 256 zm F H.size zm11 h_11) (cwV 0 hts gX2_clearRow_X0_clear rfl rfl rfl kv_X0_clear ⟨Nat.le_of_ble_eq_true rfl, Nat.le_of_ble_eq_true rfl⟩) hK hP hD hS hA (hP.sub (ws' := (wN cI (ad 3) (ad 4) 256 zm)) [3, 4] rfl) (hD.sub (ws' := (wN cI (ad 3) (ad 4) 256 zm)) [3, 4] (by decide) rfl) rfl rfl (by decide) rfl rfl (by decide) rfl rfl rfl rfl rfl hl.1 rfl (Nat.le_of_ble_eq_true rfl) dX2_clearRow_11 ⟨Nat.zero_le _, Nat.zero_le _⟩ (fun H locs hP hD hS => ?_)
  refine lv_aload_n hx hb dX2_clearRow_14 rfl (lv_at hl 0 rfl) ?_
  refine lv_iconst (v := 0) hx hb dX2_clearRow_15 (by decide) ?_
  refine va_put (D := (dC, dI)) (ci := 2) (v := .int 0) (ty := .int) (C := RX2) (T := TX2) (N := 15) hx hb hts ziX2 tyX2 tyX2_ok nmX2 hown hK hP hD hS 0 rfl rfl 11 (by decide) zw2 (fun _ h9 => h9) rfl (by decide +kernel) rfl rfl (Nat.le_of_ble_eq_true rfl) dX2_clearRow_16 (fun H locs hP hD hS => ?_)
  have hP : va_P (dC, dI) vwCl (wL cI ad zk4 zm11 zb zs zr zu zt zf zg zbd zro 0 zmg zsp zjn) H := hP
  have hD : va_D A (wL cI ad zk4 zm11 zb zs zr zu zt zf zg zbd zro 0 zmg zsp zjn) := hD
  refine lv_aload_n hx hb dX2_clearRow_19 rfl (lv_at hl 0 rfl) ?_
  refine va_get (D := (dC, dI)) (ci := 2) (v := .ref (ad 5)) (C := RX2) (T := TX2) (N := 15) hx hb hts ziX2 hown hK hP 0 rfl rfl 2 (by decide) zw3 (fun _ h9 => h9) rfl dX2_clearRow_20 ?_
  obtain ⟨zb23, h_23, hm⟩ := ob hm
  refine z_callWv (wc := (wN cI (ad 5) (ad 6) 16 zb)) (w1 := (wN cI (ad 5) (ad 6) 16 zb23)) (ws := (wL cI ad zk4 zm11 zb zs zr zu zt zf zg zbd zro 0 zmg zsp zjn)) (ws' := (wL cI ad zk4 zm11 zb23 zs zr zu zt zf zg zbd zro 0 zmg zsp zjn)) [5, 6] [0, 1, 2, 3, 4, 7, 8, 9, 10, 11, 12, 13, 14, 15, 16, 17] 18 (As := []) (rest := []) (ci := 0) (q := (RX0, TX0, 2)) ⟨hx, hb, hml, hown, hts⟩ (c_X0_clear l dC dI cI (ad 5) (ad 6) 16 zb F H.size zb23 h_23) (cwV 0 hts gX2_clearRow_X0_clear rfl rfl rfl kv_X0_clear ⟨Nat.le_of_ble_eq_true rfl, Nat.le_of_ble_eq_true rfl⟩) hK hP hD hS hA (hP.sub (ws' := (wN cI (ad 5) (ad 6) 16 zb)) [5, 6] rfl) (hD.sub (ws' := (wN cI (ad 5) (ad 6) 16 zb)) [5, 6] (by decide) rfl) rfl rfl (by decide) rfl rfl (by decide) rfl rfl rfl rfl rfl hl.1 rfl (Nat.le_of_ble_eq_true rfl) dX2_clearRow_23 ⟨Nat.zero_le _, Nat.zero_le _⟩ (fun H locs hP hD hS => ?_)
  refine lv_aload_n hx hb dX2_clearRow_26 rfl (lv_at hl 0 rfl) ?_
  obtain ⟨⟨zs27, zr27, zu27⟩, h_27, hm⟩ := ob hm
  refine z_callWv (wc := (wL cI ad zk4 zm11 zb23 zs zr zu zt zf zg zbd zro 0 zmg zsp zjn)) (w1 := (wL cI ad zk4 zm11 zb23 zs27 zr27 zu27 zt zf zg zbd zro 0 zmg zsp zjn)) (ws := (wL cI ad zk4 zm11 zb23 zs zr zu zt zf zg zbd zro 0 zmg zsp zjn)) (ws' := (wL cI ad zk4 zm11 zb23 zs27 zr27 zu27 zt zf zg zbd zro 0 zmg zsp zjn)) [0, 1, 2, 3, 4, 5, 6, 7, 8, 9, 10, 11, 12, 13, 14, 15, 16, 17] [] 18 (As := []) (rest := []) (ci := 2) (q := (RX2, TX2, 15)) ⟨hx, hb, hml, hown, hts⟩ (c_X2_clearPieces l dC dI cI ad zk4 zm11 zb23 zs zr zu zt zf zg zbd zro 0 zmg zsp zjn F H.size zs27 zr27 zu27 h_27) (cwV 0 hts gX2_clearRow_X2_clearPieces rfl rfl rfl kv_X2_clearPieces ⟨Nat.le_of_ble_eq_true rfl, Nat.le_of_ble_eq_true rfl⟩) hK hP hD hS hA hP hD rfl rfl (by decide) rfl rfl (by decide) rfl rfl rfl rfl rfl hl.1 rfl (Nat.le_of_ble_eq_true rfl) dX2_clearRow_27 ⟨Nat.zero_le _, Nat.zero_le _⟩ (fun H locs hP hD hS => ?_)
  cases o2 hm
  exact W.vret hx hb hr (fun t ht hW => ⟨⟨(), rfl, trivial, by rw [ht]; exact hP, va_K.moved hW.alike hK, hD⟩, hS.F ht⟩) hS.2.2 dX2_clearRow_30
