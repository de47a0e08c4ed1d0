set_option maxHeartbeats 4000000 in
set_option maxRecDepth 100000 in
theorem c_X2_slopes (l : Launch) (dC : Nat → ClassId) (dI : Nat → Nat → Nat) (cI : ClassId) (ad : Nat → Nat) (zk : zN) (zm : zN) (zb : zN) (zs : zN) (zr : zN) (zu : zN) (zt : zT) (zf : zN) (zg : zN) (zbd : Int32) (zro : Int32) (zmc : Int32) (zmg : Int32) (zsp : Int32) (zjn : Int32) (F : Nat) (r : Int32) (hm : X2_slopes F zs zr zu = some r) : Met l yX2_slopes wsX2_slopes ({ frames := 4, cells := 0, slots := 0, locals := 86 }) (va_Pc [.ref (ad 0)] (zR (dC, dI) (wL cI ad zk zm zb zs zr zu zt zf zg zbd zro zmc zmg zsp zjn) [(cI, .int)])) (vp_Si (fun v => v = r)) 0 0 (fun _ => False) := by
  refine Met.ofW (cc := cX2_slopes) (maxL := 3) (ret := (some .int)) (by decide) rfl ?_
  intro p e s m args below meth c s₁ B hml hv
  obtain ⟨rfl, hP, hK⟩ := hv
  have hx := B.exec
  have hb := B.bytes
  have hr := B.returns
  have hts := atoms_spec (ws := wsX2_slopes) B.pre
  have hown : s.vm.findClass RX2 = some m.cls := findClass_of_methodNamed B.named
  have hlocks := B.notSynchronized
  have hl := lv_entry ([.ref (ad 0)]) (n := 3) (Nat.le_of_ble_eq_true rfl)
  rw [lg_entry_eq]
  generalize (lg_sl ([.ref (ad 0)]) ++ List.replicate (3 - (lg_sl ([.ref (ad 0)])).length) Slot.unset).toArray = ls at hl ⊢
  have hl : lv_has ls 3 [(0, .ref (ad 0))] := hl
  have zw0 := hts (.fieldLink RX2 24 "LearnedLedge" "starts" "LLearnedLedge$Numbers;") (List.mem_cons_of_mem _ (List.mem_append_left _ (List.mem_append_left _ (List.mem_append_left _ (List.mem_of_getElem? (i := 0) rfl)))))
  have ziX2 : ∀ w ∈ u_ws RX2 TX2 15, w ∈ wsX2_slopes := (fun _ h9 => (List.mem_cons_of_mem _ (List.mem_append_left _ (List.mem_append_right _ h9))))
  refine lv_iconst (v := 0) hx hb dX2_slopes_0 (by decide) ?_
  refine lv_istore_n (lv' := [(1, .int 0), (0, .ref (ad 0))]) hx hb dX2_slopes_1 rfl hl (by decide) rfl (fun ls hl => ?_)
  refine lv_iconst (v := 0) hx hb dX2_slopes_2 (by decide) ?_
  refine lv_istore_n (lv' := [(2, .int 0), (1, .int 0), (0, .ref (ad 0))]) hx hb dX2_slopes_3 rfl hl (by decide) rfl (fun ls hl => ?_)
  obtain ⟨z_4, hq_4, hm⟩ := ob hm
  have K_4 : ∀ (x1_2 : Int32), z_4 = x1_2 → ∀ (ls : Array Slot), lv_has ls 3 [(1, .int x1_2)] → W p l e (headSpec wsX2_slopes ({ frames := 4, cells := 0, slots := 0, locals := 86 } : Room)).room s m ([.ref (ad 0)] : List Value).toArray below meth c s.heap [] 0 0 (MQ below (vp_Si (fun v => v = r)) ([.ref (ad 0)] : List Value).toArray s 0 0 (fun _ => False)) (F0 m 33 ls []) := by
    intro x1_2 ez ls hl
    rw [ez] at hm
    refine lv_iload_n hx hb dX2_slopes_33 rfl (lv_at hl 0 rfl) ?_
    exact W.iret hx hb hr (fun t ht hW => ⟨_, rfl, (o2 hm).symm, ht⟩) (fun q h => absurd h List.not_mem_nil) dX2_slopes_34
  have L_4 : ∀ (n : Nat) (x2 : Int32) (x1 : Int32), X2_slopes_L4 zs zr zu F n x2 x1 = some z_4 → ∀ (ls : Array Slot), lv_has ls 3 [(2, .int x2), (1, .int x1), (0, .ref (ad 0))] → W p l e (headSpec wsX2_slopes ({ frames := 4, cells := 0, slots := 0, locals := 86 } : Room)).room s m ([.ref (ad 0)] : List Value).toArray below meth c s.heap [] 0 0 (MQ below (vp_Si (fun v => v = r)) ([.ref (ad 0)] : List Value).toArray s 0 0 (fun _ => False)) (F0 m 4 ls []) := by
    intro n
    induction n with
    | zero => intro x2 x1 hm; cases hm
    | succ n ih_4 =>
      intro x2 x1 hm ls hl
      refine lv_iload_n hx hb dX2_slopes_4 rfl (lv_at hl 0 rfl) ?_
      refine lv_aload_n hx hb dX2_slopes_5 rfl (lv_at hl 2 rfl) ?_
      refine va_get (D := (dC, dI)) (ci := 2) (v := .ref (ad 7)) (C := RX2) (T := TX2) (N := 15) hx hb hts ziX2 hown hK hP 0 rfl rfl 3 (by decide) zw0 (fun _ h9 => h9) rfl dX2_slopes_6 ?_
      obtain ⟨r9, h_9, hm⟩ := ob hm
      refine z_callRi (As := []) (rest := [.int x2]) (ci := 0) (q := (RX0, TX0, 2)) ⟨hx, hb, hml, hown, hts⟩ (c_X0_length l dC dI cI (ad 7) (ad 8) 256 zs F r9 h_9) (cwV 0 hts gX2_slopes_X0_length rfl rfl rfl kv_X0_length ⟨Nat.le_of_ble_eq_true rfl, Nat.le_of_ble_eq_true rfl⟩) hK (z_mid (pjL_zs cI ad zk zm zb zs zr zu zt zf zg zbd zro zmc zmg zsp zjn zs) hP) rfl rfl rfl rfl hl.1 rfl (Nat.le_of_ble_eq_true rfl) dX2_slopes_9 ⟨Nat.zero_le _, Nat.zero_le _⟩ ?_
      refine lv_icmp_ge (tgt := 33) hx hb dX2_slopes_12 (by decide) (fun c_12 => ?_) (fun c_12 => ?_)
      · have hm := it_t hm c_12
        exact K_4 x1 (o2 hm) _ (lv_sub hl [1] rfl)
      · have hm := it_f hm c_12
        refine lv_aload_n hx hb dX2_slopes_15 rfl (lv_at hl 2 rfl) ?_
        refine lv_iload_n hx hb dX2_slopes_16 rfl (lv_at hl 0 rfl) ?_
        obtain ⟨r17, h_17, hm⟩ := ob hm
        refine z_callRi (As := [.int x2]) (rest := []) (ci := 2) (q := (RX2, TX2, 15)) ⟨hx, hb, hml, hown, hts⟩ (c_X2_firstAlike l dC dI cI ad zk zm zb zs zr zu zt zf zg zbd zro zmc zmg zsp zjn F x2 r17 h_17) (cwV 1 hts gX2_slopes_X2_firstAlike rfl rfl rfl kv_X2_firstAlike ⟨Nat.le_of_ble_eq_true rfl, Nat.le_of_ble_eq_true rfl⟩) hK hP rfl rfl rfl rfl hl.1 rfl (Nat.le_of_ble_eq_true rfl) dX2_slopes_17 ⟨Nat.zero_le _, Nat.zero_le _⟩ ?_
        refine lv_iload_n hx hb dX2_slopes_20 rfl (lv_at hl 0 rfl) ?_
        refine lv_icmp_ne (tgt := 27) hx hb dX2_slopes_21 (by decide) (fun c_21 => ?_) (fun c_21 => ?_)
        · have hm := it_f hm c_21
          obtain ⟨x2_1, e_x2_1⟩ : ∃ y : Int32, y = x2 + 1 := ⟨_, rfl⟩
          have hm := bnd_e hm e_x2_1
          refine lv_iinc (v := x2_1) (lv' := [(2, .int x2_1), (1, .int x1), (0, .ref (ad 0))]) hx hb dX2_slopes_27 hl (k := 0) rfl (by rw [e_x2_1]; rfl) (by decide) rfl (fun ls hl => ?_)
          refine lv_goto (tgt := 4) hx hb dX2_slopes_30 (by decide) ?_
          exact ih_4 x2_1 x1 hm _ (lv_sub hl [0, 1, 2] rfl)
        · have hm := it_t hm c_21
          obtain ⟨x1_1, e_x1_1⟩ : ∃ y : Int32, y = x1 + 1 := ⟨_, rfl⟩
          have hm := bnd_e hm e_x1_1
          refine lv_iinc (v := x1_1) (lv' := [(1, .int x1_1), (2, .int x2), (0, .ref (ad 0))]) hx hb dX2_slopes_24 hl (k := 1) rfl (by rw [e_x1_1]; rfl) (by decide) rfl (fun ls hl => ?_)
          obtain ⟨x2_2, e_x2_2⟩ : ∃ y : Int32, y = x2 + 1 := ⟨_, rfl⟩
          have hm := bnd_e hm e_x2_2
          refine lv_iinc (v := x2_2) (lv' := [(2, .int x2_2), (1, .int x1_1), (0, .ref (ad 0))]) hx hb dX2_slopes_27 hl (k := 1) rfl (by rw [e_x2_2]; rfl) (by decide) rfl (fun ls hl => ?_)
          refine lv_goto (tgt := 4) hx hb dX2_slopes_30 (by decide) ?_
          exact ih_4 x2_2 x1_1 hm _ (lv_sub hl [0, 1, 2] rfl)
  exact L_4 F 0 0 hq_4 _ (lv_sub hl [0, 1, 2] rfl)
set_option maxHeartbeats 4000000 in
set_option maxRecDepth 100000 in
theorem c_X2_alikeFrom (l : Launch) (dC : Nat → ClassId) (dI : Nat → Nat → Nat) (cI : ClassId) (ad : Nat → Nat) (zk : zN) (zm : zN) (zb : zN) (zs : zN) (zr : zN) (zu : zN) (zt : zT) (zf : zN) (zg : zN) (zbd : Int32) (zro : Int32) (zmc : Int32) (zmg : Int32) (zsp : Int32) (zjn : Int32) (F : Nat) (p1 : Int32) (r : Int32) (hm : X2_alikeFrom F zs zr zu p1 = some r) : Met l yX2_alikeFrom wsX2_alikeFrom ({ frames := 3, cells := 0, slots := 0, locals := 64 }) (va_Pc [.ref (ad 0), .int p1] (zR (dC, dI) (wL cI ad zk zm zb zs zr zu zt zf zg zbd zro zmc zmg zsp zjn) [(cI, .int)])) (vp_Si (fun v => v = r)) 0 0 (fun _ => False) := by
  refine Met.ofW (cc := cX2_alikeFrom) (maxL := 4) (ret := (some .int)) (by decide) rfl ?_
  intro p e s m args below meth c s₁ B hml hv
  obtain ⟨rfl, hP, hK⟩ := hv
  have hx := B.exec
  have hb := B.bytes
  have hr := B.returns
  have hts := atoms_spec (ws := wsX2_alikeFrom) B.pre
  have hown : s.vm.findClass RX2 = some m.cls := findClass_of_methodNamed B.named
  have hlocks := B.notSynchronized
  have hl := lv_entry ([.ref (ad 0), .int p1]) (n := 4) (Nat.le_of_ble_eq_true rfl)
  rw [lg_entry_eq]
  generalize (lg_sl ([.ref (ad 0), .int p1]) ++ List.replicate (4 - (lg_sl ([.ref (ad 0), .int p1])).length) Slot.unset).toArray = ls at hl ⊢
  have hl : lv_has ls 4 [(0, .ref (ad 0)), (1, .int p1)] := hl
  have zw0 := hts (.fieldLink RX2 24 "LearnedLedge" "starts" "LLearnedLedge$Numbers;") (List.mem_cons_of_mem _ (List.mem_append_left _ (List.mem_append_left _ (List.mem_of_getElem? (i := 0) rfl))))
  have ziX2 : ∀ w ∈ u_ws RX2 TX2 15, w ∈ wsX2_alikeFrom := (fun _ h9 => (List.mem_cons_of_mem _ (List.mem_append_left _ (List.mem_append_right _ h9))))
  refine lv_iconst (v := 0) hx hb dX2_alikeFrom_0 (by decide) ?_
  refine lv_istore_n (lv' := [(2, .int 0), (0, .ref (ad 0)), (1, .int p1)]) hx hb dX2_alikeFrom_1 rfl hl (by decide) rfl (fun ls hl => ?_)
  refine lv_iload_n hx hb dX2_alikeFrom_2 rfl (lv_at hl 2 rfl) ?_
  refine lv_istore_n (lv' := [(3, .int p1), (2, .int 0), (0, .ref (ad 0)), (1, .int p1)]) hx hb dX2_alikeFrom_3 rfl hl (by decide) rfl (fun ls hl => ?_)
  obtain ⟨z_4, hq_4, hm⟩ := ob hm
  have K_4 : ∀ (x2_2 : Int32), z_4 = x2_2 → ∀ (ls : Array Slot), lv_has ls 4 [(2, .int x2_2)] → W p l e (headSpec wsX2_alikeFrom ({ frames := 3, cells := 0, slots := 0, locals := 64 } : Room)).room s m ([.ref (ad 0), .int p1] : List Value).toArray below meth c s.heap [] 0 0 (MQ below (vp_Si (fun v => v = r)) ([.ref (ad 0), .int p1] : List Value).toArray s 0 0 (fun _ => False)) (F0 m 33 ls []) := by
    intro x2_2 ez ls hl
    rw [ez] at hm
    refine lv_iload_n hx hb dX2_alikeFrom_33 rfl (lv_at hl 0 rfl) ?_
    exact W.iret hx hb hr (fun t ht hW => ⟨_, rfl, (o2 hm).symm, ht⟩) (fun q h => absurd h List.not_mem_nil) dX2_alikeFrom_34
  have L_4 : ∀ (n : Nat) (x3 : Int32) (x2 : Int32), X2_alikeFrom_L4 p1 zs zr zu F n x3 x2 = some z_4 → ∀ (ls : Array Slot), lv_has ls 4 [(3, .int x3), (2, .int x2), (0, .ref (ad 0)), (1, .int p1)] → W p l e (headSpec wsX2_alikeFrom ({ frames := 3, cells := 0, slots := 0, locals := 64 } : Room)).room s m ([.ref (ad 0), .int p1] : List Value).toArray below meth c s.heap [] 0 0 (MQ below (vp_Si (fun v => v = r)) ([.ref (ad 0), .int p1] : List Value).toArray s 0 0 (fun _ => False)) (F0 m 4 ls []) := by
    intro n
    induction n with
    | zero => intro x3 x2 hm; cases hm
    | succ n ih_4 =>
      intro x3 x2 hm ls hl
      refine lv_iload_n hx hb dX2_alikeFrom_4 rfl (lv_at hl 0 rfl) ?_
      refine lv_aload_n hx hb dX2_alikeFrom_5 rfl (lv_at hl 2 rfl) ?_
      refine va_get (D := (dC, dI)) (ci := 2) (v := .ref (ad 7)) (C := RX2) (T := TX2) (N := 15) hx hb hts ziX2 hown hK hP 0 rfl rfl 3 (by decide) zw0 (fun _ h9 => h9) rfl dX2_alikeFrom_6 ?_
      obtain ⟨r9, h_9, hm⟩ := ob hm
      refine z_callRi (As := []) (rest := [.int x3]) (ci := 0) (q := (RX0, TX0, 2)) ⟨hx, hb, hml, hown, hts⟩ (c_X0_length l dC dI cI (ad 7) (ad 8) 256 zs F r9 h_9) (cwV 0 hts gX2_alikeFrom_X0_length rfl rfl rfl kv_X0_length ⟨Nat.le_of_ble_eq_true rfl, Nat.le_of_ble_eq_true rfl⟩) hK (z_mid (pjL_zs cI ad zk zm zb zs zr zu zt zf zg zbd zro zmc zmg zsp zjn zs) hP) rfl rfl rfl rfl hl.1 rfl (Nat.le_of_ble_eq_true rfl) dX2_alikeFrom_9 ⟨Nat.zero_le _, Nat.zero_le _⟩ ?_
      refine lv_icmp_ge (tgt := 33) hx hb dX2_alikeFrom_12 (by decide) (fun c_12 => ?_) (fun c_12 => ?_)
      · have hm := it_t hm c_12
        exact K_4 x2 (o2 hm) _ (lv_sub hl [1] rfl)
      · have hm := it_f hm c_12
        refine lv_aload_n hx hb dX2_alikeFrom_15 rfl (lv_at hl 2 rfl) ?_
        refine lv_iload_n hx hb dX2_alikeFrom_16 rfl (lv_at hl 3 rfl) ?_
        refine lv_iload_n hx hb dX2_alikeFrom_17 rfl (lv_at hl 0 rfl) ?_
        obtain ⟨r18, h_18, hm⟩ := ob hm
        refine z_callRi (As := [.int p1, .int x3]) (rest := []) (ci := 2) (q := (RX2, TX2, 15)) ⟨hx, hb, hml, hown, hts⟩ (c_X2_alike l dC dI cI ad zk zm zb zs zr zu zt zf zg zbd zro zmc zmg zsp zjn F p1 x3 r18 h_18) (cwV 2 hts gX2_alikeFrom_X2_alike rfl rfl rfl kv_X2_alike ⟨Nat.le_of_ble_eq_true rfl, Nat.le_of_ble_eq_true rfl⟩) hK hP rfl rfl rfl rfl hl.1 rfl (Nat.le_of_ble_eq_true rfl) dX2_alikeFrom_18 ⟨Nat.zero_le _, Nat.zero_le _⟩ ?_
        refine lv_if_eq (tgt := 27) hx hb dX2_alikeFrom_21 (by decide) (fun c_21 => ?_) (fun c_21 => ?_)
        · have hm := it_t hm c_21
          obtain ⟨x3_1, e_x3_1⟩ : ∃ y : Int32, y = x3 + 1 := ⟨_, rfl⟩
          have hm := bnd_e hm e_x3_1
          refine lv_iinc (v := x3_1) (lv' := [(3, .int x3_1), (2, .int x2), (0, .ref (ad 0)), (1, .int p1)]) hx hb dX2_alikeFrom_27 hl (k := 0) rfl (by rw [e_x3_1]; rfl) (by decide) rfl (fun ls hl => ?_)
          refine lv_goto (tgt := 4) hx hb dX2_alikeFrom_30 (by decide) ?_
          exact ih_4 x3_1 x2 hm _ (lv_sub hl [0, 1, 2, 3] rfl)
        · have hm := it_f hm c_21
          obtain ⟨x2_1, e_x2_1⟩ : ∃ y : Int32, y = x2 + 1 := ⟨_, rfl⟩
          have hm := bnd_e hm e_x2_1
          refine lv_iinc (v := x2_1) (lv' := [(2, .int x2_1), (3, .int x3), (0, .ref (ad 0)), (1, .int p1)]) hx hb dX2_alikeFrom_24 hl (k := 1) rfl (by rw [e_x2_1]; rfl) (by decide) rfl (fun ls hl => ?_)
          obtain ⟨x3_2, e_x3_2⟩ : ∃ y : Int32, y = x3 + 1 := ⟨_, rfl⟩
          have hm := bnd_e hm e_x3_2
          refine lv_iinc (v := x3_2) (lv' := [(3, .int x3_2), (2, .int x2_1), (0, .ref (ad 0)), (1, .int p1)]) hx hb dX2_alikeFrom_27 hl (k := 1) rfl (by rw [e_x3_2]; rfl) (by decide) rfl (fun ls hl => ?_)
          refine lv_goto (tgt := 4) hx hb dX2_alikeFrom_30 (by decide) ?_
          exact ih_4 x3_2 x2_1 hm _ (lv_sub hl [0, 1, 2, 3] rfl)
  exact L_4 F p1 0 hq_4 _ (lv_sub hl [0, 1, 2, 3] rfl)
set_option maxHeartbeats 4000000 in
set_option maxRecDepth 100000 in
theorem c_X2_commonest (l : Launch) (dC : Nat → ClassId) (dI : Nat → Nat → Nat) (cI : ClassId) (ad : Nat → Nat) (zk : zN) (zm : zN) (zb : zN) (zs : zN) (zr : zN) (zu : zN) (zt : zT) (zf : zN) (zg : zN) (zbd : Int32) (zro : Int32) (zmc : Int32) (zmg : Int32) (zsp : Int32) (zjn : Int32) (F : Nat) (r : Int32) (hm : X2_commonest F zs zr zu = some r) : Met l yX2_commonest wsX2_commonest ({ frames := 4, cells := 0, slots := 0, locals := 87 }) (va_Pc [.ref (ad 0)] (zR (dC, dI) (wL cI ad zk zm zb zs zr zu zt zf zg zbd zro zmc zmg zsp zjn) [(cI, .int)])) (vp_Si (fun v => v = r)) 0 0 (fun _ => False) := by
  refine Met.ofW (cc := cX2_commonest) (maxL := 5) (ret := (some .int)) (by decide) rfl ?_
  intro p e s m args below meth c s₁ B hml hv
  obtain ⟨rfl, hP, hK⟩ := hv
  have hx := B.exec
  have hb := B.bytes
  have hr := B.returns
  have hts := atoms_spec (ws := wsX2_commonest) B.pre
  have hown : s.vm.findClass RX2 = some m.cls := findClass_of_methodNamed B.named
  have hlocks := B.notSynchronized
  have hl := lv_entry ([.ref (ad 0)]) (n := 5) (Nat.le_of_ble_eq_true rfl)
  rw [lg_entry_eq]
  generalize (lg_sl ([.ref (ad 0)]) ++ List.replicate (5 - (lg_sl ([.ref (ad 0)])).length) Slot.unset).toArray = ls at hl ⊢
  have hl : lv_has ls 5 [(0, .ref (ad 0))] := hl
  have zw0 := hts (.fieldLink RX2 24 "LearnedLedge" "starts" "LLearnedLedge$Numbers;") (List.mem_cons_of_mem _ (List.mem_append_left _ (List.mem_append_left _ (List.mem_append_left _ (List.mem_of_getElem? (i := 0) rfl)))))
  have ziX2 : ∀ w ∈ u_ws RX2 TX2 15, w ∈ wsX2_commonest := (fun _ h9 => (List.mem_cons_of_mem _ (List.mem_append_left _ (List.mem_append_right _ h9))))
  refine lv_iconst (v := (-1)) hx hb dX2_commonest_0 (by decide) ?_
  refine lv_istore_n (lv' := [(1, .int (-1)), (0, .ref (ad 0))]) hx hb dX2_commonest_1 rfl hl (by decide) rfl (fun ls hl => ?_)
  refine lv_iconst (v := 0) hx hb dX2_commonest_2 (by decide) ?_
  refine lv_istore_n (lv' := [(2, .int 0), (1, .int (-1)), (0, .ref (ad 0))]) hx hb dX2_commonest_3 rfl hl (by decide) rfl (fun ls hl => ?_)
  refine lv_iconst (v := 0) hx hb dX2_commonest_4 (by decide) ?_
  refine lv_istore_n (lv' := [(3, .int 0), (2, .int 0), (1, .int (-1)), (0, .ref (ad 0))]) hx hb dX2_commonest_5 rfl hl (by decide) rfl (fun ls hl => ?_)
  obtain ⟨z_6, hq_6, hm⟩ := ob hm
  have K_6 : ∀ (x1_1 : Int32), z_6 = x1_1 → ∀ (ls : Array Slot), lv_has ls 5 [(1, .int x1_1)] → W p l e (headSpec wsX2_commonest ({ frames := 4, cells := 0, slots := 0, locals := 87 } : Room)).room s m ([.ref (ad 0)] : List Value).toArray below meth c s.heap [] 0 0 (MQ below (vp_Si (fun v => v = r)) ([.ref (ad 0)] : List Value).toArray s 0 0 (fun _ => False)) (F0 m 41 ls []) := by
    intro x1_1 ez ls hl
    rw [ez] at hm
    refine lv_iload_n hx hb dX2_commonest_41 rfl (lv_at hl 0 rfl) ?_
    exact W.iret hx hb hr (fun t ht hW => ⟨_, rfl, (o2 hm).symm, ht⟩) (fun q h => absurd h List.not_mem_nil) dX2_commonest_42
  have L_6 : ∀ (n : Nat) (x3 : Int32) (x2 : Int32) (x1 : Int32), X2_commonest_L6 zs zr zu F n x3 x2 x1 = some z_6 → ∀ (ls : Array Slot), lv_has ls 5 [(3, .int x3), (2, .int x2), (1, .int x1), (0, .ref (ad 0))] → W p l e (headSpec wsX2_commonest ({ frames := 4, cells := 0, slots := 0, locals := 87 } : Room)).room s m ([.ref (ad 0)] : List Value).toArray below meth c s.heap [] 0 0 (MQ below (vp_Si (fun v => v = r)) ([.ref (ad 0)] : List Value).toArray s 0 0 (fun _ => False)) (F0 m 6 ls []) := by
    intro n
    induction n with
    | zero => intro x3 x2 x1 hm; cases hm
    | succ n ih_6 =>
      intro x3 x2 x1 hm ls hl
      refine lv_iload_n hx hb dX2_commonest_6 rfl (lv_at hl 0 rfl) ?_
      refine lv_aload_n hx hb dX2_commonest_7 rfl (lv_at hl 3 rfl) ?_
      refine va_get (D := (dC, dI)) (ci := 2) (v := .ref (ad 7)) (C := RX2) (T := TX2) (N := 15) hx hb hts ziX2 hown hK hP 0 rfl rfl 3 (by decide) zw0 (fun _ h9 => h9) rfl dX2_commonest_8 ?_
      obtain ⟨r11, h_11, hm⟩ := ob hm
      refine z_callRi (As := []) (rest := [.int x3]) (ci := 0) (q := (RX0, TX0, 2)) ⟨hx, hb, hml, hown, hts⟩ (c_X0_length l dC dI cI (ad 7) (ad 8) 256 zs F r11 h_11) (cwV 0 hts gX2_commonest_X0_length rfl rfl rfl kv_X0_length ⟨Nat.le_of_ble_eq_true rfl, Nat.le_of_ble_eq_true rfl⟩) hK (z_mid (pjL_zs cI ad zk zm zb zs zr zu zt zf zg zbd zro zmc zmg zsp zjn zs) hP) rfl rfl rfl rfl hl.1 rfl (Nat.le_of_ble_eq_true rfl) dX2_commonest_11 ⟨Nat.zero_le _, Nat.zero_le _⟩ ?_
      refine lv_icmp_ge (tgt := 41) hx hb dX2_commonest_14 (by decide) (fun c_14 => ?_) (fun c_14 => ?_)
      · have hm := it_t hm c_14
        exact K_6 x1 (o2 hm) _ (lv_sub hl [2] rfl)
      · have hm := it_f hm c_14
        refine lv_aload_n hx hb dX2_commonest_17 rfl (lv_at hl 3 rfl) ?_
        refine lv_iload_n hx hb dX2_commonest_18 rfl (lv_at hl 0 rfl) ?_
        obtain ⟨r19, h_19, hm⟩ := ob hm
        refine z_callRi (As := [.int x3]) (rest := []) (ci := 2) (q := (RX2, TX2, 15)) ⟨hx, hb, hml, hown, hts⟩ (c_X2_alikeFrom l dC dI cI ad zk zm zb zs zr zu zt zf zg zbd zro zmc zmg zsp zjn F x3 r19 h_19) (cwV 1 hts gX2_commonest_X2_alikeFrom rfl rfl rfl kv_X2_alikeFrom ⟨Nat.le_of_ble_eq_true rfl, Nat.le_of_ble_eq_true rfl⟩) hK hP rfl rfl rfl rfl hl.1 rfl (Nat.le_of_ble_eq_true rfl) dX2_commonest_19 ⟨Nat.zero_le _, Nat.zero_le _⟩ ?_
        refine lv_istore (lv' := [(4, .int r19), (3, .int x3), (2, .int x2), (1, .int x1), (0, .ref (ad 0))]) hx hb dX2_commonest_22 hl (by decide) rfl (fun ls hl => ?_)
        refine lv_iload hx hb dX2_commonest_24 (lv_at hl 0 rfl) ?_
        refine lv_iload_n hx hb dX2_commonest_26 rfl (lv_at hl 2 rfl) ?_
        refine lv_icmp_le (tgt := 35) hx hb dX2_commonest_27 (by decide) (fun c_27 => ?_) (fun c_27 => ?_)
        · have hm := it_t hm c_27
          obtain ⟨x3_1, e_x3_1⟩ : ∃ y : Int32, y = x3 + 1 := ⟨_, rfl⟩
          have hm := bnd_e hm e_x3_1
          refine lv_iinc (v := x3_1) (lv' := [(3, .int x3_1), (4, .int r19), (2, .int x2), (1, .int x1), (0, .ref (ad 0))]) hx hb dX2_commonest_35 hl (k := 1) rfl (by rw [e_x3_1]; rfl) (by decide) rfl (fun ls hl => ?_)
          refine lv_goto (tgt := 6) hx hb dX2_commonest_38 (by decide) ?_
          exact ih_6 x3_1 x2 x1 hm _ (lv_sub hl [0, 2, 3, 4] rfl)
        · have hm := it_f hm c_27
          refine lv_iload hx hb dX2_commonest_30 (lv_at hl 0 rfl) ?_
          refine lv_istore_n (lv' := [(2, .int r19), (4, .int r19), (3, .int x3), (1, .int x1), (0, .ref (ad 0))]) hx hb dX2_commonest_32 rfl hl (by decide) rfl (fun ls hl => ?_)
          refine lv_iload_n hx hb dX2_commonest_33 rfl (lv_at hl 2 rfl) ?_
          refine lv_istore_n (lv' := [(1, .int x3), (2, .int r19), (4, .int r19), (3, .int x3), (0, .ref (ad 0))]) hx hb dX2_commonest_34 rfl hl (by decide) rfl (fun ls hl => ?_)
          obtain ⟨x3_2, e_x3_2⟩ : ∃ y : Int32, y = x3 + 1 := ⟨_, rfl⟩
          have hm := bnd_e hm e_x3_2
          refine lv_iinc (v := x3_2) (lv' := [(3, .int x3_2), (1, .int x3), (2, .int r19), (4, .int r19), (0, .ref (ad 0))]) hx hb dX2_commonest_35 hl (k := 3) rfl (by rw [e_x3_2]; rfl) (by decide) rfl (fun ls hl => ?_)
          refine lv_goto (tgt := 6) hx hb dX2_commonest_38 (by decide) ?_
          exact ih_6 x3_2 r19 x3 hm _ (lv_sub hl [0, 2, 1, 4] rfl)
  exact L_6 F 0 0 (-1) hq_6 _ (lv_sub hl [0, 1, 2, 3] rfl)
set_option maxHeartbeats 4000000 in
set_option maxRecDepth 100000 in
theorem c_X2_buffered (l : Launch) (dC : Nat → ClassId) (dI : Nat → Nat → Nat) (cI : ClassId) (ad : Nat → Nat) (zk : zN) (zm : zN) (zb : zN) (zs : zN) (zr : zN) (zu : zN) (zt : zT) (zf : zN) (zg : zN) (zbd : Int32) (zro : Int32) (zmc : Int32) (zmg : Int32) (zsp : Int32) (zjn : Int32) (F : Nat) (r : Int32) (hm : X2_buffered F zb = some r) : Met l yX2_buffered wsX2_buffered ({ frames := 1, cells := 0, slots := 0, locals := 20 }) (va_Pc [.ref (ad 0)] (zR (dC, dI) (wL cI ad zk zm zb zs zr zu zt zf zg zbd zro zmc zmg zsp zjn) [(cI, .int)])) (vp_Si (fun v => v = r)) 0 0 (fun _ => False) := by
  refine Met.ofW (cc := cX2_buffered) (maxL := 1) (ret := (some .int)) (by decide) rfl ?_
  intro p e s m args below meth c s₁ B hml hv
  obtain ⟨rfl, hP, hK⟩ := hv
  have hx := B.exec
  have hb := B.bytes
  have hr := B.returns
  have hts := atoms_spec (ws := wsX2_buffered) B.pre
  have hown : s.vm.findClass RX2 = some m.cls := findClass_of_methodNamed B.named
  have hlocks := B.notSynchronized
  have hl := lv_entry ([.ref (ad 0)]) (n := 1) (Nat.le_of_ble_eq_true rfl)
  rw [lg_entry_eq]
  generalize (lg_sl ([.ref (ad 0)]) ++ List.replicate (1 - (lg_sl ([.ref (ad 0)])).length) Slot.unset).toArray = ls at hl ⊢
  have hl : lv_has ls 1 [(0, .ref (ad 0))] := hl
  have zw0 := hts (.fieldLink RX2 21 "LearnedLedge" "buffer" "LLearnedLedge$Numbers;") (List.mem_cons_of_mem _ (List.mem_append_left _ (List.mem_append_left _ (List.mem_of_getElem? (i := 0) rfl))))
  have ziX2 : ∀ w ∈ u_ws RX2 TX2 15, w ∈ wsX2_buffered := (fun _ h9 => (List.mem_cons_of_mem _ (List.mem_append_left _ (List.mem_append_right _ h9))))
  refine lv_aload_n hx hb dX2_buffered_0 rfl (lv_at hl 0 rfl) ?_
  refine va_get (D := (dC, dI)) (ci := 2) (v := .ref (ad 5)) (C := RX2) (T := TX2) (N := 15) hx hb hts ziX2 hown hK hP 0 rfl rfl 2 (by decide) zw0 (fun _ h9 => h9) rfl dX2_buffered_1 ?_
  obtain ⟨r4, h_4, hm⟩ := ob hm
  refine z_callRi (As := []) (rest := []) (ci := 0) (q := (RX0, TX0, 2)) ⟨hx, hb, hml, hown, hts⟩ (c_X0_length l dC dI cI (ad 5) (ad 6) 16 zb F r4 h_4) (cwV 0 hts gX2_buffered_X0_length rfl rfl rfl kv_X0_length ⟨Nat.le_of_ble_eq_true rfl, Nat.le_of_ble_eq_true rfl⟩) hK (z_mid (pjL_zb cI ad zk zm zb zs zr zu zt zf zg zbd zro zmc zmg zsp zjn zb) hP) rfl rfl rfl rfl hl.1 rfl (Nat.le_of_ble_eq_true rfl) dX2_buffered_4 ⟨Nat.zero_le _, Nat.zero_le _⟩ ?_
  exact W.iret hx hb hr (fun t ht hW => ⟨_, rfl, (o2 hm).symm, ht⟩) (fun q h => absurd h List.not_mem_nil) dX2_buffered_7
set_option maxHeartbeats 4000000 in
set_option maxRecDepth 100000 in
theorem c_X2_marked (l : Launch) (dC : Nat → ClassId) (dI : Nat → Nat → Nat) (cI : ClassId) (ad : Nat → Nat) (zk : zN) (zm : zN) (zb : zN) (zs : zN) (zr : zN) (zu : zN) (zt : zT) (zf : zN) (zg : zN) (zbd : Int32) (zro : Int32) (zmc : Int32) (zmg : Int32) (zsp : Int32) (zjn : Int32) (F : Nat) (r : Int32) (hm : X2_marked F zmc = some r) : Met l yX2_marked wsX2_marked ({ frames := 0, cells := 0, slots := 0, locals := 0 }) (va_Pc [.ref (ad 0)] (zR (dC, dI) (wL cI ad zk zm zb zs zr zu zt zf zg zbd zro zmc zmg zsp zjn) [(cI, .int)])) (vp_Si (fun v => v = r)) 0 0 (fun _ => False) := by
  refine Met.ofW (cc := cX2_marked) (maxL := 1) (ret := (some .int)) (by decide) rfl ?_
  intro p e s m args below meth c s₁ B hml hv
  obtain ⟨rfl, hP, hK⟩ := hv
  have hx := B.exec
  have hb := B.bytes
  have hr := B.returns
  have hts := atoms_spec (ws := wsX2_marked) B.pre
  have hown : s.vm.findClass RX2 = some m.cls := findClass_of_methodNamed B.named
  have hlocks := B.notSynchronized
  have hl := lv_entry ([.ref (ad 0)]) (n := 1) (Nat.le_of_ble_eq_true rfl)
  rw [lg_entry_eq]
  generalize (lg_sl ([.ref (ad 0)]) ++ List.replicate (1 - (lg_sl ([.ref (ad 0)])).length) Slot.unset).toArray = ls at hl ⊢
  have hl : lv_has ls 1 [(0, .ref (ad 0))] := hl
  have zw0 := hts (.fieldLink RX2 53 "LearnedLedge" "markCount" "I") (List.mem_cons_of_mem _ (List.mem_append_left _ (List.mem_of_getElem? (i := 0) rfl)))
  have ziX2 : ∀ w ∈ u_ws RX2 TX2 15, w ∈ wsX2_marked := (fun _ h9 => (List.mem_cons_of_mem _ (List.mem_append_right _ h9)))
  refine lv_aload_n hx hb dX2_marked_0 rfl (lv_at hl 0 rfl) ?_
  refine va_get (D := (dC, dI)) (ci := 2) (v := .int zmc) (C := RX2) (T := TX2) (N := 15) hx hb hts ziX2 hown hK hP 0 rfl rfl 11 (by decide) zw0 (fun _ h9 => h9) rfl dX2_marked_1 ?_
  exact W.iret hx hb hr (fun t ht hW => ⟨_, rfl, (o2 hm).symm, ht⟩) (fun q h => absurd h List.not_mem_nil) dX2_marked_4
set_option maxHeartbeats 4000000 in
set_option maxRecDepth 100000 in
theorem c_X2_rowSize (l : Launch) (dC : Nat → ClassId) (dI : Nat → Nat → Nat) (cI : ClassId) (ad : Nat → Nat) (zk : zN) (zm : zN) (zb : zN) (zs : zN) (zr : zN) (zu : zN) (zt : zT) (zf : zN) (zg : zN) (zbd : Int32) (zro : Int32) (zmc : Int32) (zmg : Int32) (zsp : Int32) (zjn : Int32) (F : Nat) (r : Int32) (hm : X2_rowSize F zk = some r) : Met l yX2_rowSize wsX2_rowSize ({ frames := 1, cells := 0, slots := 0, locals := 20 }) (va_Pc [.ref (ad 0)] (zR (dC, dI) (wL cI ad zk zm zb zs zr zu zt zf zg zbd zro zmc zmg zsp zjn) [(cI, .int)])) (vp_Si (fun v => v = r)) 0 0 (fun _ => False) := by
  refine Met.ofW (cc := cX2_rowSize) (maxL := 1) (ret := (some .int)) (by decide) rfl ?_
  intro p e s m args below meth c s₁ B hml hv
  obtain ⟨rfl, hP, hK⟩ := hv
  have hx := B.exec
  have hb := B.bytes
  have hr := B.returns
  have hts := atoms_spec (ws := wsX2_rowSize) B.pre
  have hown : s.vm.findClass RX2 = some m.cls := findClass_of_methodNamed B.named
  have hlocks := B.notSynchronized
  have hl := lv_entry ([.ref (ad 0)]) (n := 1) (Nat.le_of_ble_eq_true rfl)
  rw [lg_entry_eq]
  generalize (lg_sl ([.ref (ad 0)]) ++ List.replicate (1 - (lg_sl ([.ref (ad 0)])).length) Slot.unset).toArray = ls at hl ⊢
  have hl : lv_has ls 1 [(0, .ref (ad 0))] := hl
  have zw0 := hts (.fieldLink RX2 14 "LearnedLedge" "keys" "LLearnedLedge$Numbers;") (List.mem_cons_of_mem _ (List.mem_append_left _ (List.mem_append_left _ (List.mem_of_getElem? (i := 0) rfl))))
  have ziX2 : ∀ w ∈ u_ws RX2 TX2 15, w ∈ wsX2_rowSize := (fun _ h9 => (List.mem_cons_of_mem _ (List.mem_append_left _ (List.mem_append_right _ h9))))
  refine lv_aload_n hx hb dX2_rowSize_0 rfl (lv_at hl 0 rfl) ?_
  refine va_get (D := (dC, dI)) (ci := 2) (v := .ref (ad 1)) (C := RX2) (T := TX2) (N := 15) hx hb hts ziX2 hown hK hP 0 rfl rfl 0 (by decide) zw0 (fun _ h9 => h9) rfl dX2_rowSize_1 ?_
  obtain ⟨r4, h_4, hm⟩ := ob hm
  refine z_callRi (As := []) (rest := []) (ci := 0) (q := (RX0, TX0, 2)) ⟨hx, hb, hml, hown, hts⟩ (c_X0_length l dC dI cI (ad 1) (ad 2) 256 zk F r4 h_4) (cwV 0 hts gX2_rowSize_X0_length rfl rfl rfl kv_X0_length ⟨Nat.le_of_ble_eq_true rfl, Nat.le_of_ble_eq_true rfl⟩) hK (z_mid (pjL_zk cI ad zk zm zb zs zr zu zt zf zg zbd zro zmc zmg zsp zjn zk) hP) rfl rfl rfl rfl hl.1 rfl (Nat.le_of_ble_eq_true rfl) dX2_rowSize_4 ⟨Nat.zero_le _, Nat.zero_le _⟩ ?_
  exact W.iret hx hb hr (fun t ht hW => ⟨_, rfl, (o2 hm).symm, ht⟩) (fun q h => absurd h List.not_mem_nil) dX2_rowSize_7
set_option maxHeartbeats 4000000 in
set_option maxRecDepth 100000 in
theorem c_X2_merges (l : Launch) (dC : Nat → ClassId) (dI : Nat → Nat → Nat) (cI : ClassId) (ad : Nat → Nat) (zk : zN) (zm : zN) (zb : zN) (zs : zN) (zr : zN) (zu : zN) (zt : zT) (zf : zN) (zg : zN) (zbd : Int32) (zro : Int32) (zmc : Int32) (zmg : Int32) (zsp : Int32) (zjn : Int32) (F : Nat) (r : Int32) (hm : X2_merges F zmg = some r) : Met l yX2_merges wsX2_merges ({ frames := 0, cells := 0, slots := 0, locals := 0 }) (va_Pc [.ref (ad 0)] (zR (dC, dI) (wL cI ad zk zm zb zs zr zu zt zf zg zbd zro zmc zmg zsp zjn) [(cI, .int)])) (vp_Si (fun v => v = r)) 0 0 (fun _ => False) := by
  refine Met.ofW (cc := cX2_merges) (maxL := 1) (ret := (some .int)) (by decide) rfl ?_
  intro p e s m args below meth c s₁ B hml hv
  obtain ⟨rfl, hP, hK⟩ := hv
  have hx := B.exec
  have hb := B.bytes
  have hr := B.returns
  have hts := atoms_spec (ws := wsX2_merges) B.pre
  have hown : s.vm.findClass RX2 = some m.cls := findClass_of_methodNamed B.named
  have hlocks := B.notSynchronized
  have hl := lv_entry ([.ref (ad 0)]) (n := 1) (Nat.le_of_ble_eq_true rfl)
  rw [lg_entry_eq]
  generalize (lg_sl ([.ref (ad 0)]) ++ List.replicate (1 - (lg_sl ([.ref (ad 0)])).length) Slot.unset).toArray = ls at hl ⊢
  have hl : lv_has ls 1 [(0, .ref (ad 0))] := hl
  have zw0 := hts (.fieldLink RX2 56 "LearnedLedge" "mergeCount" "I") (List.mem_cons_of_mem _ (List.mem_append_left _ (List.mem_of_getElem? (i := 0) rfl)))
  have ziX2 : ∀ w ∈ u_ws RX2 TX2 15, w ∈ wsX2_merges := (fun _ h9 => (List.mem_cons_of_mem _ (List.mem_append_right _ h9)))
  refine lv_aload_n hx hb dX2_merges_0 rfl (lv_at hl 0 rfl) ?_
  refine va_get (D := (dC, dI)) (ci := 2) (v := .int zmg) (C := RX2) (T := TX2) (N := 15) hx hb hts ziX2 hown hK hP 0 rfl rfl 12 (by decide) zw0 (fun _ h9 => h9) rfl dX2_merges_1 ?_
  exact W.iret hx hb hr (fun t ht hW => ⟨_, rfl, (o2 hm).symm, ht⟩) (fun q h => absurd h List.not_mem_nil) dX2_merges_4
