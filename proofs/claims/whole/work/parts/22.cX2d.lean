set_option maxHeartbeats 4000000 in
set_option maxRecDepth 100000 in
theorem c_X2_remove (l : Launch) (dC : Nat → ClassId) (dI : Nat → Nat → Nat) (cI : ClassId) (ad : Nat → Nat) (zk : zN) (zm : zN) (zb : zN) (zs : zN) (zr : zN) (zu : zN) (zt : zT) (zf : zN) (zg : zN) (zbd : Int32) (zro : Int32) (zmc : Int32) (zmg : Int32) (zsp : Int32) (zjn : Int32) (F : Nat) (p1 : Int32) (sz : Nat) (sa : Nat → Nat) (hl9 : l.stackTraces = false) (z : Nat ⊕ (Int32 × zN × zN × Int32)) (hm : X2_remove F zk zm zb zmc p1 = some z) : vx_Met l yX2_remove wsX2_remove ({ frames := 6, cells := 1, slots := 6, locals := 111 }) (va_Pc [.ref (ad 0), .int p1] (zX (dC, dI) (wL cI ad zk zm zb zs zr zu zt zf zg zbd zro zmc zmg zsp zjn) [(cI, .int)] sz sa)) (zXi (dC, dI) (fun (u_ : zN × zN × Int32) => (wL cI ad zk u_.1 u_.2.1 zs zr zu zt zf zg zbd zro u_.2.2 zmg zsp zjn)) [(cI, .int)] (va_A (wL cI ad zk zm zb zs zr zu zt zf zg zbd zro zmc zmg zsp zjn) sz) (fun r_ u_ => z = Sum.inr (r_, u_))) (zXC (dC, dI) (wL cI ad zk zm zb zs zr zu zt zf zg zbd zro zmc zmg zsp zjn) [(cI, .int)] (va_A (wL cI ad zk zm zb zs zr zu zt zf zg zbd zro zmc zmg zsp zjn) sz) z) 1 6 (va_A (wL cI ad zk zm zb zs zr zu zt zf zg zbd zro zmc zmg zsp zjn) sz) := by
  refine vx_ofW (cc := cX2_remove) (maxL := 3) (ret := (some .int)) (by decide) rfl ?_
  intro p e s m args below meth c s₁ B hml hnx hv
  obtain ⟨rfl, ⟨hsz, hP, hK, hD0⟩, hV⟩ := hv
  have hx := B.exec
  have hb := B.bytes
  have hr := B.returns
  have hts := atoms_spec (ws := wsX2_remove) B.pre
  have hown : s.vm.findClass RX2 = some m.cls := findClass_of_methodNamed B.named
  have hlocks := B.notSynchronized
  subst hsz
  have hD := hD0.self (sz := s.heap.size)
  generalize hAe : va_A (wL cI ad zk zm zb zs zr zu zt zf zg zbd zro zmc zmg zsp zjn) s.heap.size = A at hD hV ⊢
  have hA : ∀ q : Nat, s.heap.size ≤ q → A q := fun q h => by rw [← hAe]; exact Or.inr h
  have hS : va_S A s.heap s.heap [] := va_S.rf
  generalize eL : ([] : List Loc) = locs at hS ⊢
  obtain ⟨H, eH⟩ : ∃ z : Heap, z = s.heap := ⟨_, rfl⟩
  have hP : va_P (dC, dI) vwCl (wL cI ad zk zm zb zs zr zu zt zf zg zbd zro zmc zmg zsp zjn) H := by rw [eH]; exact hP
  have hS : va_S A s.heap H locs := by rw [eH]; exact hS
  refine z_heap eH ?_
  have hl := lv_entry ([.ref (ad 0), .int p1]) (n := 3) (Nat.le_of_ble_eq_true rfl)
  rw [lg_entry_eq]
  generalize (lg_sl ([.ref (ad 0), .int p1]) ++ List.replicate (3 - (lg_sl ([.ref (ad 0), .int p1])).length) Slot.unset).toArray = ls at hl ⊢
  have hl : lv_has ls 3 [(0, .ref (ad 0)), (1, .int p1)] := hl
  have zw0 := hts (.fieldLink RX2 14 "LearnedLedge" "keys" "LLearnedLedge$Numbers;") (by decide +kernel)
  have zw1 := hts (.fieldLink RX2 18 "LearnedLedge" "marks" "LLearnedLedge$Numbers;") (by decide +kernel)
  have zw2 := hts (.fieldLink RX2 53 "LearnedLedge" "markCount" "I") (by decide +kernel)
  have zw3 := hts (.fieldLink RX2 21 "LearnedLedge" "buffer" "LLearnedLedge$Numbers;") (by decide +kernel)
  have zw4 := hts (.classLink RX2 109 "java/util/NoSuchElementException") (by decide +kernel)
  have zw5 := hts (.initialized "java/util/NoSuchElementException") (by decide +kernel)
  have ziX2 : ∀ w ∈ u_ws RX2 TX2 15, w ∈ wsX2_remove := by decide +kernel
  refine lv_aload_n hx hb dX2_remove_0 rfl (lv_at hl 0 rfl) ?_
  refine lv_iload_n hx hb dX2_remove_1 rfl (lv_at hl 1 rfl) ?_
  obtain ⟨r2, h_2, hm⟩ := ob hm
  refine z_callRi (As := [.int p1]) (rest := []) (ci := 2) (q := (RX2, TX2, 15)) ⟨hx, hb, hml, hown, hts⟩ (c_X2_isThere l dC dI cI ad zk zm zb zs zr zu zt zf zg zbd zro zmc zmg zsp zjn F p1 r2 h_2) (cwV 1 hts gX2_remove_X2_isThere rfl rfl rfl kv_X2_isThere ⟨Nat.le_of_ble_eq_true rfl, Nat.le_of_ble_eq_true rfl⟩) hK hP rfl rfl rfl rfl hl.1 rfl (Nat.le_of_ble_eq_true rfl) dX2_remove_2 ⟨Nat.zero_le _, Nat.zero_le _⟩ ?_
  refine lv_if_ne (tgt := 18) hx hb dX2_remove_5 (by decide) (fun c_5 => ?_) (fun c_5 => ?_)
  · have hm := it_f hm c_5
    refine lv_aload_n hx hb dX2_remove_18 rfl (lv_at hl 0 rfl) ?_
    refine va_get (D := (dC, dI)) (ci := 2) (v := .ref (ad 1)) (C := RX2) (T := TX2) (N := 15) hx hb hts ziX2 hown hK hP 0 rfl rfl 0 (by decide) zw0 (fun _ h9 => h9) rfl dX2_remove_19 ?_
    refine lv_iload_n hx hb dX2_remove_22 rfl (lv_at hl 1 rfl) ?_
    obtain ⟨r23, h_23, hm⟩ := ob hm
    refine z_callRi (As := [.int p1]) (rest := []) (ci := 0) (q := (RX0, TX0, 2)) ⟨hx, hb, hml, hown, hts⟩ (c_X0_indexOf l dC dI cI (ad 1) (ad 2) 256 zk F p1 r23 h_23) (cwV 1 hts gX2_remove_X0_indexOf rfl rfl rfl kv_X0_indexOf ⟨Nat.le_of_ble_eq_true rfl, Nat.le_of_ble_eq_true rfl⟩) hK (hP.sub (ws' := (wN cI (ad 1) (ad 2) 256 zk)) [1, 2] rfl) rfl rfl rfl rfl hl.1 rfl (Nat.le_of_ble_eq_true rfl) dX2_remove_23 ⟨Nat.zero_le _, Nat.zero_le _⟩ ?_
    refine lv_istore_n (lv' := [(2, .int r23), (0, .ref (ad 0)), (1, .int p1)]) hx hb dX2_remove_26 rfl hl (by decide) rfl (fun ls hl => ?_)
    refine lv_iload_n hx hb dX2_remove_27 rfl (lv_at hl 0 rfl) ?_
    refine lv_iconst (v := (-1)) hx hb dX2_remove_28 (by decide) ?_
    obtain ⟨z_69, hq_69, hm⟩ := ob hm
    have J_69 : ∀ (zmj69 : zN), ∀ (zbj69 : zN), ∀ (zmcj69 : Int32), z_69 = (zmj69, zbj69, zmcj69) → ∀ (H : Heap) (locs : List Loc), va_P (dC, dI) vwCl (wL cI ad zk zmj69 zbj69 zs zr zu zt zf zg zbd zro zmcj69 zmg zsp zjn) H → va_D A (wL cI ad zk zmj69 zbj69 zs zr zu zt zf zg zbd zro zmcj69 zmg zsp zjn) → va_S A s.heap H locs → W p l e (headSpec wsX2_remove ({ frames := 6, cells := 1, slots := 6, locals := 111 } : Room)).room s m ([.ref (ad 0), .int p1] : List Value).toArray below meth c H locs 0 0 (vx_MQ below (zXi (dC, dI) (fun (u_ : zN × zN × Int32) => (wL cI ad zk u_.1 u_.2.1 zs zr zu zt zf zg zbd zro u_.2.2 zmg zsp zjn)) [(cI, .int)] A (fun r_ u_ => z = Sum.inr (r_, u_))) (zXC (dC, dI) (wL cI ad zk zm zb zs zr zu zt zf zg zbd zro zmc zmg zsp zjn) [(cI, .int)] A z) ([.ref (ad 0), .int p1] : List Value).toArray s 1 6 A) (F0 m 69 ls []) := by
      intro zmj69 zbj69 zmcj69 ez H locs hP hD hS
      rw [ez] at hm
      refine lv_aload_n hx hb dX2_remove_69 rfl (lv_at hl 1 rfl) ?_
      obtain ⟨r70, h_70, hm⟩ := ob hm
      refine z_callRi (As := []) (rest := []) (ci := 2) (q := (RX2, TX2, 15)) ⟨hx, hb, hml, hown, hts⟩ (c_X2_keysThere l dC dI cI ad zk zmj69 zbj69 zs zr zu zt zf zg zbd zro zmcj69 zmg zsp zjn F r70 h_70) (cwV 0 hts gX2_remove_X2_keysThere rfl rfl rfl kv_X2_keysThere ⟨Nat.le_of_ble_eq_true rfl, Nat.le_of_ble_eq_true rfl⟩) hK hP rfl rfl rfl rfl hl.1 rfl (Nat.le_of_ble_eq_true rfl) dX2_remove_70 ⟨Nat.zero_le _, Nat.zero_le _⟩ ?_
      refine vx_ret (W.widen (k := 1) (n := 6) (Nat.le_of_ble_eq_true rfl) (Nat.le_of_ble_eq_true rfl) ?_)
      exact W.iret hx hb hr (fun t ht hW => ⟨⟨_, (zmj69, zbj69, zmcj69), rfl, o2 hm, by rw [ht]; exact hP, va_K.moved hW.alike hK, hD⟩, hS.F ht⟩) hS.2.2 dX2_remove_73
    have hm := hq_69
    refine lv_icmp_ne (tgt := 50) hx hb dX2_remove_29 (by decide) (fun c_29 => ?_) (fun c_29 => ?_)
    · have hm := it_f hm c_29
      refine lv_aload_n hx hb dX2_remove_50 rfl (lv_at hl 1 rfl) ?_
      refine va_get (D := (dC, dI)) (ci := 2) (v := .ref (ad 3)) (C := RX2) (T := TX2) (N := 15) hx hb hts ziX2 hown hK hP 0 rfl rfl 1 (by decide) zw1 (fun _ h9 => h9) rfl dX2_remove_51 ?_
      refine lv_iload_n hx hb dX2_remove_54 rfl (lv_at hl 0 rfl) ?_
      refine lv_iconst (v := 1) hx hb dX2_remove_55 (by decide) ?_
      obtain ⟨zm56, h_56, hm⟩ := ob hm
      refine z_callWv (wc := (wN cI (ad 3) (ad 4) 256 zm)) (w1 := (wN cI (ad 3) (ad 4) 256 zm56)) (ws := (wL cI ad zk zm zb zs zr zu zt zf zg zbd zro zmc zmg zsp zjn)) (ws' := (wL cI ad zk zm56 zb zs zr zu zt zf zg zbd zro zmc zmg zsp zjn)) [3, 4] [0, 1, 2, 5, 6, 7, 8, 9, 10, 11, 12, 13, 14, 15, 16, 17] 18 (As := [.int r23, .int 1]) (rest := []) (ci := 0) (q := (RX0, TX0, 2)) ⟨hx, hb, hml, hown, hts⟩ (c_X0_put l dC dI cI (ad 3) (ad 4) 256 zm F r23 1 H.size zm56 h_56) (cwV 2 hts gX2_remove_X0_put rfl rfl rfl kv_X0_put ⟨Nat.le_of_ble_eq_true rfl, Nat.le_of_ble_eq_true rfl⟩) hK hP hD hS hA (hP.sub (ws' := (wN cI (ad 3) (ad 4) 256 zm)) [3, 4] rfl) (hD.sub (ws' := (wN cI (ad 3) (ad 4) 256 zm)) [3, 4] (by decide) rfl) rfl rfl (by decide) rfl rfl (by decide) rfl rfl rfl rfl rfl hl.1 rfl (Nat.le_of_ble_eq_true rfl) dX2_remove_56 ⟨Nat.zero_le _, Nat.zero_le _⟩ (fun H locs hP hD hS => ?_)
      refine lv_aload_n hx hb dX2_remove_59 rfl (lv_at hl 1 rfl) ?_
      refine lv_dup hx hb dX2_remove_60 rfl ?_
      refine va_get (D := (dC, dI)) (ci := 2) (v := .int zmc) (C := RX2) (T := TX2) (N := 15) hx hb hts ziX2 hown hK hP 0 rfl rfl 11 (by decide) zw2 (fun _ h9 => h9) rfl dX2_remove_61 ?_
      refine lv_iconst (v := 1) hx hb dX2_remove_64 (by decide) ?_
      refine lv_iadd hx hb dX2_remove_65 ?_
      refine va_put (D := (dC, dI)) (ci := 2) (v := .int (zmc + 1)) (ty := .int) (C := RX2) (T := TX2) (N := 15) hx hb hts ziX2 tyX2 tyX2_ok nmX2 hown hK hP hD hS 0 rfl rfl 11 (by decide) zw2 (fun _ h9 => h9) rfl (by decide +kernel) rfl rfl (Nat.le_of_ble_eq_true rfl) dX2_remove_66 (fun H locs hP hD hS => ?_)
      have hP : va_P (dC, dI) vwCl (wL cI ad zk zm56 zb zs zr zu zt zf zg zbd zro (zmc + 1) zmg zsp zjn) H := hP
      have hD : va_D A (wL cI ad zk zm56 zb zs zr zu zt zf zg zbd zro (zmc + 1) zmg zsp zjn) := hD
      exact J_69 zm56 zb (zmc + 1) (o2 hm) _ _ hP hD hS
    · have hm := it_t hm c_29
      refine lv_aload_n hx hb dX2_remove_32 rfl (lv_at hl 1 rfl) ?_
      refine va_get (D := (dC, dI)) (ci := 2) (v := .ref (ad 5)) (C := RX2) (T := TX2) (N := 15) hx hb hts ziX2 hown hK hP 0 rfl rfl 2 (by decide) zw3 (fun _ h9 => h9) rfl dX2_remove_33 ?_
      refine lv_aload_n hx hb dX2_remove_36 rfl (lv_at hl 1 rfl) ?_
      refine va_get (D := (dC, dI)) (ci := 2) (v := .ref (ad 5)) (C := RX2) (T := TX2) (N := 15) hx hb hts ziX2 hown hK hP 0 rfl rfl 2 (by decide) zw3 (fun _ h9 => h9) rfl dX2_remove_37 ?_
      refine lv_iload_n hx hb dX2_remove_40 rfl (lv_at hl 2 rfl) ?_
      obtain ⟨r41, h_41, hm⟩ := ob hm
      refine z_callRi (As := [.int p1]) (rest := [.ref (ad 5)]) (ci := 0) (q := (RX0, TX0, 2)) ⟨hx, hb, hml, hown, hts⟩ (c_X0_below l dC dI cI (ad 5) (ad 6) 16 zb F p1 r41 h_41) (cwV 1 hts gX2_remove_X0_below rfl rfl rfl kv_X0_below ⟨Nat.le_of_ble_eq_true rfl, Nat.le_of_ble_eq_true rfl⟩) hK (hP.sub (ws' := (wN cI (ad 5) (ad 6) 16 zb)) [5, 6] rfl) rfl rfl rfl rfl hl.1 rfl (Nat.le_of_ble_eq_true rfl) dX2_remove_41 ⟨Nat.zero_le _, Nat.zero_le _⟩ ?_
      obtain ⟨zb44, h_44, hm⟩ := ob hm
      refine z_callWv (wc := (wN cI (ad 5) (ad 6) 16 zb)) (w1 := (wN cI (ad 5) (ad 6) 16 zb44)) (ws := (wL cI ad zk zm zb zs zr zu zt zf zg zbd zro zmc zmg zsp zjn)) (ws' := (wL cI ad zk zm zb44 zs zr zu zt zf zg zbd zro zmc zmg zsp zjn)) [5, 6] [0, 1, 2, 3, 4, 7, 8, 9, 10, 11, 12, 13, 14, 15, 16, 17] 18 (As := [.int r41]) (rest := []) (ci := 0) (q := (RX0, TX0, 2)) ⟨hx, hb, hml, hown, hts⟩ (c_X0_takeOut l dC dI cI (ad 5) (ad 6) 16 zb F r41 H.size zb44 h_44) (cwV 1 hts gX2_remove_X0_takeOut rfl rfl rfl kv_X0_takeOut ⟨Nat.le_of_ble_eq_true rfl, Nat.le_of_ble_eq_true rfl⟩) hK hP hD hS hA (hP.sub (ws' := (wN cI (ad 5) (ad 6) 16 zb)) [5, 6] rfl) (hD.sub (ws' := (wN cI (ad 5) (ad 6) 16 zb)) [5, 6] (by decide) rfl) rfl rfl (by decide) rfl rfl (by decide) rfl rfl rfl rfl rfl hl.1 rfl (Nat.le_of_ble_eq_true rfl) dX2_remove_44 ⟨Nat.zero_le _, Nat.zero_le _⟩ (fun H locs hP hD hS => ?_)
      refine lv_goto (tgt := 69) hx hb dX2_remove_47 (by decide) ?_
      exact J_69 zm zb44 zmc (o2 hm) _ _ hP hD hS
  · have hm := it_t hm c_5
    refine ns_make hx hb hl9 (own := RX2) (ik := 109) (is := 111) (ic := 113) hown zw4 zw5 (hV.1 (111, "key is not there") (by decide +kernel)) (vx_hat (fun w h => hts w (List.mem_cons_of_mem _ (List.mem_append_right _ h))) (by decide +kernel) (zV_ng hV)) (by decide +kernel) hV.2.2.1 hV.2.2.2 hS (hl.1.trans hml.symm) dX2_remove_8 dX2_remove_11 dX2_remove_12 dX2_remove_14 hP (Nat.le_of_ble_eq_true rfl) (Nat.le_of_ble_eq_true rfl) (Nat.le_of_ble_eq_true rfl) (Nat.le_of_ble_eq_true rfl) (fun q9 ce H hP hS hce hcv hcl => ?_)
    refine vx_athrow hx hb dX2_remove_17 ?_
    exact vx_out (fun x hx => (hnx x hx).elim) hlocks hce hcv hcl (z_xc (k := 4) (o2 hm) hP hK hD hS) hS.2.2 (Nat.le_of_ble_eq_true rfl) (Nat.le_of_ble_eq_true rfl)
set_option maxHeartbeats 4000000 in
set_option maxRecDepth 100000 in
theorem c_X2_merge (l : Launch) (dC : Nat → ClassId) (dI : Nat → Nat → Nat) (cI : ClassId) (ad : Nat → Nat) (zk : zN) (zm : zN) (zb : zN) (zs : zN) (zr : zN) (zu : zN) (zt : zT) (zf : zN) (zg : zN) (zbd : Int32) (zro : Int32) (zmc : Int32) (zmg : Int32) (zsp : Int32) (zjn : Int32) (F : Nat) (sz : Nat) (r : Int32) (u_zk : zN) (u_zm : zN) (u_zb : zN) (u_zs : zN) (u_zr : zN) (u_zu : zN) (u_zt : zT) (u_zf : zN) (u_zg : zN) (u_zmc : Int32) (u_zmg : Int32) (u_zsp : Int32) (u_zjn : Int32) (hm : X2_merge F zk zm zb zs zr zu zt zf zg zbd zmc zmg zsp zjn = some (r, u_zk, u_zm, u_zb, u_zs, u_zr, u_zu, u_zt, u_zf, u_zg, u_zmc, u_zmg, u_zsp, u_zjn)) : Met l yX2_merge wsX2_merge ({ frames := 5, cells := 0, slots := 0, locals := 116 }) (va_Pc [.ref (ad 0)] (zW (dC, dI) (wL cI ad zk zm zb zs zr zu zt zf zg zbd zro zmc zmg zsp zjn) [(cI, .int)] sz)) (zQi (dC, dI) (wL cI ad u_zk u_zm u_zb u_zs u_zr u_zu u_zt u_zf u_zg zbd zro u_zmc u_zmg u_zsp u_zjn) [(cI, .int)] (va_A (wL cI ad zk zm zb zs zr zu zt zf zg zbd zro zmc zmg zsp zjn) sz) r) 0 0 (va_A (wL cI ad zk zm zb zs zr zu zt zf zg zbd zro zmc zmg zsp zjn) sz) := by
  refine Met.ofW (cc := cX2_merge) (maxL := 1) (ret := (some .int)) (by decide) rfl ?_
  intro p e s m args below meth c s₁ B hml hv
  obtain ⟨rfl, hsz, hP, hK, hD0⟩ := hv
  have hx := B.exec
  have hb := B.bytes
  have hr := B.returns
  have hts := atoms_spec (ws := wsX2_merge) B.pre
  have hown : s.vm.findClass RX2 = some m.cls := findClass_of_methodNamed B.named
  have hlocks := B.notSynchronized
  subst hsz
  have hD := hD0.self (sz := s.heap.size)
  generalize hAe : va_A (wL cI ad zk zm zb zs zr zu zt zf zg zbd zro zmc zmg zsp zjn) s.heap.size = A at hD ⊢
  have hA : ∀ q : Nat, s.heap.size ≤ q → A q := fun q h => by rw [← hAe]; exact Or.inr h
  have hS : va_S A s.heap s.heap [] := va_S.rf
  generalize eL : ([] : List Loc) = locs at hS ⊢
  obtain ⟨H, eH⟩ : ∃ z : Heap, z = s.heap := ⟨_, rfl⟩
  have hP : va_P (dC, dI) vwCl (wL cI ad zk zm zb zs zr zu zt zf zg zbd zro zmc zmg zsp zjn) H := by rw [eH]; exact hP
  have hS : va_S A s.heap H locs := by rw [eH]; exact hS
  refine z_heap eH ?_
  have hl := lv_entry ([.ref (ad 0)]) (n := 1) (Nat.le_of_ble_eq_true rfl)
  rw [lg_entry_eq]
  generalize (lg_sl ([.ref (ad 0)]) ++ List.replicate (1 - (lg_sl ([.ref (ad 0)])).length) Slot.unset).toArray = ls at hl ⊢
  have hl : lv_has ls 1 [(0, .ref (ad 0))] := hl
  have zw0 := hts (.fieldLink RX2 24 "LearnedLedge" "starts" "LLearnedLedge$Numbers;") (by decide +kernel)
  have ziX2 : ∀ w ∈ u_ws RX2 TX2 15, w ∈ wsX2_merge := by decide +kernel
  refine lv_aload_n hx hb dX2_merge_0 rfl (lv_at hl 0 rfl) ?_
  obtain ⟨⟨zk1, zm1, zb1, zs1, zr1, zu1, zt1, zf1, zg1, zmc1, zmg1, zsp1, zjn1⟩, h_1, hm⟩ := ob hm
  refine z_callWv (wc := (wL cI ad zk zm zb zs zr zu zt zf zg zbd zro zmc zmg zsp zjn)) (w1 := (wL cI ad zk1 zm1 zb1 zs1 zr1 zu1 zt1 zf1 zg1 zbd zro zmc1 zmg1 zsp1 zjn1)) (ws := (wL cI ad zk zm zb zs zr zu zt zf zg zbd zro zmc zmg zsp zjn)) (ws' := (wL cI ad zk1 zm1 zb1 zs1 zr1 zu1 zt1 zf1 zg1 zbd zro zmc1 zmg1 zsp1 zjn1)) [0, 1, 2, 3, 4, 5, 6, 7, 8, 9, 10, 11, 12, 13, 14, 15, 16, 17] [] 18 (As := []) (rest := []) (ci := 2) (q := (RX2, TX2, 15)) ⟨hx, hb, hml, hown, hts⟩ (c_X2_mergeAll l dC dI cI ad zk zm zb zs zr zu zt zf zg zbd zro zmc zmg zsp zjn F H.size zk1 zm1 zb1 zs1 zr1 zu1 zt1 zf1 zg1 zmc1 zmg1 zsp1 zjn1 h_1) (cwV 0 hts gX2_merge_X2_mergeAll rfl rfl rfl kv_X2_mergeAll ⟨Nat.le_of_ble_eq_true rfl, Nat.le_of_ble_eq_true rfl⟩) hK hP hD hS hA hP hD rfl rfl (by decide) rfl rfl (by decide) rfl rfl rfl rfl rfl hl.1 rfl (Nat.le_of_ble_eq_true rfl) dX2_merge_1 ⟨Nat.zero_le _, Nat.zero_le _⟩ (fun H locs hP hD hS => ?_)
  refine lv_aload_n hx hb dX2_merge_4 rfl (lv_at hl 0 rfl) ?_
  refine va_get (D := (dC, dI)) (ci := 2) (v := .ref (ad 7)) (C := RX2) (T := TX2) (N := 15) hx hb hts ziX2 hown hK hP 0 rfl rfl 3 (by decide) zw0 (fun _ h9 => h9) rfl dX2_merge_5 ?_
  obtain ⟨r8, h_8, hm⟩ := ob hm
  refine z_callRi (As := []) (rest := []) (ci := 0) (q := (RX0, TX0, 2)) ⟨hx, hb, hml, hown, hts⟩ (c_X0_length l dC dI cI (ad 7) (ad 8) 256 zs1 F r8 h_8) (cwV 0 hts gX2_merge_X0_length rfl rfl rfl kv_X0_length ⟨Nat.le_of_ble_eq_true rfl, Nat.le_of_ble_eq_true rfl⟩) hK (hP.sub (ws' := (wN cI (ad 7) (ad 8) 256 zs1)) [7, 8] rfl) rfl rfl rfl rfl hl.1 rfl (Nat.le_of_ble_eq_true rfl) dX2_merge_8 ⟨Nat.zero_le _, Nat.zero_le _⟩ ?_
  cases o2 hm
  exact W.iret hx hb hr (fun t ht hW => ⟨⟨_, (), rfl, rfl, by rw [ht]; exact hP, va_K.moved hW.alike hK, hD⟩, hS.F ht⟩) hS.2.2 dX2_merge_11
set_option maxHeartbeats 4000000 in
set_option maxRecDepth 100000 in
theorem c_X2_gatherAll (l : Launch) (dC : Nat → ClassId) (dI : Nat → Nat → Nat) (cI : ClassId) (ad : Nat → Nat) (zk : zN) (zm : zN) (zb : zN) (zs : zN) (zr : zN) (zu : zN) (zt : zT) (zf : zN) (zg : zN) (zbd : Int32) (zro : Int32) (zmc : Int32) (zmg : Int32) (zsp : Int32) (zjn : Int32) (F : Nat) (sz : Nat) (u_zf : zN) (hm : X2_gatherAll F zk zm zb zf = some u_zf) : Met l yX2_gatherAll wsX2_gatherAll ({ frames := 3, cells := 0, slots := 0, locals := 70 }) (va_Pc [.ref (ad 0)] (zW (dC, dI) (wL cI ad zk zm zb zs zr zu zt zf zg zbd zro zmc zmg zsp zjn) [(cI, .int)] sz)) (zQv (dC, dI) (wL cI ad zk zm zb zs zr zu zt u_zf zg zbd zro zmc zmg zsp zjn) [(cI, .int)] (va_A (wL cI ad zk zm zb zs zr zu zt zf zg zbd zro zmc zmg zsp zjn) sz)) 0 0 (va_A (wL cI ad zk zm zb zs zr zu zt zf zg zbd zro zmc zmg zsp zjn) sz) := by
  refine Met.ofW (cc := cX2_gatherAll) (maxL := 1) (ret := none) (by decide) rfl ?_
  intro p e s m args below meth c s₁ B hml hv
  obtain ⟨rfl, hsz, hP, hK, hD0⟩ := hv
  have hx := B.exec
  have hb := B.bytes
  have hr := B.returns
  have hts := atoms_spec (ws := wsX2_gatherAll) B.pre
  have hown : s.vm.findClass RX2 = some m.cls := findClass_of_methodNamed B.named
  have hlocks := B.notSynchronized
  subst hsz
  have hD := hD0.self (sz := s.heap.size)
  generalize hAe : va_A (wL cI ad zk zm zb zs zr zu zt zf zg zbd zro zmc zmg zsp zjn) s.heap.size = A at hD ⊢
  have hA : ∀ q : Nat, s.heap.size ≤ q → A q := fun q h => by rw [← hAe]; exact Or.inr h
  have hS : va_S A s.heap s.heap [] := va_S.rf
  generalize eL : ([] : List Loc) = locs at hS ⊢
  obtain ⟨H, eH⟩ : ∃ z : Heap, z = s.heap := ⟨_, rfl⟩
  have hP : va_P (dC, dI) vwCl (wL cI ad zk zm zb zs zr zu zt zf zg zbd zro zmc zmg zsp zjn) H := by rw [eH]; exact hP
  have hS : va_S A s.heap H locs := by rw [eH]; exact hS
  refine z_heap eH ?_
  have hl := lv_entry ([.ref (ad 0)]) (n := 1) (Nat.le_of_ble_eq_true rfl)
  rw [lg_entry_eq]
  generalize (lg_sl ([.ref (ad 0)]) ++ List.replicate (1 - (lg_sl ([.ref (ad 0)])).length) Slot.unset).toArray = ls at hl ⊢
  have hl : lv_has ls 1 [(0, .ref (ad 0))] := hl
  have zw0 := hts (.fieldLink RX2 40 "LearnedLedge" "freshKeys" "LLearnedLedge$Numbers;") (by decide +kernel)
  have zw1 := hts (.fieldLink RX2 14 "LearnedLedge" "keys" "LLearnedLedge$Numbers;") (by decide +kernel)
  have zw2 := hts (.fieldLink RX2 21 "LearnedLedge" "buffer" "LLearnedLedge$Numbers;") (by decide +kernel)
  have ziX2 : ∀ w ∈ u_ws RX2 TX2 15, w ∈ wsX2_gatherAll := by decide +kernel
  refine lv_aload_n hx hb dX2_gatherAll_0 rfl (lv_at hl 0 rfl) ?_
  refine va_get (D := (dC, dI)) (ci := 2) (v := .ref (ad 14)) (C := RX2) (T := TX2) (N := 15) hx hb hts ziX2 hown hK hP 0 rfl rfl 7 (by decide) zw0 (fun _ h9 => h9) rfl dX2_gatherAll_1 ?_
  obtain ⟨zf4, h_4, hm⟩ := ob hm
  refine z_callWv (wc := (wN cI (ad 14) (ad 15) 256 zf)) (w1 := (wN cI (ad 14) (ad 15) 256 zf4)) (ws := (wL cI ad zk zm zb zs zr zu zt zf zg zbd zro zmc zmg zsp zjn)) (ws' := (wL cI ad zk zm zb zs zr zu zt zf4 zg zbd zro zmc zmg zsp zjn)) [14, 15] [0, 1, 2, 3, 4, 5, 6, 7, 8, 9, 10, 11, 12, 13, 16, 17] 18 (As := []) (rest := []) (ci := 0) (q := (RX0, TX0, 2)) ⟨hx, hb, hml, hown, hts⟩ (c_X0_clear l dC dI cI (ad 14) (ad 15) 256 zf F H.size zf4 h_4) (cwV 0 hts gX2_gatherAll_X0_clear rfl rfl rfl kv_X0_clear ⟨Nat.le_of_ble_eq_true rfl, Nat.le_of_ble_eq_true rfl⟩) hK hP hD hS hA (hP.sub (ws' := (wN cI (ad 14) (ad 15) 256 zf)) [14, 15] rfl) (hD.sub (ws' := (wN cI (ad 14) (ad 15) 256 zf)) [14, 15] (by decide) rfl) rfl rfl (by decide) rfl rfl (by decide) rfl rfl rfl rfl rfl hl.1 rfl (Nat.le_of_ble_eq_true rfl) dX2_gatherAll_4 ⟨Nat.zero_le _, Nat.zero_le _⟩ (fun H locs hP hD hS => ?_)
  refine lv_aload_n hx hb dX2_gatherAll_7 rfl (lv_at hl 0 rfl) ?_
  refine lv_iconst (v := 0) hx hb dX2_gatherAll_8 (by decide) ?_
  refine lv_aload_n hx hb dX2_gatherAll_9 rfl (lv_at hl 0 rfl) ?_
  refine va_get (D := (dC, dI)) (ci := 2) (v := .ref (ad 1)) (C := RX2) (T := TX2) (N := 15) hx hb hts ziX2 hown hK hP 0 rfl rfl 0 (by decide) zw1 (fun _ h9 => h9) rfl dX2_gatherAll_10 ?_
  obtain ⟨r13, h_13, hm⟩ := ob hm
  refine z_callRi (As := []) (rest := [.int 0, .ref (ad 0)]) (ci := 0) (q := (RX0, TX0, 2)) ⟨hx, hb, hml, hown, hts⟩ (c_X0_length l dC dI cI (ad 1) (ad 2) 256 zk F r13 h_13) (cwV 0 hts gX2_gatherAll_X0_length rfl rfl rfl kv_X0_length ⟨Nat.le_of_ble_eq_true rfl, Nat.le_of_ble_eq_true rfl⟩) hK (hP.sub (ws' := (wN cI (ad 1) (ad 2) 256 zk)) [1, 2] rfl) rfl rfl rfl rfl hl.1 rfl (Nat.le_of_ble_eq_true rfl) dX2_gatherAll_13 ⟨Nat.zero_le _, Nat.zero_le _⟩ ?_
  refine lv_iconst (v := 0) hx hb dX2_gatherAll_16 (by decide) ?_
  refine lv_aload_n hx hb dX2_gatherAll_17 rfl (lv_at hl 0 rfl) ?_
  refine va_get (D := (dC, dI)) (ci := 2) (v := .ref (ad 5)) (C := RX2) (T := TX2) (N := 15) hx hb hts ziX2 hown hK hP 0 rfl rfl 2 (by decide) zw2 (fun _ h9 => h9) rfl dX2_gatherAll_18 ?_
  obtain ⟨r21, h_21, hm⟩ := ob hm
  refine z_callRi (As := []) (rest := [.int 0, .int r13, .int 0, .ref (ad 0)]) (ci := 0) (q := (RX0, TX0, 2)) ⟨hx, hb, hml, hown, hts⟩ (c_X0_length l dC dI cI (ad 5) (ad 6) 16 zb F r21 h_21) (cwV 0 hts gX2_gatherAll_X0_length rfl rfl rfl kv_X0_length ⟨Nat.le_of_ble_eq_true rfl, Nat.le_of_ble_eq_true rfl⟩) hK (hP.sub (ws' := (wN cI (ad 5) (ad 6) 16 zb)) [5, 6] rfl) rfl rfl rfl rfl hl.1 rfl (Nat.le_of_ble_eq_true rfl) dX2_gatherAll_21 ⟨Nat.zero_le _, Nat.zero_le _⟩ ?_
  obtain ⟨⟨r24, zf24⟩, h_24, hm⟩ := ob hm
  refine z_callWi (wc := (wL cI ad zk zm zb zs zr zu zt zf4 zg zbd zro zmc zmg zsp zjn)) (w1 := (wL cI ad zk zm zb zs zr zu zt zf24 zg zbd zro zmc zmg zsp zjn)) (ws := (wL cI ad zk zm zb zs zr zu zt zf4 zg zbd zro zmc zmg zsp zjn)) (ws' := (wL cI ad zk zm zb zs zr zu zt zf24 zg zbd zro zmc zmg zsp zjn)) [0, 1, 2, 3, 4, 5, 6, 7, 8, 9, 10, 11, 12, 13, 14, 15, 16, 17] [] 18 (As := [.int 0, .int r13, .int 0, .int r21]) (rest := []) (ci := 2) (q := (RX2, TX2, 15)) ⟨hx, hb, hml, hown, hts⟩ (c_X2_gather l dC dI cI ad zk zm zb zs zr zu zt zf4 zg zbd zro zmc zmg zsp zjn F 0 r13 0 r21 H.size r24 zf24 h_24) (cwV 4 hts gX2_gatherAll_X2_gather rfl rfl rfl kv_X2_gather ⟨Nat.le_of_ble_eq_true rfl, Nat.le_of_ble_eq_true rfl⟩) hK hP hD hS hA hP hD rfl rfl (by decide) rfl rfl (by decide) rfl rfl rfl rfl rfl hl.1 rfl (Nat.le_of_ble_eq_true rfl) dX2_gatherAll_24 ⟨Nat.zero_le _, Nat.zero_le _⟩ (fun H locs hP hD hS => ?_)
  refine lv_pop hx hb dX2_gatherAll_27 rfl ?_
  cases o2 hm
  exact W.vret hx hb hr (fun t ht hW => ⟨⟨(), rfl, trivial, by rw [ht]; exact hP, va_K.moved hW.alike hK, hD⟩, hS.F ht⟩) hS.2.2 dX2_gatherAll_28
set_option maxHeartbeats 4000000 in
set_option maxRecDepth 100000 in
theorem c_X2_rebuild (l : Launch) (dC : Nat → ClassId) (dI : Nat → Nat → Nat) (cI : ClassId) (ad : Nat → Nat) (zk : zN) (zm : zN) (zb : zN) (zs : zN) (zr : zN) (zu : zN) (zt : zT) (zf : zN) (zg : zN) (zbd : Int32) (zro : Int32) (zmc : Int32) (zmg : Int32) (zsp : Int32) (zjn : Int32) (F : Nat) (p1 : Int32) (p2 : Int32) (sz : Nat) (sa : Nat → Nat) (hl9 : l.stackTraces = false) (z : Nat ⊕ (Int32 × zN × zN × zN × zN × zN × zN × zT × zN × Int32 × Int32 × Int32)) (hm : X2_rebuild F zk zm zb zs zr zu zt zf zbd zro zmc p1 p2 = some z) : vx_Met l yX2_rebuild wsX2_rebuild ({ frames := 6, cells := 1, slots := 6, locals := 91 }) (va_Pc [.ref (ad 0), .int p1, .int p2] (zX (dC, dI) (wL cI ad zk zm zb zs zr zu zt zf zg zbd zro zmc zmg zsp zjn) [(cI, .int)] sz sa)) (zXi (dC, dI) (fun (u_ : zN × zN × zN × zN × zN × zN × zT × zN × Int32 × Int32 × Int32) => (wL cI ad u_.1 u_.2.1 u_.2.2.1 u_.2.2.2.1 u_.2.2.2.2.1 u_.2.2.2.2.2.1 u_.2.2.2.2.2.2.1 u_.2.2.2.2.2.2.2.1 zg u_.2.2.2.2.2.2.2.2.1 u_.2.2.2.2.2.2.2.2.2.1 u_.2.2.2.2.2.2.2.2.2.2 zmg zsp zjn)) [(cI, .int)] (va_A (wL cI ad zk zm zb zs zr zu zt zf zg zbd zro zmc zmg zsp zjn) sz) (fun r_ u_ => z = Sum.inr (r_, u_))) (zXC (dC, dI) (wL cI ad zk zm zb zs zr zu zt zf zg zbd zro zmc zmg zsp zjn) [(cI, .int)] (va_A (wL cI ad zk zm zb zs zr zu zt zf zg zbd zro zmc zmg zsp zjn) sz) z) 1 6 (va_A (wL cI ad zk zm zb zs zr zu zt zf zg zbd zro zmc zmg zsp zjn) sz) := by
  refine vx_ofW (cc := cX2_rebuild) (maxL := 4) (ret := (some .int)) (by decide) rfl ?_
  intro p e s m args below meth c s₁ B hml hnx hv
  obtain ⟨rfl, ⟨hsz, hP, hK, hD0⟩, hV⟩ := hv
  have hx := B.exec
  have hb := B.bytes
  have hr := B.returns
  have hts := atoms_spec (ws := wsX2_rebuild) B.pre
  have hown : s.vm.findClass RX2 = some m.cls := findClass_of_methodNamed B.named
  have hlocks := B.notSynchronized
  subst hsz
  have hD := hD0.self (sz := s.heap.size)
  generalize hAe : va_A (wL cI ad zk zm zb zs zr zu zt zf zg zbd zro zmc zmg zsp zjn) s.heap.size = A at hD hV ⊢
  have hA : ∀ q : Nat, s.heap.size ≤ q → A q := fun q h => by rw [← hAe]; exact Or.inr h
  have hS : va_S A s.heap s.heap [] := va_S.rf
  generalize eL : ([] : List Loc) = locs at hS ⊢
  obtain ⟨H, eH⟩ : ∃ z : Heap, z = s.heap := ⟨_, rfl⟩
  have hP : va_P (dC, dI) vwCl (wL cI ad zk zm zb zs zr zu zt zf zg zbd zro zmc zmg zsp zjn) H := by rw [eH]; exact hP
  have hS : va_S A s.heap H locs := by rw [eH]; exact hS
  refine z_heap eH ?_
  have hl := lv_entry ([.ref (ad 0), .int p1, .int p2]) (n := 4) (Nat.le_of_ble_eq_true rfl)
  rw [lg_entry_eq]
  generalize (lg_sl ([.ref (ad 0), .int p1, .int p2]) ++ List.replicate (4 - (lg_sl ([.ref (ad 0), .int p1, .int p2])).length) Slot.unset).toArray = ls at hl ⊢
  have hl : lv_has ls 4 [(0, .ref (ad 0)), (1, .int p1), (2, .int p2)] := hl
  have zw0 := hts (.fieldLink RX2 46 "LearnedLedge" "bound" "I") (by decide +kernel)
  have zw1 := hts (.fieldLink RX2 50 "LearnedLedge" "room" "I") (by decide +kernel)
  have zw2 := hts (.fieldLink RX2 40 "LearnedLedge" "freshKeys" "LLearnedLedge$Numbers;") (by decide +kernel)
  have zw3 := hts (.fieldLink RX2 24 "LearnedLedge" "starts" "LLearnedLedge$Numbers;") (by decide +kernel)
  have zw4 := hts (.classLink RX2 80 "java/lang/IllegalArgumentException") (by decide +kernel)
  have zw5 := hts (.initialized "java/lang/IllegalArgumentException") (by decide +kernel)
  have ziX2 : ∀ w ∈ u_ws RX2 TX2 15, w ∈ wsX2_rebuild := by decide +kernel
  refine lv_iload_n hx hb dX2_rebuild_0 rfl (lv_at hl 1 rfl) ?_
  refine lv_if_lt (tgt := 21) hx hb dX2_rebuild_1 (by decide) (fun c_1 => ?_) (fun c_1 => ?_)
  · have hm := it_t hm c_1
    exact vx_throwS hx hb hl9 (own := RX2) (cls := "java/lang/IllegalArgumentException") (names := ["java/lang/RuntimeException", "java/lang/Exception"]) (ik := 80) (is := 126) (ic := 84) hown (by decide +kernel) (by decide +kernel) zw4 zw5 (hV.1 (126, "bound or room out of range") (by decide +kernel)) (vx_hat (fun w h => hts w (List.mem_cons_of_mem _ (List.mem_append_right _ h))) (by decide +kernel) (zV_ng hV)) (by decide +kernel) hV.2.2.1 hV.2.2.2 hS (hl.1.trans hml.symm) dX2_rebuild_21 dX2_rebuild_24 dX2_rebuild_25 dX2_rebuild_27 dX2_rebuild_30 (fun x hx => (hnx x hx).elim) (Nat.le_of_ble_eq_true rfl) (Nat.le_of_ble_eq_true rfl) (Nat.le_of_ble_eq_true rfl) (Nat.le_of_ble_eq_true rfl) hlocks (z_xt (k := 1) rfl (o2 hm) hP hK hD hS) hS.2.2 (Nat.le_of_ble_eq_true rfl) (Nat.le_of_ble_eq_true rfl)
  · have hm := it_f hm c_1
    refine lv_iload_n hx hb dX2_rebuild_4 rfl (lv_at hl 1 rfl) ?_
    refine lv_bipush (v := 20) hx hb dX2_rebuild_5 (by decide) ?_
    refine lv_icmp_gt (tgt := 21) hx hb dX2_rebuild_7 (by decide) (fun c_7 => ?_) (fun c_7 => ?_)
    · have hm := it_t hm c_7
      exact vx_throwS hx hb hl9 (own := RX2) (cls := "java/lang/IllegalArgumentException") (names := ["java/lang/RuntimeException", "java/lang/Exception"]) (ik := 80) (is := 126) (ic := 84) hown (by decide +kernel) (by decide +kernel) zw4 zw5 (hV.1 (126, "bound or room out of range") (by decide +kernel)) (vx_hat (fun w h => hts w (List.mem_cons_of_mem _ (List.mem_append_right _ h))) (by decide +kernel) (zV_ng hV)) (by decide +kernel) hV.2.2.1 hV.2.2.2 hS (hl.1.trans hml.symm) dX2_rebuild_21 dX2_rebuild_24 dX2_rebuild_25 dX2_rebuild_27 dX2_rebuild_30 (fun x hx => (hnx x hx).elim) (Nat.le_of_ble_eq_true rfl) (Nat.le_of_ble_eq_true rfl) (Nat.le_of_ble_eq_true rfl) (Nat.le_of_ble_eq_true rfl) hlocks (z_xt (k := 1) rfl (o2 hm) hP hK hD hS) hS.2.2 (Nat.le_of_ble_eq_true rfl) (Nat.le_of_ble_eq_true rfl)
    · have hm := it_f hm c_7
      refine lv_iload_n hx hb dX2_rebuild_10 rfl (lv_at hl 2 rfl) ?_
      refine lv_iconst (v := 1) hx hb dX2_rebuild_11 (by decide) ?_
      refine lv_icmp_lt (tgt := 21) hx hb dX2_rebuild_12 (by decide) (fun c_12 => ?_) (fun c_12 => ?_)
      · have hm := it_t hm c_12
        exact vx_throwS hx hb hl9 (own := RX2) (cls := "java/lang/IllegalArgumentException") (names := ["java/lang/RuntimeException", "java/lang/Exception"]) (ik := 80) (is := 126) (ic := 84) hown (by decide +kernel) (by decide +kernel) zw4 zw5 (hV.1 (126, "bound or room out of range") (by decide +kernel)) (vx_hat (fun w h => hts w (List.mem_cons_of_mem _ (List.mem_append_right _ h))) (by decide +kernel) (zV_ng hV)) (by decide +kernel) hV.2.2.1 hV.2.2.2 hS (hl.1.trans hml.symm) dX2_rebuild_21 dX2_rebuild_24 dX2_rebuild_25 dX2_rebuild_27 dX2_rebuild_30 (fun x hx => (hnx x hx).elim) (Nat.le_of_ble_eq_true rfl) (Nat.le_of_ble_eq_true rfl) (Nat.le_of_ble_eq_true rfl) (Nat.le_of_ble_eq_true rfl) hlocks (z_xt (k := 1) rfl (o2 hm) hP hK hD hS) hS.2.2 (Nat.le_of_ble_eq_true rfl) (Nat.le_of_ble_eq_true rfl)
      · have hm := it_f hm c_12
        refine lv_iload_n hx hb dX2_rebuild_15 rfl (lv_at hl 2 rfl) ?_
        refine lv_bipush (v := 16) hx hb dX2_rebuild_16 (by decide) ?_
        refine lv_icmp_le (tgt := 31) hx hb dX2_rebuild_18 (by decide) (fun c_18 => ?_) (fun c_18 => ?_)
        · have hm := it_t hm c_18
          refine lv_aload_n hx hb dX2_rebuild_31 rfl (lv_at hl 0 rfl) ?_
          refine lv_iload_n hx hb dX2_rebuild_32 rfl (lv_at hl 1 rfl) ?_
          refine va_put (D := (dC, dI)) (ci := 2) (v := .int p1) (ty := .int) (C := RX2) (T := TX2) (N := 15) hx hb hts ziX2 tyX2 tyX2_ok nmX2 hown hK hP hD hS 0 rfl rfl 9 (by decide) zw0 (fun _ h9 => h9) rfl (by decide +kernel) rfl rfl (Nat.le_of_ble_eq_true rfl) dX2_rebuild_33 (fun H locs hP hD hS => ?_)
          have hP : va_P (dC, dI) vwCl (wL cI ad zk zm zb zs zr zu zt zf zg p1 zro zmc zmg zsp zjn) H := hP
          have hD : va_D A (wL cI ad zk zm zb zs zr zu zt zf zg p1 zro zmc zmg zsp zjn) := hD
          refine lv_aload_n hx hb dX2_rebuild_36 rfl (lv_at hl 0 rfl) ?_
          refine lv_iload_n hx hb dX2_rebuild_37 rfl (lv_at hl 2 rfl) ?_
          refine va_put (D := (dC, dI)) (ci := 2) (v := .int p2) (ty := .int) (C := RX2) (T := TX2) (N := 15) hx hb hts ziX2 tyX2 tyX2_ok nmX2 hown hK hP hD hS 0 rfl rfl 10 (by decide) zw1 (fun _ h9 => h9) rfl (by decide +kernel) rfl rfl (Nat.le_of_ble_eq_true rfl) dX2_rebuild_38 (fun H locs hP hD hS => ?_)
          have hP : va_P (dC, dI) vwCl (wL cI ad zk zm zb zs zr zu zt zf zg p1 p2 zmc zmg zsp zjn) H := hP
          have hD : va_D A (wL cI ad zk zm zb zs zr zu zt zf zg p1 p2 zmc zmg zsp zjn) := hD
          refine lv_aload_n hx hb dX2_rebuild_41 rfl (lv_at hl 0 rfl) ?_
          obtain ⟨zf42, h_42, hm⟩ := ob hm
          refine z_callWv (wc := (wL cI ad zk zm zb zs zr zu zt zf zg p1 p2 zmc zmg zsp zjn)) (w1 := (wL cI ad zk zm zb zs zr zu zt zf42 zg p1 p2 zmc zmg zsp zjn)) (ws := (wL cI ad zk zm zb zs zr zu zt zf zg p1 p2 zmc zmg zsp zjn)) (ws' := (wL cI ad zk zm zb zs zr zu zt zf42 zg p1 p2 zmc zmg zsp zjn)) [0, 1, 2, 3, 4, 5, 6, 7, 8, 9, 10, 11, 12, 13, 14, 15, 16, 17] [] 18 (As := []) (rest := []) (ci := 2) (q := (RX2, TX2, 15)) ⟨hx, hb, hml, hown, hts⟩ (c_X2_gatherAll l dC dI cI ad zk zm zb zs zr zu zt zf zg p1 p2 zmc zmg zsp zjn F H.size zf42 h_42) (cwV 0 hts gX2_rebuild_X2_gatherAll rfl rfl rfl kv_X2_gatherAll ⟨Nat.le_of_ble_eq_true rfl, Nat.le_of_ble_eq_true rfl⟩) hK hP hD hS hA hP hD rfl rfl (by decide) rfl rfl (by decide) rfl rfl rfl rfl rfl hl.1 rfl (Nat.le_of_ble_eq_true rfl) dX2_rebuild_42 ⟨Nat.zero_le _, Nat.zero_le _⟩ (fun H locs hP hD hS => ?_)
          refine lv_aload_n hx hb dX2_rebuild_45 rfl (lv_at hl 0 rfl) ?_
          obtain ⟨⟨zk46, zm46, zb46, zs46, zr46, zu46, zmc46⟩, h_46, hm⟩ := ob hm
          refine z_callWv (wc := (wL cI ad zk zm zb zs zr zu zt zf42 zg p1 p2 zmc zmg zsp zjn)) (w1 := (wL cI ad zk46 zm46 zb46 zs46 zr46 zu46 zt zf42 zg p1 p2 zmc46 zmg zsp zjn)) (ws := (wL cI ad zk zm zb zs zr zu zt zf42 zg p1 p2 zmc zmg zsp zjn)) (ws' := (wL cI ad zk46 zm46 zb46 zs46 zr46 zu46 zt zf42 zg p1 p2 zmc46 zmg zsp zjn)) [0, 1, 2, 3, 4, 5, 6, 7, 8, 9, 10, 11, 12, 13, 14, 15, 16, 17] [] 18 (As := []) (rest := []) (ci := 2) (q := (RX2, TX2, 15)) ⟨hx, hb, hml, hown, hts⟩ (c_X2_clearRow l dC dI cI ad zk zm zb zs zr zu zt zf42 zg p1 p2 zmc zmg zsp zjn F H.size zk46 zm46 zb46 zs46 zr46 zu46 zmc46 h_46) (cwV 0 hts gX2_rebuild_X2_clearRow rfl rfl rfl kv_X2_clearRow ⟨Nat.le_of_ble_eq_true rfl, Nat.le_of_ble_eq_true rfl⟩) hK hP hD hS hA hP hD rfl rfl (by decide) rfl rfl (by decide) rfl rfl rfl rfl rfl hl.1 rfl (Nat.le_of_ble_eq_true rfl) dX2_rebuild_46 ⟨Nat.zero_le _, Nat.zero_le _⟩ (fun H locs hP hD hS => ?_)
          refine lv_iconst (v := 0) hx hb dX2_rebuild_49 (by decide) ?_
          refine lv_istore_n (lv' := [(3, .int 0), (0, .ref (ad 0)), (1, .int p1), (2, .int p2)]) hx hb dX2_rebuild_50 rfl hl (by decide) rfl (fun ls hl => ?_)
          obtain ⟨z_51, hq_51, hm⟩ := ob hm
          have K_51 : ∀ (zkx51 : zN), ∀ (zmx51 : zN), ∀ (zsx51 : zN), ∀ (zrx51 : zN), ∀ (zux51 : zN), ∀ (ztx51 : zT), z_51 = (zkx51, zmx51, zsx51, zrx51, zux51, ztx51) → ∀ (H : Heap) (locs : List Loc), va_P (dC, dI) vwCl (wL cI ad zkx51 zmx51 zb46 zsx51 zrx51 zux51 ztx51 zf42 zg p1 p2 zmc46 zmg zsp zjn) H → va_D A (wL cI ad zkx51 zmx51 zb46 zsx51 zrx51 zux51 ztx51 zf42 zg p1 p2 zmc46 zmg zsp zjn) → va_S A s.heap H locs → ∀ (ls : Array Slot), lv_has ls 4 [(0, .ref (ad 0))] → W p l e (headSpec wsX2_rebuild ({ frames := 6, cells := 1, slots := 6, locals := 91 } : Room)).room s m ([.ref (ad 0), .int p1, .int p2] : List Value).toArray below meth c H locs 0 0 (vx_MQ below (zXi (dC, dI) (fun (u_ : zN × zN × zN × zN × zN × zN × zT × zN × Int32 × Int32 × Int32) => (wL cI ad u_.1 u_.2.1 u_.2.2.1 u_.2.2.2.1 u_.2.2.2.2.1 u_.2.2.2.2.2.1 u_.2.2.2.2.2.2.1 u_.2.2.2.2.2.2.2.1 zg u_.2.2.2.2.2.2.2.2.1 u_.2.2.2.2.2.2.2.2.2.1 u_.2.2.2.2.2.2.2.2.2.2 zmg zsp zjn)) [(cI, .int)] A (fun r_ u_ => z = Sum.inr (r_, u_))) (zXC (dC, dI) (wL cI ad zk zm zb zs zr zu zt zf zg zbd zro zmc zmg zsp zjn) [(cI, .int)] A z) ([.ref (ad 0), .int p1, .int p2] : List Value).toArray s 1 6 A) (F0 m 80 ls []) := by
            intro zkx51 zmx51 zsx51 zrx51 zux51 ztx51 ez H locs hP hD hS ls hl
            rw [ez] at hm
            refine lv_aload_n hx hb dX2_rebuild_80 rfl (lv_at hl 0 rfl) ?_
            refine va_get (D := (dC, dI)) (ci := 2) (v := .ref (ad 7)) (C := RX2) (T := TX2) (N := 15) hx hb hts ziX2 hown hK hP 0 rfl rfl 3 (by decide) zw3 (fun _ h9 => h9) rfl dX2_rebuild_81 ?_
            obtain ⟨r84, h_84, hm⟩ := ob hm
            refine z_callRi (As := []) (rest := []) (ci := 0) (q := (RX0, TX0, 2)) ⟨hx, hb, hml, hown, hts⟩ (c_X0_length l dC dI cI (ad 7) (ad 8) 256 zsx51 F r84 h_84) (cwV 0 hts gX2_rebuild_X0_length rfl rfl rfl kv_X0_length ⟨Nat.le_of_ble_eq_true rfl, Nat.le_of_ble_eq_true rfl⟩) hK (hP.sub (ws' := (wN cI (ad 7) (ad 8) 256 zsx51)) [7, 8] rfl) rfl rfl rfl rfl hl.1 rfl (Nat.le_of_ble_eq_true rfl) dX2_rebuild_84 ⟨Nat.zero_le _, Nat.zero_le _⟩ ?_
            refine vx_ret (W.widen (k := 1) (n := 6) (Nat.le_of_ble_eq_true rfl) (Nat.le_of_ble_eq_true rfl) ?_)
            exact W.iret hx hb hr (fun t ht hW => ⟨⟨_, (zkx51, zmx51, zb46, zsx51, zrx51, zux51, ztx51, zf42, p1, p2, zmc46), rfl, o2 hm, by rw [ht]; exact hP, va_K.moved hW.alike hK, hD⟩, hS.F ht⟩) hS.2.2 dX2_rebuild_87
          have L_51 : ∀ (n : Nat) (x3 : Int32) (zkl51 : zN) (zml51 : zN) (zsl51 : zN) (zrl51 : zN) (zul51 : zN) (ztl51 : zT), X2_rebuild_L51 p1 F zf42 n x3 zkl51 zml51 zsl51 zrl51 zul51 ztl51 = some z_51 → ∀ (H : Heap) (locs : List Loc), va_P (dC, dI) vwCl (wL cI ad zkl51 zml51 zb46 zsl51 zrl51 zul51 ztl51 zf42 zg p1 p2 zmc46 zmg zsp zjn) H → va_D A (wL cI ad zkl51 zml51 zb46 zsl51 zrl51 zul51 ztl51 zf42 zg p1 p2 zmc46 zmg zsp zjn) → va_S A s.heap H locs → ∀ (ls : Array Slot), lv_has ls 4 [(3, .int x3), (0, .ref (ad 0))] → W p l e (headSpec wsX2_rebuild ({ frames := 6, cells := 1, slots := 6, locals := 91 } : Room)).room s m ([.ref (ad 0), .int p1, .int p2] : List Value).toArray below meth c H locs 0 0 (vx_MQ below (zXi (dC, dI) (fun (u_ : zN × zN × zN × zN × zN × zN × zT × zN × Int32 × Int32 × Int32) => (wL cI ad u_.1 u_.2.1 u_.2.2.1 u_.2.2.2.1 u_.2.2.2.2.1 u_.2.2.2.2.2.1 u_.2.2.2.2.2.2.1 u_.2.2.2.2.2.2.2.1 zg u_.2.2.2.2.2.2.2.2.1 u_.2.2.2.2.2.2.2.2.2.1 u_.2.2.2.2.2.2.2.2.2.2 zmg zsp zjn)) [(cI, .int)] A (fun r_ u_ => z = Sum.inr (r_, u_))) (zXC (dC, dI) (wL cI ad zk zm zb zs zr zu zt zf zg zbd zro zmc zmg zsp zjn) [(cI, .int)] A z) ([.ref (ad 0), .int p1, .int p2] : List Value).toArray s 1 6 A) (F0 m 51 ls []) := by
            intro n
            induction n with
            | zero => intro x3 zkl51 zml51 zsl51 zrl51 zul51 ztl51 hm; cases hm
            | succ n ih_51 =>
              intro x3 zkl51 zml51 zsl51 zrl51 zul51 ztl51 hm H locs hP hD hS ls hl
              refine lv_iload_n hx hb dX2_rebuild_51 rfl (lv_at hl 0 rfl) ?_
              refine lv_aload_n hx hb dX2_rebuild_52 rfl (lv_at hl 1 rfl) ?_
              refine va_get (D := (dC, dI)) (ci := 2) (v := .ref (ad 14)) (C := RX2) (T := TX2) (N := 15) hx hb hts ziX2 hown hK hP 0 rfl rfl 7 (by decide) zw2 (fun _ h9 => h9) rfl dX2_rebuild_53 ?_
              obtain ⟨r56, h_56, hm⟩ := ob hm
              refine z_callRi (As := []) (rest := [.int x3]) (ci := 0) (q := (RX0, TX0, 2)) ⟨hx, hb, hml, hown, hts⟩ (c_X0_length l dC dI cI (ad 14) (ad 15) 256 zf42 F r56 h_56) (cwV 0 hts gX2_rebuild_X0_length rfl rfl rfl kv_X0_length ⟨Nat.le_of_ble_eq_true rfl, Nat.le_of_ble_eq_true rfl⟩) hK (hP.sub (ws' := (wN cI (ad 14) (ad 15) 256 zf42)) [14, 15] rfl) rfl rfl rfl rfl hl.1 rfl (Nat.le_of_ble_eq_true rfl) dX2_rebuild_56 ⟨Nat.zero_le _, Nat.zero_le _⟩ ?_
              refine lv_icmp_ge (tgt := 80) hx hb dX2_rebuild_59 (by decide) (fun c_59 => ?_) (fun c_59 => ?_)
              · have hm := it_t hm c_59
                exact K_51 zkl51 zml51 zsl51 zrl51 zul51 ztl51 (o2 hm) _ _ hP hD hS _ (lv_sub hl [1] rfl)
              · have hm := it_f hm c_59
                refine lv_aload_n hx hb dX2_rebuild_62 rfl (lv_at hl 1 rfl) ?_
                refine lv_aload_n hx hb dX2_rebuild_63 rfl (lv_at hl 1 rfl) ?_
                refine va_get (D := (dC, dI)) (ci := 2) (v := .ref (ad 14)) (C := RX2) (T := TX2) (N := 15) hx hb hts ziX2 hown hK hP 0 rfl rfl 7 (by decide) zw2 (fun _ h9 => h9) rfl dX2_rebuild_64 ?_
                refine lv_iload_n hx hb dX2_rebuild_67 rfl (lv_at hl 0 rfl) ?_
                obtain ⟨r68, h_68, hm⟩ := ob hm
                refine z_callRi (As := [.int x3]) (rest := [.ref (ad 0)]) (ci := 0) (q := (RX0, TX0, 2)) ⟨hx, hb, hml, hown, hts⟩ (c_X0_at l dC dI cI (ad 14) (ad 15) 256 zf42 F x3 r68 h_68) (cwV 1 hts gX2_rebuild_X0_at rfl rfl rfl kv_X0_at ⟨Nat.le_of_ble_eq_true rfl, Nat.le_of_ble_eq_true rfl⟩) hK (hP.sub (ws' := (wN cI (ad 14) (ad 15) 256 zf42)) [14, 15] rfl) rfl rfl rfl rfl hl.1 rfl (Nat.le_of_ble_eq_true rfl) dX2_rebuild_68 ⟨Nat.zero_le _, Nat.zero_le _⟩ ?_
                obtain ⟨⟨zk71, zm71, zs71, zr71, zu71, zt71⟩, h_71, hm⟩ := ob hm
                refine z_callWv (wc := (wL cI ad zkl51 zml51 zb46 zsl51 zrl51 zul51 ztl51 zf42 zg p1 p2 zmc46 zmg zsp zjn)) (w1 := (wL cI ad zk71 zm71 zb46 zs71 zr71 zu71 zt71 zf42 zg p1 p2 zmc46 zmg zsp zjn)) (ws := (wL cI ad zkl51 zml51 zb46 zsl51 zrl51 zul51 ztl51 zf42 zg p1 p2 zmc46 zmg zsp zjn)) (ws' := (wL cI ad zk71 zm71 zb46 zs71 zr71 zu71 zt71 zf42 zg p1 p2 zmc46 zmg zsp zjn)) [0, 1, 2, 3, 4, 5, 6, 7, 8, 9, 10, 11, 12, 13, 14, 15, 16, 17] [] 18 (As := [.int r68]) (rest := []) (ci := 2) (q := (RX2, TX2, 15)) ⟨hx, hb, hml, hown, hts⟩ (c_X2_addLast l dC dI cI ad zkl51 zml51 zb46 zsl51 zrl51 zul51 ztl51 zf42 zg p1 p2 zmc46 zmg zsp zjn F r68 H.size zk71 zm71 zs71 zr71 zu71 zt71 h_71) (cwV 1 hts gX2_rebuild_X2_addLast rfl rfl rfl kv_X2_addLast ⟨Nat.le_of_ble_eq_true rfl, Nat.le_of_ble_eq_true rfl⟩) hK hP hD hS hA hP hD rfl rfl (by decide) rfl rfl (by decide) rfl rfl rfl rfl rfl hl.1 rfl (Nat.le_of_ble_eq_true rfl) dX2_rebuild_71 ⟨Nat.zero_le _, Nat.zero_le _⟩ (fun H locs hP hD hS => ?_)
                obtain ⟨x3_1, e_x3_1⟩ : ∃ y : Int32, y = x3 + 1 := ⟨_, rfl⟩
                have hm := bnd_e hm e_x3_1
                refine lv_iinc (v := x3_1) (lv' := [(3, .int x3_1), (0, .ref (ad 0))]) hx hb dX2_rebuild_74 hl (k := 0) rfl (by rw [e_x3_1]; rfl) (by decide) rfl (fun ls hl => ?_)
                refine lv_goto (tgt := 51) hx hb dX2_rebuild_77 (by decide) ?_
                exact ih_51 x3_1 zk71 zm71 zs71 zr71 zu71 zt71 hm _ _ hP hD hS _ (lv_sub hl [0, 1] rfl)
          exact L_51 F 0 zk46 zm46 zs46 zr46 zu46 zt hq_51 _ _ hP hD hS _ (lv_sub hl [0, 1] rfl)
        · have hm := it_f hm c_18
          exact vx_throwS hx hb hl9 (own := RX2) (cls := "java/lang/IllegalArgumentException") (names := ["java/lang/RuntimeException", "java/lang/Exception"]) (ik := 80) (is := 126) (ic := 84) hown (by decide +kernel) (by decide +kernel) zw4 zw5 (hV.1 (126, "bound or room out of range") (by decide +kernel)) (vx_hat (fun w h => hts w (List.mem_cons_of_mem _ (List.mem_append_right _ h))) (by decide +kernel) (zV_ng hV)) (by decide +kernel) hV.2.2.1 hV.2.2.2 hS (hl.1.trans hml.symm) dX2_rebuild_21 dX2_rebuild_24 dX2_rebuild_25 dX2_rebuild_27 dX2_rebuild_30 (fun x hx => (hnx x hx).elim) (Nat.le_of_ble_eq_true rfl) (Nat.le_of_ble_eq_true rfl) (Nat.le_of_ble_eq_true rfl) (Nat.le_of_ble_eq_true rfl) hlocks (z_xt (k := 1) rfl (o2 hm) hP hK hD hS) hS.2.2 (Nat.le_of_ble_eq_true rfl) (Nat.le_of_ble_eq_true rfl)
set_option maxHeartbeats 4000000 in
set_option maxRecDepth 100000 in
theorem c_X2_size (l : Launch) (dC : Nat → ClassId) (dI : Nat → Nat → Nat) (cI : ClassId) (ad : Nat → Nat) (zk : zN) (zm : zN) (zb : zN) (zs : zN) (zr : zN) (zu : zN) (zt : zT) (zf : zN) (zg : zN) (zbd : Int32) (zro : Int32) (zmc : Int32) (zmg : Int32) (zsp : Int32) (zjn : Int32) (F : Nat) (r : Int32) (hm : X2_size F zk zb zmc = some r) : Met l yX2_size wsX2_size ({ frames := 3, cells := 0, slots := 0, locals := 60 }) (va_Pc [.ref (ad 0)] (zR (dC, dI) (wL cI ad zk zm zb zs zr zu zt zf zg zbd zro zmc zmg zsp zjn) [(cI, .int)])) (vp_Si (fun v => v = r)) 0 0 (fun _ => False) := by
  refine Met.ofW (cc := cX2_size) (maxL := 1) (ret := (some .int)) (by decide) rfl ?_
  intro p e s m args below meth c s₁ B hml hv
  obtain ⟨rfl, hP, hK⟩ := hv
  have hx := B.exec
  have hb := B.bytes
  have hr := B.returns
  have hts := atoms_spec (ws := wsX2_size) B.pre
  have hown : s.vm.findClass RX2 = some m.cls := findClass_of_methodNamed B.named
  have hlocks := B.notSynchronized
  have hl := lv_entry ([.ref (ad 0)]) (n := 1) (Nat.le_of_ble_eq_true rfl)
  rw [lg_entry_eq]
  generalize (lg_sl ([.ref (ad 0)]) ++ List.replicate (1 - (lg_sl ([.ref (ad 0)])).length) Slot.unset).toArray = ls at hl ⊢
  have hl : lv_has ls 1 [(0, .ref (ad 0))] := hl
  refine lv_aload_n hx hb dX2_size_0 rfl (lv_at hl 0 rfl) ?_
  obtain ⟨r1, h_1, hm⟩ := ob hm
  refine z_callRi (As := []) (rest := []) (ci := 2) (q := (RX2, TX2, 15)) ⟨hx, hb, hml, hown, hts⟩ (c_X2_keysThere l dC dI cI ad zk zm zb zs zr zu zt zf zg zbd zro zmc zmg zsp zjn F r1 h_1) (cwV 0 hts gX2_size_X2_keysThere rfl rfl rfl kv_X2_keysThere ⟨Nat.le_of_ble_eq_true rfl, Nat.le_of_ble_eq_true rfl⟩) hK hP rfl rfl rfl rfl hl.1 rfl (Nat.le_of_ble_eq_true rfl) dX2_size_1 ⟨Nat.zero_le _, Nat.zero_le _⟩ ?_
  exact W.iret hx hb hr (fun t ht hW => ⟨_, rfl, (o2 hm).symm, ht⟩) (fun q h => absurd h List.not_mem_nil) dX2_size_4
set_option maxHeartbeats 4000000 in
set_option maxRecDepth 100000 in
theorem c_X2_contains (l : Launch) (dC : Nat → ClassId) (dI : Nat → Nat → Nat) (cI : ClassId) (ad : Nat → Nat) (zk : zN) (zm : zN) (zb : zN) (zs : zN) (zr : zN) (zu : zN) (zt : zT) (zf : zN) (zg : zN) (zbd : Int32) (zro : Int32) (zmc : Int32) (zmg : Int32) (zsp : Int32) (zjn : Int32) (F : Nat) (p1 : Int32) (r : Int32) (hm : X2_contains F zk zm zb p1 = some r) : Met l yX2_contains wsX2_contains ({ frames := 5, cells := 0, slots := 0, locals := 111 }) (va_Pc [.ref (ad 0), .int p1] (zR (dC, dI) (wL cI ad zk zm zb zs zr zu zt zf zg zbd zro zmc zmg zsp zjn) [(cI, .int)])) (vp_Si (fun v => v = r)) 0 0 (fun _ => False) := by
  refine Met.ofW (cc := cX2_contains) (maxL := 2) (ret := (some .boolean)) (by decide) rfl ?_
  intro p e s m args below meth c s₁ B hml hv
  obtain ⟨rfl, hP, hK⟩ := hv
  have hx := B.exec
  have hb := B.bytes
  have hr := B.returns
  have hts := atoms_spec (ws := wsX2_contains) B.pre
  have hown : s.vm.findClass RX2 = some m.cls := findClass_of_methodNamed B.named
  have hlocks := B.notSynchronized
  have hl := lv_entry ([.ref (ad 0), .int p1]) (n := 2) (Nat.le_of_ble_eq_true rfl)
  rw [lg_entry_eq]
  generalize (lg_sl ([.ref (ad 0), .int p1]) ++ List.replicate (2 - (lg_sl ([.ref (ad 0), .int p1])).length) Slot.unset).toArray = ls at hl ⊢
  have hl : lv_has ls 2 [(0, .ref (ad 0)), (1, .int p1)] := hl
  refine lv_aload_n hx hb dX2_contains_0 rfl (lv_at hl 0 rfl) ?_
  refine lv_iload_n hx hb dX2_contains_1 rfl (lv_at hl 1 rfl) ?_
  obtain ⟨r2, h_2, hm⟩ := ob hm
  refine z_callRi (As := [.int p1]) (rest := []) (ci := 2) (q := (RX2, TX2, 15)) ⟨hx, hb, hml, hown, hts⟩ (c_X2_isThere l dC dI cI ad zk zm zb zs zr zu zt zf zg zbd zro zmc zmg zsp zjn F p1 r2 h_2) (cwV 1 hts gX2_contains_X2_isThere rfl rfl rfl kv_X2_isThere ⟨Nat.le_of_ble_eq_true rfl, Nat.le_of_ble_eq_true rfl⟩) hK hP rfl rfl rfl rfl hl.1 rfl (Nat.le_of_ble_eq_true rfl) dX2_contains_2 ⟨Nat.zero_le _, Nat.zero_le _⟩ ?_
  obtain ⟨c_5, hm⟩ := ck hm
  exact W.zret hx hb hr (nar_b c_5) (fun t ht hW => ⟨_, rfl, (o2 hm).symm, ht⟩) (fun q h => absurd h List.not_mem_nil) dX2_contains_5
set_option maxHeartbeats 4000000 in
set_option maxRecDepth 100000 in
theorem c_X2_thereBelow (l : Launch) (dC : Nat → ClassId) (dI : Nat → Nat → Nat) (cI : ClassId) (ad : Nat → Nat) (zk : zN) (zm : zN) (zb : zN) (zs : zN) (zr : zN) (zu : zN) (zt : zT) (zf : zN) (zg : zN) (zbd : Int32) (zro : Int32) (zmc : Int32) (zmg : Int32) (zsp : Int32) (zjn : Int32) (F : Nat) (p1 : Int32) (r : Int32) (hm : X2_thereBelow F zk zm zb p1 = some r) : Met l yX2_thereBelow wsX2_thereBelow ({ frames := 3, cells := 0, slots := 0, locals := 67 }) (va_Pc [.ref (ad 0), .int p1] (zR (dC, dI) (wL cI ad zk zm zb zs zr zu zt zf zg zbd zro zmc zmg zsp zjn) [(cI, .int)])) (vp_Si (fun v => v = r)) 0 0 (fun _ => False) := by
  refine Met.ofW (cc := cX2_thereBelow) (maxL := 5) (ret := (some .int)) (by decide) rfl ?_
  intro p e s m args below meth c s₁ B hml hv
  obtain ⟨rfl, hP, hK⟩ := hv
  have hx := B.exec
  have hb := B.bytes
  have hr := B.returns
  have hts := atoms_spec (ws := wsX2_thereBelow) B.pre
  have hown : s.vm.findClass RX2 = some m.cls := findClass_of_methodNamed B.named
  have hlocks := B.notSynchronized
  have hl := lv_entry ([.ref (ad 0), .int p1]) (n := 5) (Nat.le_of_ble_eq_true rfl)
  rw [lg_entry_eq]
  generalize (lg_sl ([.ref (ad 0), .int p1]) ++ List.replicate (5 - (lg_sl ([.ref (ad 0), .int p1])).length) Slot.unset).toArray = ls at hl ⊢
  have hl : lv_has ls 5 [(0, .ref (ad 0)), (1, .int p1)] := hl
  have zw0 := hts (.fieldLink RX2 14 "LearnedLedge" "keys" "LLearnedLedge$Numbers;") (by decide +kernel)
  have zw1 := hts (.fieldLink RX2 21 "LearnedLedge" "buffer" "LLearnedLedge$Numbers;") (by decide +kernel)
  have zw2 := hts (.fieldLink RX2 18 "LearnedLedge" "marks" "LLearnedLedge$Numbers;") (by decide +kernel)
  have ziX2 : ∀ w ∈ u_ws RX2 TX2 15, w ∈ wsX2_thereBelow := by decide +kernel
  refine lv_aload_n hx hb dX2_thereBelow_0 rfl (lv_at hl 0 rfl) ?_
  refine va_get (D := (dC, dI)) (ci := 2) (v := .ref (ad 1)) (C := RX2) (T := TX2) (N := 15) hx hb hts ziX2 hown hK hP 0 rfl rfl 0 (by decide) zw0 (fun _ h9 => h9) rfl dX2_thereBelow_1 ?_
  refine lv_iload_n hx hb dX2_thereBelow_4 rfl (lv_at hl 1 rfl) ?_
  obtain ⟨r5, h_5, hm⟩ := ob hm
  refine z_callRi (As := [.int p1]) (rest := []) (ci := 0) (q := (RX0, TX0, 2)) ⟨hx, hb, hml, hown, hts⟩ (c_X0_below l dC dI cI (ad 1) (ad 2) 256 zk F p1 r5 h_5) (cwV 1 hts gX2_thereBelow_X0_below rfl rfl rfl kv_X0_below ⟨Nat.le_of_ble_eq_true rfl, Nat.le_of_ble_eq_true rfl⟩) hK (hP.sub (ws' := (wN cI (ad 1) (ad 2) 256 zk)) [1, 2] rfl) rfl rfl rfl rfl hl.1 rfl (Nat.le_of_ble_eq_true rfl) dX2_thereBelow_5 ⟨Nat.zero_le _, Nat.zero_le _⟩ ?_
  refine lv_istore_n (lv' := [(2, .int r5), (0, .ref (ad 0)), (1, .int p1)]) hx hb dX2_thereBelow_8 rfl hl (by decide) rfl (fun ls hl => ?_)
  refine lv_aload_n hx hb dX2_thereBelow_9 rfl (lv_at hl 1 rfl) ?_
  refine va_get (D := (dC, dI)) (ci := 2) (v := .ref (ad 5)) (C := RX2) (T := TX2) (N := 15) hx hb hts ziX2 hown hK hP 0 rfl rfl 2 (by decide) zw1 (fun _ h9 => h9) rfl dX2_thereBelow_10 ?_
  refine lv_iload_n hx hb dX2_thereBelow_13 rfl (lv_at hl 2 rfl) ?_
  obtain ⟨r14, h_14, hm⟩ := ob hm
  refine z_callRi (As := [.int p1]) (rest := []) (ci := 0) (q := (RX0, TX0, 2)) ⟨hx, hb, hml, hown, hts⟩ (c_X0_below l dC dI cI (ad 5) (ad 6) 16 zb F p1 r14 h_14) (cwV 1 hts gX2_thereBelow_X0_below rfl rfl rfl kv_X0_below ⟨Nat.le_of_ble_eq_true rfl, Nat.le_of_ble_eq_true rfl⟩) hK (hP.sub (ws' := (wN cI (ad 5) (ad 6) 16 zb)) [5, 6] rfl) rfl rfl rfl rfl hl.1 rfl (Nat.le_of_ble_eq_true rfl) dX2_thereBelow_14 ⟨Nat.zero_le _, Nat.zero_le _⟩ ?_
  refine lv_istore_n (lv' := [(3, .int r14), (2, .int r5), (0, .ref (ad 0)), (1, .int p1)]) hx hb dX2_thereBelow_17 rfl hl (by decide) rfl (fun ls hl => ?_)
  refine lv_iconst (v := 0) hx hb dX2_thereBelow_18 (by decide) ?_
  refine lv_istore (lv' := [(4, .int 0), (3, .int r14), (2, .int r5), (0, .ref (ad 0)), (1, .int p1)]) hx hb dX2_thereBelow_19 hl (by decide) rfl (fun ls hl => ?_)
  obtain ⟨z_21, hq_21, hm⟩ := ob hm
  have K_21 : ∀ (x3_2 : Int32), z_21 = x3_2 → ∀ (ls : Array Slot), lv_has ls 5 [(3, .int x3_2)] → W p l e (headSpec wsX2_thereBelow ({ frames := 3, cells := 0, slots := 0, locals := 67 } : Room)).room s m ([.ref (ad 0), .int p1] : List Value).toArray below meth c s.heap [] 0 0 (MQ below (vp_Si (fun v => v = r)) ([.ref (ad 0), .int p1] : List Value).toArray s 0 0 (fun _ => False)) (F0 m 47 ls []) := by
    intro x3_2 ez ls hl
    rw [ez] at hm
    refine lv_iload_n hx hb dX2_thereBelow_47 rfl (lv_at hl 0 rfl) ?_
    exact W.iret hx hb hr (fun t ht hW => ⟨_, rfl, (o2 hm).symm, ht⟩) (fun q h => absurd h List.not_mem_nil) dX2_thereBelow_48
  have L_21 : ∀ (n : Nat) (x4 : Int32) (x3 : Int32), X2_thereBelow_L21 zm F r5 n x4 x3 = some z_21 → ∀ (ls : Array Slot), lv_has ls 5 [(4, .int x4), (3, .int x3), (2, .int r5), (0, .ref (ad 0))] → W p l e (headSpec wsX2_thereBelow ({ frames := 3, cells := 0, slots := 0, locals := 67 } : Room)).room s m ([.ref (ad 0), .int p1] : List Value).toArray below meth c s.heap [] 0 0 (MQ below (vp_Si (fun v => v = r)) ([.ref (ad 0), .int p1] : List Value).toArray s 0 0 (fun _ => False)) (F0 m 21 ls []) := by
    intro n
    induction n with
    | zero => intro x4 x3 hm; cases hm
    | succ n ih_21 =>
      intro x4 x3 hm ls hl
      refine lv_iload hx hb dX2_thereBelow_21 (lv_at hl 0 rfl) ?_
      refine lv_iload_n hx hb dX2_thereBelow_23 rfl (lv_at hl 2 rfl) ?_
      refine lv_icmp_ge (tgt := 47) hx hb dX2_thereBelow_24 (by decide) (fun c_24 => ?_) (fun c_24 => ?_)
      · have hm := it_t hm c_24
        exact K_21 x3 (o2 hm) _ (lv_sub hl [1] rfl)
      · have hm := it_f hm c_24
        refine lv_iload_n hx hb dX2_thereBelow_27 rfl (lv_at hl 1 rfl) ?_
        refine lv_iconst (v := 1) hx hb dX2_thereBelow_28 (by decide) ?_
        refine lv_aload_n hx hb dX2_thereBelow_29 rfl (lv_at hl 3 rfl) ?_
        refine va_get (D := (dC, dI)) (ci := 2) (v := .ref (ad 3)) (C := RX2) (T := TX2) (N := 15) hx hb hts ziX2 hown hK hP 0 rfl rfl 1 (by decide) zw2 (fun _ h9 => h9) rfl dX2_thereBelow_30 ?_
        refine lv_iload hx hb dX2_thereBelow_33 (lv_at hl 0 rfl) ?_
        obtain ⟨r35, h_35, hm⟩ := ob hm
        refine z_callRi (As := [.int x4]) (rest := [.int 1, .int x3]) (ci := 0) (q := (RX0, TX0, 2)) ⟨hx, hb, hml, hown, hts⟩ (c_X0_at l dC dI cI (ad 3) (ad 4) 256 zm F x4 r35 h_35) (cwV 1 hts gX2_thereBelow_X0_at rfl rfl rfl kv_X0_at ⟨Nat.le_of_ble_eq_true rfl, Nat.le_of_ble_eq_true rfl⟩) hK (hP.sub (ws' := (wN cI (ad 3) (ad 4) 256 zm)) [3, 4] rfl) rfl rfl rfl rfl hl.1 rfl (Nat.le_of_ble_eq_true rfl) dX2_thereBelow_35 ⟨Nat.zero_le _, Nat.zero_le _⟩ ?_
        refine lv_isub hx hb dX2_thereBelow_38 ?_
        refine lv_iadd hx hb dX2_thereBelow_39 ?_
        refine lv_topi (fun x3_1 e_x3_1 => ?_)
        have hm := bnd_e hm e_x3_1
        refine lv_istore_n (lv' := [(3, .int x3_1), (4, .int x4), (2, .int r5), (0, .ref (ad 0))]) hx hb dX2_thereBelow_40 rfl hl (by decide) rfl (fun ls hl => ?_)
        obtain ⟨x4_1, e_x4_1⟩ : ∃ y : Int32, y = x4 + 1 := ⟨_, rfl⟩
        have hm := bnd_e hm e_x4_1
        refine lv_iinc (v := x4_1) (lv' := [(4, .int x4_1), (3, .int x3_1), (2, .int r5), (0, .ref (ad 0))]) hx hb dX2_thereBelow_41 hl (k := 1) rfl (by rw [e_x4_1]; rfl) (by decide) rfl (fun ls hl => ?_)
        refine lv_goto (tgt := 21) hx hb dX2_thereBelow_44 (by decide) ?_
        exact ih_21 x4_1 x3_1 hm _ (lv_sub hl [0, 1, 2, 3] rfl)
  exact L_21 F 0 r14 hq_21 _ (lv_sub hl [0, 1, 2, 3] rfl)
set_option maxHeartbeats 4000000 in
set_option maxRecDepth 100000 in
theorem c_X2_rank (l : Launch) (dC : Nat → ClassId) (dI : Nat → Nat → Nat) (cI : ClassId) (ad : Nat → Nat) (zk : zN) (zm : zN) (zb : zN) (zs : zN) (zr : zN) (zu : zN) (zt : zT) (zf : zN) (zg : zN) (zbd : Int32) (zro : Int32) (zmc : Int32) (zmg : Int32) (zsp : Int32) (zjn : Int32) (F : Nat) (p1 : Int32) (r : Int32) (hm : X2_rank F zk zm zb p1 = some r) : Met l yX2_rank wsX2_rank ({ frames := 4, cells := 0, slots := 0, locals := 91 }) (va_Pc [.ref (ad 0), .int p1] (zR (dC, dI) (wL cI ad zk zm zb zs zr zu zt zf zg zbd zro zmc zmg zsp zjn) [(cI, .int)])) (vp_Si (fun v => v = r)) 0 0 (fun _ => False) := by
  refine Met.ofW (cc := cX2_rank) (maxL := 2) (ret := (some .int)) (by decide) rfl ?_
  intro p e s m args below meth c s₁ B hml hv
  obtain ⟨rfl, hP, hK⟩ := hv
  have hx := B.exec
  have hb := B.bytes
  have hr := B.returns
  have hts := atoms_spec (ws := wsX2_rank) B.pre
  have hown : s.vm.findClass RX2 = some m.cls := findClass_of_methodNamed B.named
  have hlocks := B.notSynchronized
  have hl := lv_entry ([.ref (ad 0), .int p1]) (n := 2) (Nat.le_of_ble_eq_true rfl)
  rw [lg_entry_eq]
  generalize (lg_sl ([.ref (ad 0), .int p1]) ++ List.replicate (2 - (lg_sl ([.ref (ad 0), .int p1])).length) Slot.unset).toArray = ls at hl ⊢
  have hl : lv_has ls 2 [(0, .ref (ad 0)), (1, .int p1)] := hl
  refine lv_aload_n hx hb dX2_rank_0 rfl (lv_at hl 0 rfl) ?_
  refine lv_iload_n hx hb dX2_rank_1 rfl (lv_at hl 1 rfl) ?_
  obtain ⟨r2, h_2, hm⟩ := ob hm
  refine z_callRi (As := [.int p1]) (rest := []) (ci := 2) (q := (RX2, TX2, 15)) ⟨hx, hb, hml, hown, hts⟩ (c_X2_thereBelow l dC dI cI ad zk zm zb zs zr zu zt zf zg zbd zro zmc zmg zsp zjn F p1 r2 h_2) (cwV 1 hts gX2_rank_X2_thereBelow rfl rfl rfl kv_X2_thereBelow ⟨Nat.le_of_ble_eq_true rfl, Nat.le_of_ble_eq_true rfl⟩) hK hP rfl rfl rfl rfl hl.1 rfl (Nat.le_of_ble_eq_true rfl) dX2_rank_2 ⟨Nat.zero_le _, Nat.zero_le _⟩ ?_
  exact W.iret hx hb hr (fun t ht hW => ⟨_, rfl, (o2 hm).symm, ht⟩) (fun q h => absurd h List.not_mem_nil) dX2_rank_5
set_option maxHeartbeats 4000000 in
set_option maxRecDepth 100000 in
theorem c_X2_keyThere (l : Launch) (dC : Nat → ClassId) (dI : Nat → Nat → Nat) (cI : ClassId) (ad : Nat → Nat) (zk : zN) (zm : zN) (zb : zN) (zs : zN) (zr : zN) (zu : zN) (zt : zT) (zf : zN) (zg : zN) (zbd : Int32) (zro : Int32) (zmc : Int32) (zmg : Int32) (zsp : Int32) (zjn : Int32) (F : Nat) (p1 : Int32) (sz : Nat) (r : Int32) (u_zf : zN) (hm : X2_keyThere F zk zm zb zf p1 = some (r, u_zf)) : Met l yX2_keyThere wsX2_keyThere ({ frames := 4, cells := 0, slots := 0, locals := 90 }) (va_Pc [.ref (ad 0), .int p1] (zW (dC, dI) (wL cI ad zk zm zb zs zr zu zt zf zg zbd zro zmc zmg zsp zjn) [(cI, .int)] sz)) (zQi (dC, dI) (wL cI ad zk zm zb zs zr zu zt u_zf zg zbd zro zmc zmg zsp zjn) [(cI, .int)] (va_A (wL cI ad zk zm zb zs zr zu zt zf zg zbd zro zmc zmg zsp zjn) sz) r) 0 0 (va_A (wL cI ad zk zm zb zs zr zu zt zf zg zbd zro zmc zmg zsp zjn) sz) := by
  refine Met.ofW (cc := cX2_keyThere) (maxL := 2) (ret := (some .int)) (by decide) rfl ?_
  intro p e s m args below meth c s₁ B hml hv
  obtain ⟨rfl, hsz, hP, hK, hD0⟩ := hv
  have hx := B.exec
  have hb := B.bytes
  have hr := B.returns
  have hts := atoms_spec (ws := wsX2_keyThere) B.pre
  have hown : s.vm.findClass RX2 = some m.cls := findClass_of_methodNamed B.named
  have hlocks := B.notSynchronized
  subst hsz
  have hD := hD0.self (sz := s.heap.size)
  generalize hAe : va_A (wL cI ad zk zm zb zs zr zu zt zf zg zbd zro zmc zmg zsp zjn) s.heap.size = A at hD ⊢
  have hA : ∀ q : Nat, s.heap.size ≤ q → A q := fun q h => by rw [← hAe]; exact Or.inr h
  have hS : va_S A s.heap s.heap [] := va_S.rf
  generalize eL : ([] : List Loc) = locs at hS ⊢
  obtain ⟨H, eH⟩ : ∃ z : Heap, z = s.heap := ⟨_, rfl⟩
  have hP : va_P (dC, dI) vwCl (wL cI ad zk zm zb zs zr zu zt zf zg zbd zro zmc zmg zsp zjn) H := by rw [eH]; exact hP
  have hS : va_S A s.heap H locs := by rw [eH]; exact hS
  refine z_heap eH ?_
  have hl := lv_entry ([.ref (ad 0), .int p1]) (n := 2) (Nat.le_of_ble_eq_true rfl)
  rw [lg_entry_eq]
  generalize (lg_sl ([.ref (ad 0), .int p1]) ++ List.replicate (2 - (lg_sl ([.ref (ad 0), .int p1])).length) Slot.unset).toArray = ls at hl ⊢
  have hl : lv_has ls 2 [(0, .ref (ad 0)), (1, .int p1)] := hl
  have zw0 := hts (.fieldLink RX2 40 "LearnedLedge" "freshKeys" "LLearnedLedge$Numbers;") (by decide +kernel)
  have ziX2 : ∀ w ∈ u_ws RX2 TX2 15, w ∈ wsX2_keyThere := by decide +kernel
  refine lv_aload_n hx hb dX2_keyThere_0 rfl (lv_at hl 0 rfl) ?_
  obtain ⟨zf1, h_1, hm⟩ := ob hm
  refine z_callWv (wc := (wL cI ad zk zm zb zs zr zu zt zf zg zbd zro zmc zmg zsp zjn)) (w1 := (wL cI ad zk zm zb zs zr zu zt zf1 zg zbd zro zmc zmg zsp zjn)) (ws := (wL cI ad zk zm zb zs zr zu zt zf zg zbd zro zmc zmg zsp zjn)) (ws' := (wL cI ad zk zm zb zs zr zu zt zf1 zg zbd zro zmc zmg zsp zjn)) [0, 1, 2, 3, 4, 5, 6, 7, 8, 9, 10, 11, 12, 13, 14, 15, 16, 17] [] 18 (As := []) (rest := []) (ci := 2) (q := (RX2, TX2, 15)) ⟨hx, hb, hml, hown, hts⟩ (c_X2_gatherAll l dC dI cI ad zk zm zb zs zr zu zt zf zg zbd zro zmc zmg zsp zjn F H.size zf1 h_1) (cwV 0 hts gX2_keyThere_X2_gatherAll rfl rfl rfl kv_X2_gatherAll ⟨Nat.le_of_ble_eq_true rfl, Nat.le_of_ble_eq_true rfl⟩) hK hP hD hS hA hP hD rfl rfl (by decide) rfl rfl (by decide) rfl rfl rfl rfl rfl hl.1 rfl (Nat.le_of_ble_eq_true rfl) dX2_keyThere_1 ⟨Nat.zero_le _, Nat.zero_le _⟩ (fun H locs hP hD hS => ?_)
  refine lv_aload_n hx hb dX2_keyThere_4 rfl (lv_at hl 0 rfl) ?_
  refine va_get (D := (dC, dI)) (ci := 2) (v := .ref (ad 14)) (C := RX2) (T := TX2) (N := 15) hx hb hts ziX2 hown hK hP 0 rfl rfl 7 (by decide) zw0 (fun _ h9 => h9) rfl dX2_keyThere_5 ?_
  refine lv_iload_n hx hb dX2_keyThere_8 rfl (lv_at hl 1 rfl) ?_
  obtain ⟨r9, h_9, hm⟩ := ob hm
  refine z_callRi (As := [.int p1]) (rest := []) (ci := 0) (q := (RX0, TX0, 2)) ⟨hx, hb, hml, hown, hts⟩ (c_X0_at l dC dI cI (ad 14) (ad 15) 256 zf1 F p1 r9 h_9) (cwV 1 hts gX2_keyThere_X0_at rfl rfl rfl kv_X0_at ⟨Nat.le_of_ble_eq_true rfl, Nat.le_of_ble_eq_true rfl⟩) hK (hP.sub (ws' := (wN cI (ad 14) (ad 15) 256 zf1)) [14, 15] rfl) rfl rfl rfl rfl hl.1 rfl (Nat.le_of_ble_eq_true rfl) dX2_keyThere_9 ⟨Nat.zero_le _, Nat.zero_le _⟩ ?_
  cases o2 hm
  exact W.iret hx hb hr (fun t ht hW => ⟨⟨_, (), rfl, rfl, by rw [ht]; exact hP, va_K.moved hW.alike hK, hD⟩, hS.F ht⟩) hS.2.2 dX2_keyThere_12
set_option maxHeartbeats 4000000 in
set_option maxRecDepth 100000 in
theorem c_X2_select (l : Launch) (dC : Nat → ClassId) (dI : Nat → Nat → Nat) (cI : ClassId) (ad : Nat → Nat) (zk : zN) (zm : zN) (zb : zN) (zs : zN) (zr : zN) (zu : zN) (zt : zT) (zf : zN) (zg : zN) (zbd : Int32) (zro : Int32) (zmc : Int32) (zmg : Int32) (zsp : Int32) (zjn : Int32) (F : Nat) (p1 : Int32) (sz : Nat) (sa : Nat → Nat) (hl9 : l.stackTraces = false) (z : Nat ⊕ (Int32 × zN)) (hm : X2_select F zk zm zb zf zmc p1 = some z) : vx_Met l yX2_select wsX2_select ({ frames := 6, cells := 1, slots := 6, locals := 111 }) (va_Pc [.ref (ad 0), .int p1] (zX (dC, dI) (wL cI ad zk zm zb zs zr zu zt zf zg zbd zro zmc zmg zsp zjn) [(cI, .int)] sz sa)) (zXi (dC, dI) (fun (u_ : zN) => (wL cI ad zk zm zb zs zr zu zt u_ zg zbd zro zmc zmg zsp zjn)) [(cI, .int)] (va_A (wL cI ad zk zm zb zs zr zu zt zf zg zbd zro zmc zmg zsp zjn) sz) (fun r_ u_ => z = Sum.inr (r_, u_))) (zXC (dC, dI) (wL cI ad zk zm zb zs zr zu zt zf zg zbd zro zmc zmg zsp zjn) [(cI, .int)] (va_A (wL cI ad zk zm zb zs zr zu zt zf zg zbd zro zmc zmg zsp zjn) sz) z) 1 6 (va_A (wL cI ad zk zm zb zs zr zu zt zf zg zbd zro zmc zmg zsp zjn) sz) := by
  refine vx_ofW (cc := cX2_select) (maxL := 2) (ret := (some .int)) (by decide) rfl ?_
  intro p e s m args below meth c s₁ B hml hnx hv
  obtain ⟨rfl, ⟨hsz, hP, hK, hD0⟩, hV⟩ := hv
  have hx := B.exec
  have hb := B.bytes
  have hr := B.returns
  have hts := atoms_spec (ws := wsX2_select) B.pre
  have hown : s.vm.findClass RX2 = some m.cls := findClass_of_methodNamed B.named
  have hlocks := B.notSynchronized
  subst hsz
  have hD := hD0.self (sz := s.heap.size)
  generalize hAe : va_A (wL cI ad zk zm zb zs zr zu zt zf zg zbd zro zmc zmg zsp zjn) s.heap.size = A at hD hV ⊢
  have hA : ∀ q : Nat, s.heap.size ≤ q → A q := fun q h => by rw [← hAe]; exact Or.inr h
  have hS : va_S A s.heap s.heap [] := va_S.rf
  generalize eL : ([] : List Loc) = locs at hS ⊢
  obtain ⟨H, eH⟩ : ∃ z : Heap, z = s.heap := ⟨_, rfl⟩
  have hP : va_P (dC, dI) vwCl (wL cI ad zk zm zb zs zr zu zt zf zg zbd zro zmc zmg zsp zjn) H := by rw [eH]; exact hP
  have hS : va_S A s.heap H locs := by rw [eH]; exact hS
  refine z_heap eH ?_
  have hl := lv_entry ([.ref (ad 0), .int p1]) (n := 2) (Nat.le_of_ble_eq_true rfl)
  rw [lg_entry_eq]
  generalize (lg_sl ([.ref (ad 0), .int p1]) ++ List.replicate (2 - (lg_sl ([.ref (ad 0), .int p1])).length) Slot.unset).toArray = ls at hl ⊢
  have hl : lv_has ls 2 [(0, .ref (ad 0)), (1, .int p1)] := hl
  have zw0 := hts (.classLink RX2 140 "java/lang/IndexOutOfBoundsException") (by decide +kernel)
  have zw1 := hts (.initialized "java/lang/IndexOutOfBoundsException") (by decide +kernel)
  refine lv_iload_n hx hb dX2_select_0 rfl (lv_at hl 1 rfl) ?_
  refine lv_if_lt (tgt := 12) hx hb dX2_select_1 (by decide) (fun c_1 => ?_) (fun c_1 => ?_)
  · have hm := it_t hm c_1
    exact vx_throwS hx hb hl9 (own := RX2) (cls := "java/lang/IndexOutOfBoundsException") (names := ["java/lang/RuntimeException", "java/lang/Exception"]) (ik := 140) (is := 142) (ic := 144) hown (by decide +kernel) (by decide +kernel) zw0 zw1 (hV.1 (142, "not so many keys") (by decide +kernel)) (vx_hat (fun w h => hts w (List.mem_cons_of_mem _ (List.mem_append_right _ h))) (by decide +kernel) (zV_ng hV)) (by decide +kernel) hV.2.2.1 hV.2.2.2 hS (hl.1.trans hml.symm) dX2_select_12 dX2_select_15 dX2_select_16 dX2_select_18 dX2_select_21 (fun x hx => (hnx x hx).elim) (Nat.le_of_ble_eq_true rfl) (Nat.le_of_ble_eq_true rfl) (Nat.le_of_ble_eq_true rfl) (Nat.le_of_ble_eq_true rfl) hlocks (z_xt (k := 3) rfl (o2 hm) hP hK hD hS) hS.2.2 (Nat.le_of_ble_eq_true rfl) (Nat.le_of_ble_eq_true rfl)
  · have hm := it_f hm c_1
    refine lv_iload_n hx hb dX2_select_4 rfl (lv_at hl 1 rfl) ?_
    refine lv_aload_n hx hb dX2_select_5 rfl (lv_at hl 0 rfl) ?_
    obtain ⟨r6, h_6, hm⟩ := ob hm
    refine z_callRi (As := []) (rest := [.int p1]) (ci := 2) (q := (RX2, TX2, 15)) ⟨hx, hb, hml, hown, hts⟩ (c_X2_keysThere l dC dI cI ad zk zm zb zs zr zu zt zf zg zbd zro zmc zmg zsp zjn F r6 h_6) (cwV 0 hts gX2_select_X2_keysThere rfl rfl rfl kv_X2_keysThere ⟨Nat.le_of_ble_eq_true rfl, Nat.le_of_ble_eq_true rfl⟩) hK hP rfl rfl rfl rfl hl.1 rfl (Nat.le_of_ble_eq_true rfl) dX2_select_6 ⟨Nat.zero_le _, Nat.zero_le _⟩ ?_
    refine lv_icmp_lt (tgt := 22) hx hb dX2_select_9 (by decide) (fun c_9 => ?_) (fun c_9 => ?_)
    · have hm := it_t hm c_9
      refine lv_aload_n hx hb dX2_select_22 rfl (lv_at hl 0 rfl) ?_
      refine lv_iload_n hx hb dX2_select_23 rfl (lv_at hl 1 rfl) ?_
      obtain ⟨⟨r24, zf24⟩, h_24, hm⟩ := ob hm
      refine z_callWi (wc := (wL cI ad zk zm zb zs zr zu zt zf zg zbd zro zmc zmg zsp zjn)) (w1 := (wL cI ad zk zm zb zs zr zu zt zf24 zg zbd zro zmc zmg zsp zjn)) (ws := (wL cI ad zk zm zb zs zr zu zt zf zg zbd zro zmc zmg zsp zjn)) (ws' := (wL cI ad zk zm zb zs zr zu zt zf24 zg zbd zro zmc zmg zsp zjn)) [0, 1, 2, 3, 4, 5, 6, 7, 8, 9, 10, 11, 12, 13, 14, 15, 16, 17] [] 18 (As := [.int p1]) (rest := []) (ci := 2) (q := (RX2, TX2, 15)) ⟨hx, hb, hml, hown, hts⟩ (c_X2_keyThere l dC dI cI ad zk zm zb zs zr zu zt zf zg zbd zro zmc zmg zsp zjn F p1 H.size r24 zf24 h_24) (cwV 1 hts gX2_select_X2_keyThere rfl rfl rfl kv_X2_keyThere ⟨Nat.le_of_ble_eq_true rfl, Nat.le_of_ble_eq_true rfl⟩) hK hP hD hS hA hP hD rfl rfl (by decide) rfl rfl (by decide) rfl rfl rfl rfl rfl hl.1 rfl (Nat.le_of_ble_eq_true rfl) dX2_select_24 ⟨Nat.zero_le _, Nat.zero_le _⟩ (fun H locs hP hD hS => ?_)
      refine vx_ret (W.widen (k := 1) (n := 6) (Nat.le_of_ble_eq_true rfl) (Nat.le_of_ble_eq_true rfl) ?_)
      exact W.iret hx hb hr (fun t ht hW => ⟨⟨_, zf24, rfl, o2 hm, by rw [ht]; exact hP, va_K.moved hW.alike hK, hD⟩, hS.F ht⟩) hS.2.2 dX2_select_27
    · have hm := it_f hm c_9
      exact vx_throwS hx hb hl9 (own := RX2) (cls := "java/lang/IndexOutOfBoundsException") (names := ["java/lang/RuntimeException", "java/lang/Exception"]) (ik := 140) (is := 142) (ic := 144) hown (by decide +kernel) (by decide +kernel) zw0 zw1 (hV.1 (142, "not so many keys") (by decide +kernel)) (vx_hat (fun w h => hts w (List.mem_cons_of_mem _ (List.mem_append_right _ h))) (by decide +kernel) (zV_ng hV)) (by decide +kernel) hV.2.2.1 hV.2.2.2 hS (hl.1.trans hml.symm) dX2_select_12 dX2_select_15 dX2_select_16 dX2_select_18 dX2_select_21 (fun x hx => (hnx x hx).elim) (Nat.le_of_ble_eq_true rfl) (Nat.le_of_ble_eq_true rfl) (Nat.le_of_ble_eq_true rfl) (Nat.le_of_ble_eq_true rfl) hlocks (z_xt (k := 3) rfl (o2 hm) hP hK hD hS) hS.2.2 (Nat.le_of_ble_eq_true rfl) (Nat.le_of_ble_eq_true rfl)
set_option maxHeartbeats 4000000 in
set_option maxRecDepth 100000 in
theorem c_X2_ceiling (l : Launch) (dC : Nat → ClassId) (dI : Nat → Nat → Nat) (cI : ClassId) (ad : Nat → Nat) (zk : zN) (zm : zN) (zb : zN) (zs : zN) (zr : zN) (zu : zN) (zt : zT) (zf : zN) (zg : zN) (zbd : Int32) (zro : Int32) (zmc : Int32) (zmg : Int32) (zsp : Int32) (zjn : Int32) (F : Nat) (p1 : Int32) (sz : Nat) (sa : Nat → Nat) (hl9 : l.stackTraces = false) (z : Nat ⊕ (Int32 × zN)) (hm : X2_ceiling F zk zm zb zf zmc p1 = some z) : vx_Met l yX2_ceiling wsX2_ceiling ({ frames := 6, cells := 1, slots := 6, locals := 111 }) (va_Pc [.ref (ad 0), .int p1] (zX (dC, dI) (wL cI ad zk zm zb zs zr zu zt zf zg zbd zro zmc zmg zsp zjn) [(cI, .int)] sz sa)) (zXi (dC, dI) (fun (u_ : zN) => (wL cI ad zk zm zb zs zr zu zt u_ zg zbd zro zmc zmg zsp zjn)) [(cI, .int)] (va_A (wL cI ad zk zm zb zs zr zu zt zf zg zbd zro zmc zmg zsp zjn) sz) (fun r_ u_ => z = Sum.inr (r_, u_))) (zXC (dC, dI) (wL cI ad zk zm zb zs zr zu zt zf zg zbd zro zmc zmg zsp zjn) [(cI, .int)] (va_A (wL cI ad zk zm zb zs zr zu zt zf zg zbd zro zmc zmg zsp zjn) sz) z) 1 6 (va_A (wL cI ad zk zm zb zs zr zu zt zf zg zbd zro zmc zmg zsp zjn) sz) := by
  refine vx_ofW (cc := cX2_ceiling) (maxL := 3) (ret := (some .int)) (by decide) rfl ?_
  intro p e s m args below meth c s₁ B hml hnx hv
  obtain ⟨rfl, ⟨hsz, hP, hK, hD0⟩, hV⟩ := hv
  have hx := B.exec
  have hb := B.bytes
  have hr := B.returns
  have hts := atoms_spec (ws := wsX2_ceiling) B.pre
  have hown : s.vm.findClass RX2 = some m.cls := findClass_of_methodNamed B.named
  have hlocks := B.notSynchronized
  subst hsz
  have hD := hD0.self (sz := s.heap.size)
  generalize hAe : va_A (wL cI ad zk zm zb zs zr zu zt zf zg zbd zro zmc zmg zsp zjn) s.heap.size = A at hD hV ⊢
  have hA : ∀ q : Nat, s.heap.size ≤ q → A q := fun q h => by rw [← hAe]; exact Or.inr h
  have hS : va_S A s.heap s.heap [] := va_S.rf
  generalize eL : ([] : List Loc) = locs at hS ⊢
  obtain ⟨H, eH⟩ : ∃ z : Heap, z = s.heap := ⟨_, rfl⟩
  have hP : va_P (dC, dI) vwCl (wL cI ad zk zm zb zs zr zu zt zf zg zbd zro zmc zmg zsp zjn) H := by rw [eH]; exact hP
  have hS : va_S A s.heap H locs := by rw [eH]; exact hS
  refine z_heap eH ?_
  have hl := lv_entry ([.ref (ad 0), .int p1]) (n := 3) (Nat.le_of_ble_eq_true rfl)
  rw [lg_entry_eq]
  generalize (lg_sl ([.ref (ad 0), .int p1]) ++ List.replicate (3 - (lg_sl ([.ref (ad 0), .int p1])).length) Slot.unset).toArray = ls at hl ⊢
  have hl : lv_has ls 3 [(0, .ref (ad 0)), (1, .int p1)] := hl
  have zw0 := hts (.classLink RX2 109 "java/util/NoSuchElementException") (by decide +kernel)
  have zw1 := hts (.initialized "java/util/NoSuchElementException") (by decide +kernel)
  refine lv_aload_n hx hb dX2_ceiling_0 rfl (lv_at hl 0 rfl) ?_
  refine lv_iload_n hx hb dX2_ceiling_1 rfl (lv_at hl 1 rfl) ?_
  obtain ⟨r2, h_2, hm⟩ := ob hm
  refine z_callRi (As := [.int p1]) (rest := []) (ci := 2) (q := (RX2, TX2, 15)) ⟨hx, hb, hml, hown, hts⟩ (c_X2_thereBelow l dC dI cI ad zk zm zb zs zr zu zt zf zg zbd zro zmc zmg zsp zjn F p1 r2 h_2) (cwV 1 hts gX2_ceiling_X2_thereBelow rfl rfl rfl kv_X2_thereBelow ⟨Nat.le_of_ble_eq_true rfl, Nat.le_of_ble_eq_true rfl⟩) hK hP rfl rfl rfl rfl hl.1 rfl (Nat.le_of_ble_eq_true rfl) dX2_ceiling_2 ⟨Nat.zero_le _, Nat.zero_le _⟩ ?_
  refine lv_istore_n (lv' := [(2, .int r2), (0, .ref (ad 0)), (1, .int p1)]) hx hb dX2_ceiling_5 rfl hl (by decide) rfl (fun ls hl => ?_)
  refine lv_iload_n hx hb dX2_ceiling_6 rfl (lv_at hl 0 rfl) ?_
  refine lv_aload_n hx hb dX2_ceiling_7 rfl (lv_at hl 1 rfl) ?_
  obtain ⟨r8, h_8, hm⟩ := ob hm
  refine z_callRi (As := []) (rest := [.int r2]) (ci := 2) (q := (RX2, TX2, 15)) ⟨hx, hb, hml, hown, hts⟩ (c_X2_keysThere l dC dI cI ad zk zm zb zs zr zu zt zf zg zbd zro zmc zmg zsp zjn F r8 h_8) (cwV 0 hts gX2_ceiling_X2_keysThere rfl rfl rfl kv_X2_keysThere ⟨Nat.le_of_ble_eq_true rfl, Nat.le_of_ble_eq_true rfl⟩) hK hP rfl rfl rfl rfl hl.1 rfl (Nat.le_of_ble_eq_true rfl) dX2_ceiling_8 ⟨Nat.zero_le _, Nat.zero_le _⟩ ?_
  refine lv_icmp_lt (tgt := 24) hx hb dX2_ceiling_11 (by decide) (fun c_11 => ?_) (fun c_11 => ?_)
  · have hm := it_t hm c_11
    refine lv_aload_n hx hb dX2_ceiling_24 rfl (lv_at hl 1 rfl) ?_
    refine lv_iload_n hx hb dX2_ceiling_25 rfl (lv_at hl 0 rfl) ?_
    obtain ⟨⟨r26, zf26⟩, h_26, hm⟩ := ob hm
    refine z_callWi (wc := (wL cI ad zk zm zb zs zr zu zt zf zg zbd zro zmc zmg zsp zjn)) (w1 := (wL cI ad zk zm zb zs zr zu zt zf26 zg zbd zro zmc zmg zsp zjn)) (ws := (wL cI ad zk zm zb zs zr zu zt zf zg zbd zro zmc zmg zsp zjn)) (ws' := (wL cI ad zk zm zb zs zr zu zt zf26 zg zbd zro zmc zmg zsp zjn)) [0, 1, 2, 3, 4, 5, 6, 7, 8, 9, 10, 11, 12, 13, 14, 15, 16, 17] [] 18 (As := [.int r2]) (rest := []) (ci := 2) (q := (RX2, TX2, 15)) ⟨hx, hb, hml, hown, hts⟩ (c_X2_keyThere l dC dI cI ad zk zm zb zs zr zu zt zf zg zbd zro zmc zmg zsp zjn F r2 H.size r26 zf26 h_26) (cwV 1 hts gX2_ceiling_X2_keyThere rfl rfl rfl kv_X2_keyThere ⟨Nat.le_of_ble_eq_true rfl, Nat.le_of_ble_eq_true rfl⟩) hK hP hD hS hA hP hD rfl rfl (by decide) rfl rfl (by decide) rfl rfl rfl rfl rfl hl.1 rfl (Nat.le_of_ble_eq_true rfl) dX2_ceiling_26 ⟨Nat.zero_le _, Nat.zero_le _⟩ (fun H locs hP hD hS => ?_)
    refine vx_ret (W.widen (k := 1) (n := 6) (Nat.le_of_ble_eq_true rfl) (Nat.le_of_ble_eq_true rfl) ?_)
    exact W.iret hx hb hr (fun t ht hW => ⟨⟨_, zf26, rfl, o2 hm, by rw [ht]; exact hP, va_K.moved hW.alike hK, hD⟩, hS.F ht⟩) hS.2.2 dX2_ceiling_29
  · have hm := it_f hm c_11
    refine ns_make hx hb hl9 (own := RX2) (ik := 109) (is := 148) (ic := 113) hown zw0 zw1 (hV.1 (148, "all keys are less") (by decide +kernel)) (vx_hat (fun w h => hts w (List.mem_cons_of_mem _ (List.mem_append_right _ h))) (by decide +kernel) (zV_ng hV)) (by decide +kernel) hV.2.2.1 hV.2.2.2 hS (hl.1.trans hml.symm) dX2_ceiling_14 dX2_ceiling_17 dX2_ceiling_18 dX2_ceiling_20 hP (Nat.le_of_ble_eq_true rfl) (Nat.le_of_ble_eq_true rfl) (Nat.le_of_ble_eq_true rfl) (Nat.le_of_ble_eq_true rfl) (fun q9 ce H hP hS hce hcv hcl => ?_)
    refine vx_athrow hx hb dX2_ceiling_23 ?_
    exact vx_out (fun x hx => (hnx x hx).elim) hlocks hce hcv hcl (z_xc (k := 4) (o2 hm) hP hK hD hS) hS.2.2 (Nat.le_of_ble_eq_true rfl) (Nat.le_of_ble_eq_true rfl)
set_option maxHeartbeats 4000000 in
set_option maxRecDepth 100000 in
theorem c_X2_count (l : Launch) (dC : Nat → ClassId) (dI : Nat → Nat → Nat) (cI : ClassId) (ad : Nat → Nat) (zk : zN) (zm : zN) (zb : zN) (zs : zN) (zr : zN) (zu : zN) (zt : zT) (zf : zN) (zg : zN) (zbd : Int32) (zro : Int32) (zmc : Int32) (zmg : Int32) (zsp : Int32) (zjn : Int32) (F : Nat) (p1 : Int32) (p2 : Int32) (r : Int32) (hm : X2_count F zk zm zb p1 p2 = some r) : Met l yX2_count wsX2_count ({ frames := 5, cells := 0, slots := 0, locals := 111 }) (va_Pc [.ref (ad 0), .int p1, .int p2] (zR (dC, dI) (wL cI ad zk zm zb zs zr zu zt zf zg zbd zro zmc zmg zsp zjn) [(cI, .int)])) (vp_Si (fun v => v = r)) 0 0 (fun _ => False) := by
  refine Met.ofW (cc := cX2_count) (maxL := 3) (ret := (some .int)) (by decide) rfl ?_
  intro p e s m args below meth c s₁ B hml hv
  obtain ⟨rfl, hP, hK⟩ := hv
  have hx := B.exec
  have hb := B.bytes
  have hr := B.returns
  have hts := atoms_spec (ws := wsX2_count) B.pre
  have hown : s.vm.findClass RX2 = some m.cls := findClass_of_methodNamed B.named
  have hlocks := B.notSynchronized
  have hl := lv_entry ([.ref (ad 0), .int p1, .int p2]) (n := 3) (Nat.le_of_ble_eq_true rfl)
  rw [lg_entry_eq]
  generalize (lg_sl ([.ref (ad 0), .int p1, .int p2]) ++ List.replicate (3 - (lg_sl ([.ref (ad 0), .int p1, .int p2])).length) Slot.unset).toArray = ls at hl ⊢
  have hl : lv_has ls 3 [(0, .ref (ad 0)), (1, .int p1), (2, .int p2)] := hl
  refine lv_iload_n hx hb dX2_count_0 rfl (lv_at hl 1 rfl) ?_
  refine lv_iload_n hx hb dX2_count_1 rfl (lv_at hl 2 rfl) ?_
  refine lv_icmp_le (tgt := 7) hx hb dX2_count_2 (by decide) (fun c_2 => ?_) (fun c_2 => ?_)
  · have hm := it_t hm c_2
    refine lv_aload_n hx hb dX2_count_7 rfl (lv_at hl 0 rfl) ?_
    refine lv_iload_n hx hb dX2_count_8 rfl (lv_at hl 2 rfl) ?_
    obtain ⟨r9, h_9, hm⟩ := ob hm
    refine z_callRi (As := [.int p2]) (rest := []) (ci := 2) (q := (RX2, TX2, 15)) ⟨hx, hb, hml, hown, hts⟩ (c_X2_thereBelow l dC dI cI ad zk zm zb zs zr zu zt zf zg zbd zro zmc zmg zsp zjn F p2 r9 h_9) (cwV 1 hts gX2_count_X2_thereBelow rfl rfl rfl kv_X2_thereBelow ⟨Nat.le_of_ble_eq_true rfl, Nat.le_of_ble_eq_true rfl⟩) hK hP rfl rfl rfl rfl hl.1 rfl (Nat.le_of_ble_eq_true rfl) dX2_count_9 ⟨Nat.zero_le _, Nat.zero_le _⟩ ?_
    refine lv_aload_n hx hb dX2_count_12 rfl (lv_at hl 0 rfl) ?_
    refine lv_iload_n hx hb dX2_count_13 rfl (lv_at hl 1 rfl) ?_
    obtain ⟨r14, h_14, hm⟩ := ob hm
    refine z_callRi (As := [.int p1]) (rest := [.int r9]) (ci := 2) (q := (RX2, TX2, 15)) ⟨hx, hb, hml, hown, hts⟩ (c_X2_thereBelow l dC dI cI ad zk zm zb zs zr zu zt zf zg zbd zro zmc zmg zsp zjn F p1 r14 h_14) (cwV 1 hts gX2_count_X2_thereBelow rfl rfl rfl kv_X2_thereBelow ⟨Nat.le_of_ble_eq_true rfl, Nat.le_of_ble_eq_true rfl⟩) hK hP rfl rfl rfl rfl hl.1 rfl (Nat.le_of_ble_eq_true rfl) dX2_count_14 ⟨Nat.zero_le _, Nat.zero_le _⟩ ?_
    refine lv_isub hx hb dX2_count_17 ?_
    refine lv_aload_n hx hb dX2_count_18 rfl (lv_at hl 0 rfl) ?_
    refine lv_iload_n hx hb dX2_count_19 rfl (lv_at hl 2 rfl) ?_
    obtain ⟨r20, h_20, hm⟩ := ob hm
    refine z_callRi (As := [.int p2]) (rest := [.int (r9 - r14)]) (ci := 2) (q := (RX2, TX2, 15)) ⟨hx, hb, hml, hown, hts⟩ (c_X2_isThere l dC dI cI ad zk zm zb zs zr zu zt zf zg zbd zro zmc zmg zsp zjn F p2 r20 h_20) (cwV 1 hts gX2_count_X2_isThere rfl rfl rfl kv_X2_isThere ⟨Nat.le_of_ble_eq_true rfl, Nat.le_of_ble_eq_true rfl⟩) hK hP rfl rfl rfl rfl hl.1 rfl (Nat.le_of_ble_eq_true rfl) dX2_count_20 ⟨Nat.zero_le _, Nat.zero_le _⟩ ?_
    refine lv_if_eq (tgt := 30) hx hb dX2_count_23 (by decide) (fun c_23 => ?_) (fun c_23 => ?_)
    · have hm := it_t hm c_23
      refine lv_iconst (v := 0) hx hb dX2_count_30 (by decide) ?_
      refine lv_iadd hx hb dX2_count_31 ?_
      exact W.iret hx hb hr (fun t ht hW => ⟨_, rfl, (o2 hm).symm, ht⟩) (fun q h => absurd h List.not_mem_nil) dX2_count_32
    · have hm := it_f hm c_23
      refine lv_iconst (v := 1) hx hb dX2_count_26 (by decide) ?_
      refine lv_goto (tgt := 31) hx hb dX2_count_27 (by decide) ?_
      refine lv_iadd hx hb dX2_count_31 ?_
      exact W.iret hx hb hr (fun t ht hW => ⟨_, rfl, (o2 hm).symm, ht⟩) (fun q h => absurd h List.not_mem_nil) dX2_count_32
  · have hm := it_f hm c_2
    refine lv_iconst (v := 0) hx hb dX2_count_5 (by decide) ?_
    exact W.iret hx hb hr (fun t ht hW => ⟨_, rfl, (o2 hm).symm, ht⟩) (fun q h => absurd h List.not_mem_nil) dX2_count_6
set_option maxHeartbeats 4000000 in
set_option maxRecDepth 100000 in
theorem c_X2_place (l : Launch) (dC : Nat → ClassId) (dI : Nat → Nat → Nat) (cI : ClassId) (ad : Nat → Nat) (zk : zN) (zm : zN) (zb : zN) (zs : zN) (zr : zN) (zu : zN) (zt : zT) (zf : zN) (zg : zN) (zbd : Int32) (zro : Int32) (zmc : Int32) (zmg : Int32) (zsp : Int32) (zjn : Int32) (F : Nat) (p1 : Int32) (r : Int32) (hm : X2_place F zk p1 = some r) : Met l yX2_place wsX2_place ({ frames := 3, cells := 0, slots := 0, locals := 67 }) (va_Pc [.ref (ad 0), .int p1] (zR (dC, dI) (wL cI ad zk zm zb zs zr zu zt zf zg zbd zro zmc zmg zsp zjn) [(cI, .int)])) (vp_Si (fun v => v = r)) 0 0 (fun _ => False) := by
  refine Met.ofW (cc := cX2_place) (maxL := 2) (ret := (some .int)) (by decide) rfl ?_
  intro p e s m args below meth c s₁ B hml hv
  obtain ⟨rfl, hP, hK⟩ := hv
  have hx := B.exec
  have hb := B.bytes
  have hr := B.returns
  have hts := atoms_spec (ws := wsX2_place) B.pre
  have hown : s.vm.findClass RX2 = some m.cls := findClass_of_methodNamed B.named
  have hlocks := B.notSynchronized
  have hl := lv_entry ([.ref (ad 0), .int p1]) (n := 2) (Nat.le_of_ble_eq_true rfl)
  rw [lg_entry_eq]
  generalize (lg_sl ([.ref (ad 0), .int p1]) ++ List.replicate (2 - (lg_sl ([.ref (ad 0), .int p1])).length) Slot.unset).toArray = ls at hl ⊢
  have hl : lv_has ls 2 [(0, .ref (ad 0)), (1, .int p1)] := hl
  have zw0 := hts (.fieldLink RX2 14 "LearnedLedge" "keys" "LLearnedLedge$Numbers;") (by decide +kernel)
  have ziX2 : ∀ w ∈ u_ws RX2 TX2 15, w ∈ wsX2_place := by decide +kernel
  refine lv_aload_n hx hb dX2_place_0 rfl (lv_at hl 0 rfl) ?_
  refine va_get (D := (dC, dI)) (ci := 2) (v := .ref (ad 1)) (C := RX2) (T := TX2) (N := 15) hx hb hts ziX2 hown hK hP 0 rfl rfl 0 (by decide) zw0 (fun _ h9 => h9) rfl dX2_place_1 ?_
  refine lv_iload_n hx hb dX2_place_4 rfl (lv_at hl 1 rfl) ?_
  obtain ⟨r5, h_5, hm⟩ := ob hm
  refine z_callRi (As := [.int p1]) (rest := []) (ci := 0) (q := (RX0, TX0, 2)) ⟨hx, hb, hml, hown, hts⟩ (c_X0_below l dC dI cI (ad 1) (ad 2) 256 zk F p1 r5 h_5) (cwV 1 hts gX2_place_X0_below rfl rfl rfl kv_X0_below ⟨Nat.le_of_ble_eq_true rfl, Nat.le_of_ble_eq_true rfl⟩) hK (hP.sub (ws' := (wN cI (ad 1) (ad 2) 256 zk)) [1, 2] rfl) rfl rfl rfl rfl hl.1 rfl (Nat.le_of_ble_eq_true rfl) dX2_place_5 ⟨Nat.zero_le _, Nat.zero_le _⟩ ?_
  exact W.iret hx hb hr (fun t ht hW => ⟨_, rfl, (o2 hm).symm, ht⟩) (fun q h => absurd h List.not_mem_nil) dX2_place_8
set_option maxHeartbeats 4000000 in
set_option maxRecDepth 100000 in
theorem c_X2_pieceOf (l : Launch) (dC : Nat → ClassId) (dI : Nat → Nat → Nat) (cI : ClassId) (ad : Nat → Nat) (zk : zN) (zm : zN) (zb : zN) (zs : zN) (zr : zN) (zu : zN) (zt : zT) (zf : zN) (zg : zN) (zbd : Int32) (zro : Int32) (zmc : Int32) (zmg : Int32) (zsp : Int32) (zjn : Int32) (F : Nat) (p1 : Int32) (r : Int32) (hm : X2_pieceOf F zk zs p1 = some r) : Met l yX2_pieceOf wsX2_pieceOf ({ frames := 3, cells := 0, slots := 0, locals := 67 }) (va_Pc [.ref (ad 0), .int p1] (zR (dC, dI) (wL cI ad zk zm zb zs zr zu zt zf zg zbd zro zmc zmg zsp zjn) [(cI, .int)])) (vp_Si (fun v => v = r)) 0 0 (fun _ => False) := by
  refine Met.ofW (cc := cX2_pieceOf) (maxL := 3) (ret := (some .int)) (by decide) rfl ?_
  intro p e s m args below meth c s₁ B hml hv
  obtain ⟨rfl, hP, hK⟩ := hv
  have hx := B.exec
  have hb := B.bytes
  have hr := B.returns
  have hts := atoms_spec (ws := wsX2_pieceOf) B.pre
  have hown : s.vm.findClass RX2 = some m.cls := findClass_of_methodNamed B.named
  have hlocks := B.notSynchronized
  have hl := lv_entry ([.ref (ad 0), .int p1]) (n := 3) (Nat.le_of_ble_eq_true rfl)
  rw [lg_entry_eq]
  generalize (lg_sl ([.ref (ad 0), .int p1]) ++ List.replicate (3 - (lg_sl ([.ref (ad 0), .int p1])).length) Slot.unset).toArray = ls at hl ⊢
  have hl : lv_has ls 3 [(0, .ref (ad 0)), (1, .int p1)] := hl
  have zw0 := hts (.fieldLink RX2 14 "LearnedLedge" "keys" "LLearnedLedge$Numbers;") (by decide +kernel)
  have zw1 := hts (.fieldLink RX2 24 "LearnedLedge" "starts" "LLearnedLedge$Numbers;") (by decide +kernel)
  have ziX2 : ∀ w ∈ u_ws RX2 TX2 15, w ∈ wsX2_pieceOf := by decide +kernel
  refine lv_aload_n hx hb dX2_pieceOf_0 rfl (lv_at hl 0 rfl) ?_
  refine va_get (D := (dC, dI)) (ci := 2) (v := .ref (ad 1)) (C := RX2) (T := TX2) (N := 15) hx hb hts ziX2 hown hK hP 0 rfl rfl 0 (by decide) zw0 (fun _ h9 => h9) rfl dX2_pieceOf_1 ?_
  refine lv_iload_n hx hb dX2_pieceOf_4 rfl (lv_at hl 1 rfl) ?_
  refine lv_iconst (v := 1) hx hb dX2_pieceOf_5 (by decide) ?_
  refine lv_iadd hx hb dX2_pieceOf_6 ?_
  obtain ⟨r7, h_7, hm⟩ := ob hm
  refine z_callRi (As := [.int (p1 + 1)]) (rest := []) (ci := 0) (q := (RX0, TX0, 2)) ⟨hx, hb, hml, hown, hts⟩ (c_X0_below l dC dI cI (ad 1) (ad 2) 256 zk F (p1 + 1) r7 h_7) (cwV 1 hts gX2_pieceOf_X0_below rfl rfl rfl kv_X0_below ⟨Nat.le_of_ble_eq_true rfl, Nat.le_of_ble_eq_true rfl⟩) hK (hP.sub (ws' := (wN cI (ad 1) (ad 2) 256 zk)) [1, 2] rfl) rfl rfl rfl rfl hl.1 rfl (Nat.le_of_ble_eq_true rfl) dX2_pieceOf_7 ⟨Nat.zero_le _, Nat.zero_le _⟩ ?_
  refine lv_istore_n (lv' := [(2, .int r7), (0, .ref (ad 0)), (1, .int p1)]) hx hb dX2_pieceOf_10 rfl hl (by decide) rfl (fun ls hl => ?_)
  refine lv_aload_n hx hb dX2_pieceOf_11 rfl (lv_at hl 1 rfl) ?_
  refine va_get (D := (dC, dI)) (ci := 2) (v := .ref (ad 7)) (C := RX2) (T := TX2) (N := 15) hx hb hts ziX2 hown hK hP 0 rfl rfl 3 (by decide) zw1 (fun _ h9 => h9) rfl dX2_pieceOf_12 ?_
  refine lv_iload_n hx hb dX2_pieceOf_15 rfl (lv_at hl 0 rfl) ?_
  obtain ⟨r16, h_16, hm⟩ := ob hm
  refine z_callRi (As := [.int r7]) (rest := []) (ci := 0) (q := (RX0, TX0, 2)) ⟨hx, hb, hml, hown, hts⟩ (c_X0_below l dC dI cI (ad 7) (ad 8) 256 zs F r7 r16 h_16) (cwV 1 hts gX2_pieceOf_X0_below rfl rfl rfl kv_X0_below ⟨Nat.le_of_ble_eq_true rfl, Nat.le_of_ble_eq_true rfl⟩) hK (hP.sub (ws' := (wN cI (ad 7) (ad 8) 256 zs)) [7, 8] rfl) rfl rfl rfl rfl hl.1 rfl (Nat.le_of_ble_eq_true rfl) dX2_pieceOf_16 ⟨Nat.zero_le _, Nat.zero_le _⟩ ?_
  refine lv_iconst (v := 1) hx hb dX2_pieceOf_19 (by decide) ?_
  refine lv_isub hx hb dX2_pieceOf_20 ?_
  exact W.iret hx hb hr (fun t ht hW => ⟨_, rfl, (o2 hm).symm, ht⟩) (fun q h => absurd h List.not_mem_nil) dX2_pieceOf_21
