set_option maxHeartbeats 4000000 in
set_option maxRecDepth 100000 in
theorem c_X2_cutFresh (l : Launch) (dC : Nat → ClassId) (dI : Nat → Nat → Nat) (cI : ClassId) (ad : Nat → Nat) (zk : zN) (zm : zN) (zb : zN) (zs : zN) (zr : zN) (zu : zN) (zt : zT) (zf : zN) (zg : zN) (zbd : Int32) (zro : Int32) (zmc : Int32) (zmg : Int32) (zsp : Int32) (zjn : Int32) (F : Nat) (p1 : Int32) (sz : Nat) (u_zt : zT) (u_zg : zN) (u_zsp : Int32) (hm : X2_cutFresh F zt zf zg zbd zsp p1 = some (u_zt, u_zg, u_zsp)) : Met l yX2_cutFresh wsX2_cutFresh ({ frames := 2, cells := 0, slots := 0, locals := 42 }) (va_Pc [.ref (ad 0), .int p1] (zW (dC, dI) (wL cI ad zk zm zb zs zr zu zt zf zg zbd zro zmc zmg zsp zjn) [(cI, .int)] sz)) (zQv (dC, dI) (wL cI ad zk zm zb zs zr zu u_zt zf u_zg zbd zro zmc zmg u_zsp zjn) [(cI, .int)] (va_A (wL cI ad zk zm zb zs zr zu zt zf zg zbd zro zmc zmg zsp zjn) sz)) 0 0 (va_A (wL cI ad zk zm zb zs zr zu zt zf zg zbd zro zmc zmg zsp zjn) sz) := by
  refine Met.ofW (cc := cX2_cutFresh) (maxL := 4) (ret := none) (by decide) rfl ?_
  intro p e s m args below meth c s₁ B hml hv
  obtain ⟨rfl, hsz, hP, hK, hD0⟩ := hv
  have hx := B.exec
  have hb := B.bytes
  have hr := B.returns
  have hts := atoms_spec (ws := wsX2_cutFresh) B.pre
  have hown : s.vm.findClass RX2 = some m.cls := findClass_of_methodNamed B.named
  have hlocks := B.notSynchronized
  subst hsz
  have hD := hD0.self (sz := s.heap.size)
  generalize hAe : va_A (wL cI ad zk zm zb zs zr zu zt zf zg zbd zro zmc zmg zsp zjn) s.heap.size = A at hD ⊢
  have hA : ∀ q : Nat, s.heap.size ≤ q → A q := fun q h => by rw [← hAe]; exact Or.inr h
  have hS : va_S A s.heap s.heap [] := va_S.rf
  generalize eL : ([] : List Loc) = locs at hS ⊢
  obtain ⟨H, eH⟩ : ∃ z : Heap, z = s.heap := ⟨_, rfl⟩
  have hP : va_P (dC, dI) vwCl (wL cI ad zk zm zb zs zr zu zt zf zg zbd zro zmc zmg zsp zjn) H := by rw [eH]; exact hP
  have hS : va_S A s.heap H locs := by rw [eH]; exact hS
  refine z_heap eH ?_
  have hl := lv_entry ([.ref (ad 0), .int p1]) (n := 4) (Nat.le_of_ble_eq_true rfl)
  rw [lg_entry_eq]
  generalize (lg_sl ([.ref (ad 0), .int p1]) ++ List.replicate (4 - (lg_sl ([.ref (ad 0), .int p1])).length) Slot.unset).toArray = ls at hl ⊢
  have hl : lv_has ls 4 [(0, .ref (ad 0)), (1, .int p1)] := hl
  have zw0 := hts (.fieldLink RX2 40 "LearnedLedge" "freshKeys" "LLearnedLedge$Numbers;") (List.mem_cons_of_mem _ (List.mem_append_left _ (List.mem_append_left _ (List.mem_append_left _ (List.mem_append_left _ (List.mem_of_getElem? (i := 0) rfl))))))
  have zw1 := hts (.fieldLink RX2 36 "LearnedLedge" "tail" "LLearnedLedge$SlopeRange;") (List.mem_cons_of_mem _ (List.mem_append_left _ (List.mem_append_left _ (List.mem_append_left _ (List.mem_append_left _ (List.mem_of_getElem? (i := 1) rfl))))))
  have zw2 := hts (.fieldLink RX2 46 "LearnedLedge" "bound" "I") (List.mem_cons_of_mem _ (List.mem_append_left _ (List.mem_append_left _ (List.mem_append_left _ (List.mem_append_left _ (List.mem_of_getElem? (i := 2) rfl))))))
  have zw3 := hts (.fieldLink RX2 43 "LearnedLedge" "freshStarts" "LLearnedLedge$Numbers;") (List.mem_cons_of_mem _ (List.mem_append_left _ (List.mem_append_left _ (List.mem_append_left _ (List.mem_append_left _ (List.mem_of_getElem? (i := 3) rfl))))))
  have zw4 := hts (.fieldLink RX2 59 "LearnedLedge" "splitCount" "I") (List.mem_cons_of_mem _ (List.mem_append_left _ (List.mem_append_left _ (List.mem_append_left _ (List.mem_append_left _ (List.mem_of_getElem? (i := 4) rfl))))))
  have ziX2 : ∀ w ∈ u_ws RX2 TX2 15, w ∈ wsX2_cutFresh := (fun _ h9 => (List.mem_cons_of_mem _ (List.mem_append_left _ (List.mem_append_left _ (List.mem_append_right _ h9)))))
  refine lv_iload_n hx hb dX2_cutFresh_0 rfl (lv_at hl 1 rfl) ?_
  refine lv_istore_n (lv' := [(2, .int p1), (0, .ref (ad 0)), (1, .int p1)]) hx hb dX2_cutFresh_1 rfl hl (by decide) rfl (fun ls hl => ?_)
  obtain ⟨z_2, hq_2, hm⟩ := ob hm
  have K_2 : ∀ (ztx2 : zT), ∀ (zgx2 : zN), ∀ (zspx2 : Int32), z_2 = (ztx2, zgx2, zspx2) → ∀ (H : Heap) (locs : List Loc), va_P (dC, dI) vwCl (wL cI ad zk zm zb zs zr zu ztx2 zf zgx2 zbd zro zmc zmg zspx2 zjn) H → va_D A (wL cI ad zk zm zb zs zr zu ztx2 zf zgx2 zbd zro zmc zmg zspx2 zjn) → va_S A s.heap H locs → ∀ (ls : Array Slot), lv_has ls 4 [] → W p l e (headSpec wsX2_cutFresh ({ frames := 2, cells := 0, slots := 0, locals := 42 } : Room)).room s m ([.ref (ad 0), .int p1] : List Value).toArray below meth c H locs 0 0 (MQ below (zQv (dC, dI) (wL cI ad zk zm zb zs zr zu u_zt zf u_zg zbd zro zmc zmg u_zsp zjn) [(cI, .int)] A) ([.ref (ad 0), .int p1] : List Value).toArray s 0 0 A) (F0 m 85 ls []) := by
    intro ztx2 zgx2 zspx2 ez H locs hP hD hS ls hl
    rw [ez] at hm
    cases o2 hm
    exact W.vret hx hb hr (fun t ht hW => ⟨⟨(), rfl, trivial, by rw [ht]; exact hP, va_K.moved hW.alike hK, hD⟩, hS.F ht⟩) hS.2.2 dX2_cutFresh_85
  have L_2 : ∀ (n : Nat) (x2 : Int32) (ztl2 : zT) (zgl2 : zN) (zspl2 : Int32), X2_cutFresh_L2 p1 zf zbd F n x2 ztl2 zgl2 zspl2 = some z_2 → ∀ (H : Heap) (locs : List Loc), va_P (dC, dI) vwCl (wL cI ad zk zm zb zs zr zu ztl2 zf zgl2 zbd zro zmc zmg zspl2 zjn) H → va_D A (wL cI ad zk zm zb zs zr zu ztl2 zf zgl2 zbd zro zmc zmg zspl2 zjn) → va_S A s.heap H locs → ∀ (ls : Array Slot), lv_has ls 4 [(2, .int x2), (0, .ref (ad 0)), (1, .int p1)] → W p l e (headSpec wsX2_cutFresh ({ frames := 2, cells := 0, slots := 0, locals := 42 } : Room)).room s m ([.ref (ad 0), .int p1] : List Value).toArray below meth c H locs 0 0 (MQ below (zQv (dC, dI) (wL cI ad zk zm zb zs zr zu u_zt zf u_zg zbd zro zmc zmg u_zsp zjn) [(cI, .int)] A) ([.ref (ad 0), .int p1] : List Value).toArray s 0 0 A) (F0 m 2 ls []) := by
    intro n
    induction n with
    | zero => intro x2 ztl2 zgl2 zspl2 hm; cases hm
    | succ n ih_2 =>
      intro x2 ztl2 zgl2 zspl2 hm H locs hP hD hS ls hl
      refine lv_iload_n hx hb dX2_cutFresh_2 rfl (lv_at hl 0 rfl) ?_
      refine lv_aload_n hx hb dX2_cutFresh_3 rfl (lv_at hl 1 rfl) ?_
      refine va_get (D := (dC, dI)) (ci := 2) (v := .ref (ad 14)) (C := RX2) (T := TX2) (N := 15) hx hb hts ziX2 hown hK hP 0 rfl rfl 7 (by decide) zw0 (fun _ h9 => h9) rfl dX2_cutFresh_4 ?_
      obtain ⟨r7, h_7, hm⟩ := ob hm
      refine z_callRi (As := []) (rest := [.int x2]) (ci := 0) (q := (RX0, TX0, 2)) ⟨hx, hb, hml, hown, hts⟩ (c_X0_length l dC dI cI (ad 14) (ad 15) 256 zf F r7 h_7) (cwV 0 hts gX2_cutFresh_X0_length rfl rfl rfl kv_X0_length ⟨Nat.le_of_ble_eq_true rfl, Nat.le_of_ble_eq_true rfl⟩) hK (z_mid (pjL_zf cI ad zk zm zb zs zr zu ztl2 zf zgl2 zbd zro zmc zmg zspl2 zjn zf) hP) rfl rfl rfl rfl hl.1 rfl (Nat.le_of_ble_eq_true rfl) dX2_cutFresh_7 ⟨Nat.zero_le _, Nat.zero_le _⟩ ?_
      refine lv_icmp_ge (tgt := 85) hx hb dX2_cutFresh_10 (by decide) (fun c_10 => ?_) (fun c_10 => ?_)
      · have hm := it_t hm c_10
        exact K_2 ztl2 zgl2 zspl2 (o2 hm) _ _ hP hD hS _ (lv_sub hl [] rfl)
      · have hm := it_f hm c_10
        refine lv_aload_n hx hb dX2_cutFresh_13 rfl (lv_at hl 1 rfl) ?_
        refine va_get (D := (dC, dI)) (ci := 2) (v := .ref (ad 14)) (C := RX2) (T := TX2) (N := 15) hx hb hts ziX2 hown hK hP 0 rfl rfl 7 (by decide) zw0 (fun _ h9 => h9) rfl dX2_cutFresh_14 ?_
        refine lv_iload_n hx hb dX2_cutFresh_17 rfl (lv_at hl 0 rfl) ?_
        obtain ⟨r18, h_18, hm⟩ := ob hm
        refine z_callRi (As := [.int x2]) (rest := []) (ci := 0) (q := (RX0, TX0, 2)) ⟨hx, hb, hml, hown, hts⟩ (c_X0_at l dC dI cI (ad 14) (ad 15) 256 zf F x2 r18 h_18) (cwV 1 hts gX2_cutFresh_X0_at rfl rfl rfl kv_X0_at ⟨Nat.le_of_ble_eq_true rfl, Nat.le_of_ble_eq_true rfl⟩) hK (z_mid (pjL_zf cI ad zk zm zb zs zr zu ztl2 zf zgl2 zbd zro zmc zmg zspl2 zjn zf) hP) rfl rfl rfl rfl hl.1 rfl (Nat.le_of_ble_eq_true rfl) dX2_cutFresh_18 ⟨Nat.zero_le _, Nat.zero_le _⟩ ?_
        refine lv_istore_n (lv' := [(3, .int r18), (2, .int x2), (0, .ref (ad 0)), (1, .int p1)]) hx hb dX2_cutFresh_21 rfl hl (by decide) rfl (fun ls hl => ?_)
        refine lv_iload_n hx hb dX2_cutFresh_22 rfl (lv_at hl 1 rfl) ?_
        refine lv_iload_n hx hb dX2_cutFresh_23 rfl (lv_at hl 3 rfl) ?_
        refine lv_icmp_eq (tgt := 39) hx hb dX2_cutFresh_24 (by decide) (fun c_24 => ?_) (fun c_24 => ?_)
        · have hm := it_t hm c_24
          refine lv_aload_n hx hb dX2_cutFresh_39 rfl (lv_at hl 2 rfl) ?_
          refine va_get (D := (dC, dI)) (ci := 2) (v := .ref (ad 13)) (C := RX2) (T := TX2) (N := 15) hx hb hts ziX2 hown hK hP 0 rfl rfl 6 (by decide) zw1 (fun _ h9 => h9) rfl dX2_cutFresh_40 ?_
          refine lv_iload_n hx hb dX2_cutFresh_43 rfl (lv_at hl 0 rfl) ?_
          refine lv_iload_n hx hb dX2_cutFresh_44 rfl (lv_at hl 1 rfl) ?_
          refine lv_aload_n hx hb dX2_cutFresh_45 rfl (lv_at hl 2 rfl) ?_
          refine va_get (D := (dC, dI)) (ci := 2) (v := .int zbd) (C := RX2) (T := TX2) (N := 15) hx hb hts ziX2 hown hK hP 0 rfl rfl 9 (by decide) zw2 (fun _ h9 => h9) rfl dX2_cutFresh_46 ?_
          obtain ⟨zt49, h_49, hm⟩ := ob hm
          refine z_callWv (wc := (wT (ad 13) ztl2)) (w1 := (wT (ad 13) zt49)) (ws := (wL cI ad zk zm zb zs zr zu ztl2 zf zgl2 zbd zro zmc zmg zspl2 zjn)) (ws' := (wL cI ad zk zm zb zs zr zu zt49 zf zgl2 zbd zro zmc zmg zspl2 zjn)) (As := [.int r18, .int x2, .int zbd]) (rest := []) (ci := 1) (q := (RX1, TX1, 7)) ⟨hx, hb, hml, hown, hts⟩ (c_X1_begin l dC dI (ad 13) ztl2 F r18 x2 zbd H.size zt49 h_49) (cwV 3 hts gX2_cutFresh_X1_begin rfl rfl rfl kv_X1_begin ⟨Nat.le_of_ble_eq_true rfl, Nat.le_of_ble_eq_true rfl⟩) (hK.sub (tys' := []) [] rfl) hP hD hS hA (pjL_zt cI ad zk zm zb zs zr zu ztl2 zf zgl2 zbd zro zmc zmg zspl2 zjn zt49) ((paT (ad 13) zt49).trans (paT (ad 13) ztl2).symm) rfl rfl rfl rfl hl.1 rfl (Nat.le_of_ble_eq_true rfl) dX2_cutFresh_49 ⟨Nat.zero_le _, Nat.zero_le _⟩ (fun H locs hP hD hS => ?_)
          refine lv_aload_n hx hb dX2_cutFresh_52 rfl (lv_at hl 2 rfl) ?_
          refine va_get (D := (dC, dI)) (ci := 2) (v := .ref (ad 16)) (C := RX2) (T := TX2) (N := 15) hx hb hts ziX2 hown hK hP 0 rfl rfl 8 (by decide) zw3 (fun _ h9 => h9) rfl dX2_cutFresh_53 ?_
          refine lv_iload_n hx hb dX2_cutFresh_56 rfl (lv_at hl 1 rfl) ?_
          obtain ⟨zg57, h_57, hm⟩ := ob hm
          refine z_callWv (wc := (wN cI (ad 16) (ad 17) 256 zgl2)) (w1 := (wN cI (ad 16) (ad 17) 256 zg57)) (ws := (wL cI ad zk zm zb zs zr zu zt49 zf zgl2 zbd zro zmc zmg zspl2 zjn)) (ws' := (wL cI ad zk zm zb zs zr zu zt49 zf zg57 zbd zro zmc zmg zspl2 zjn)) (As := [.int x2]) (rest := []) (ci := 0) (q := (RX0, TX0, 2)) ⟨hx, hb, hml, hown, hts⟩ (c_X0_push l dC dI cI (ad 16) (ad 17) 256 zgl2 F x2 H.size zg57 h_57) (cwV 1 hts gX2_cutFresh_X0_push rfl rfl rfl kv_X0_push ⟨Nat.le_of_ble_eq_true rfl, Nat.le_of_ble_eq_true rfl⟩) hK hP hD hS hA (pjL_zg cI ad zk zm zb zs zr zu zt49 zf zgl2 zbd zro zmc zmg zspl2 zjn zg57) ((paN cI (ad 16) (ad 17) 256 zg57).trans (paN cI (ad 16) (ad 17) 256 zgl2).symm) rfl rfl rfl rfl hl.1 rfl (Nat.le_of_ble_eq_true rfl) dX2_cutFresh_57 ⟨Nat.zero_le _, Nat.zero_le _⟩ (fun H locs hP hD hS => ?_)
          refine lv_aload_n hx hb dX2_cutFresh_60 rfl (lv_at hl 2 rfl) ?_
          refine lv_dup hx hb dX2_cutFresh_61 rfl ?_
          refine va_get (D := (dC, dI)) (ci := 2) (v := .int zspl2) (C := RX2) (T := TX2) (N := 15) hx hb hts ziX2 hown hK hP 0 rfl rfl 13 (by decide) zw4 (fun _ h9 => h9) rfl dX2_cutFresh_62 ?_
          refine lv_iload_n hx hb dX2_cutFresh_65 rfl (lv_at hl 1 rfl) ?_
          refine lv_iload_n hx hb dX2_cutFresh_66 rfl (lv_at hl 3 rfl) ?_
          refine lv_icmp_ne (tgt := 74) hx hb dX2_cutFresh_67 (by decide) (fun c_67 => ?_) (fun c_67 => ?_)
          · have hm := it_f hm c_67
            refine lv_iconst (v := 1) hx hb dX2_cutFresh_74 (by decide) ?_
            refine lv_iadd hx hb dX2_cutFresh_75 ?_
            refine va_put (D := (dC, dI)) (ci := 2) (v := .int (zspl2 + 1)) (ty := .int) (C := RX2) (T := TX2) (N := 15) hx hb hts ziX2 tyX2 tyX2_ok nmX2 hown hK hP hD hS 0 rfl rfl 13 (by decide) zw4 (fun _ h9 => h9) rfl (by decide +kernel) rfl rfl (Nat.le_of_ble_eq_true rfl) dX2_cutFresh_76 (fun H locs hP hD hS => ?_)
            have hP : va_P (dC, dI) vwCl (wL cI ad zk zm zb zs zr zu zt49 zf zg57 zbd zro zmc zmg (zspl2 + 1) zjn) H := hP
            have hD : va_D A (wL cI ad zk zm zb zs zr zu zt49 zf zg57 zbd zro zmc zmg (zspl2 + 1) zjn) := hD
            obtain ⟨x2_1, e_x2_1⟩ : ∃ y : Int32, y = x2 + 1 := ⟨_, rfl⟩
            have hm := bnd_e hm e_x2_1
            refine lv_iinc (v := x2_1) (lv' := [(2, .int x2_1), (3, .int r18), (0, .ref (ad 0)), (1, .int p1)]) hx hb dX2_cutFresh_79 hl (k := 1) rfl (by rw [e_x2_1]; rfl) (by decide) rfl (fun ls hl => ?_)
            refine lv_goto (tgt := 2) hx hb dX2_cutFresh_82 (by decide) ?_
            exact ih_2 x2_1 zt49 zg57 (zspl2 + 1) hm _ _ hP hD hS _ (lv_sub hl [0, 2, 3] rfl)
          · have hm := it_t hm c_67
            refine lv_iconst (v := 0) hx hb dX2_cutFresh_70 (by decide) ?_
            refine lv_goto (tgt := 75) hx hb dX2_cutFresh_71 (by decide) ?_
            refine lv_iadd hx hb dX2_cutFresh_75 ?_
            refine va_put (D := (dC, dI)) (ci := 2) (v := .int (zspl2 + 0)) (ty := .int) (C := RX2) (T := TX2) (N := 15) hx hb hts ziX2 tyX2 tyX2_ok nmX2 hown hK hP hD hS 0 rfl rfl 13 (by decide) zw4 (fun _ h9 => h9) rfl (by decide +kernel) rfl rfl (Nat.le_of_ble_eq_true rfl) dX2_cutFresh_76 (fun H locs hP hD hS => ?_)
            have hP : va_P (dC, dI) vwCl (wL cI ad zk zm zb zs zr zu zt49 zf zg57 zbd zro zmc zmg (zspl2 + 0) zjn) H := hP
            have hD : va_D A (wL cI ad zk zm zb zs zr zu zt49 zf zg57 zbd zro zmc zmg (zspl2 + 0) zjn) := hD
            obtain ⟨x2_2, e_x2_2⟩ : ∃ y : Int32, y = x2 + 1 := ⟨_, rfl⟩
            have hm := bnd_e hm e_x2_2
            refine lv_iinc (v := x2_2) (lv' := [(2, .int x2_2), (3, .int r18), (0, .ref (ad 0)), (1, .int p1)]) hx hb dX2_cutFresh_79 hl (k := 1) rfl (by rw [e_x2_2]; rfl) (by decide) rfl (fun ls hl => ?_)
            refine lv_goto (tgt := 2) hx hb dX2_cutFresh_82 (by decide) ?_
            exact ih_2 x2_2 zt49 zg57 (zspl2 + 0) hm _ _ hP hD hS _ (lv_sub hl [0, 2, 3] rfl)
        · have hm := it_f hm c_24
          refine lv_aload_n hx hb dX2_cutFresh_27 rfl (lv_at hl 2 rfl) ?_
          refine va_get (D := (dC, dI)) (ci := 2) (v := .ref (ad 13)) (C := RX2) (T := TX2) (N := 15) hx hb hts ziX2 hown hK hP 0 rfl rfl 6 (by decide) zw1 (fun _ h9 => h9) rfl dX2_cutFresh_28 ?_
          refine lv_iload_n hx hb dX2_cutFresh_31 rfl (lv_at hl 0 rfl) ?_
          refine lv_iload_n hx hb dX2_cutFresh_32 rfl (lv_at hl 1 rfl) ?_
          obtain ⟨⟨r33, zt33⟩, h_33, hm⟩ := ob hm
          refine z_callWi (wc := (wT (ad 13) ztl2)) (w1 := (wT (ad 13) zt33)) (ws := (wL cI ad zk zm zb zs zr zu ztl2 zf zgl2 zbd zro zmc zmg zspl2 zjn)) (ws' := (wL cI ad zk zm zb zs zr zu zt33 zf zgl2 zbd zro zmc zmg zspl2 zjn)) (As := [.int r18, .int x2]) (rest := []) (ci := 1) (q := (RX1, TX1, 7)) ⟨hx, hb, hml, hown, hts⟩ (c_X1_take l dC dI (ad 13) ztl2 F r18 x2 H.size r33 zt33 h_33) (cwV 2 hts gX2_cutFresh_X1_take rfl rfl rfl kv_X1_take ⟨Nat.le_of_ble_eq_true rfl, Nat.le_of_ble_eq_true rfl⟩) (hK.sub (tys' := []) [] rfl) hP hD hS hA (pjL_zt cI ad zk zm zb zs zr zu ztl2 zf zgl2 zbd zro zmc zmg zspl2 zjn zt33) ((paT (ad 13) zt33).trans (paT (ad 13) ztl2).symm) rfl rfl rfl rfl hl.1 rfl (Nat.le_of_ble_eq_true rfl) dX2_cutFresh_33 ⟨Nat.zero_le _, Nat.zero_le _⟩ (fun H locs hP hD hS => ?_)
          refine lv_if_ne (tgt := 79) hx hb dX2_cutFresh_36 (by decide) (fun c_36 => ?_) (fun c_36 => ?_)
          · have hm := it_f hm c_36
            obtain ⟨x2_3, e_x2_3⟩ : ∃ y : Int32, y = x2 + 1 := ⟨_, rfl⟩
            have hm := bnd_e hm e_x2_3
            refine lv_iinc (v := x2_3) (lv' := [(2, .int x2_3), (3, .int r18), (0, .ref (ad 0)), (1, .int p1)]) hx hb dX2_cutFresh_79 hl (k := 1) rfl (by rw [e_x2_3]; rfl) (by decide) rfl (fun ls hl => ?_)
            refine lv_goto (tgt := 2) hx hb dX2_cutFresh_82 (by decide) ?_
            exact ih_2 x2_3 zt33 zgl2 zspl2 hm _ _ hP hD hS _ (lv_sub hl [0, 2, 3] rfl)
          · have hm := it_t hm c_36
            refine lv_aload_n hx hb dX2_cutFresh_39 rfl (lv_at hl 2 rfl) ?_
            refine va_get (D := (dC, dI)) (ci := 2) (v := .ref (ad 13)) (C := RX2) (T := TX2) (N := 15) hx hb hts ziX2 hown hK hP 0 rfl rfl 6 (by decide) zw1 (fun _ h9 => h9) rfl dX2_cutFresh_40 ?_
            refine lv_iload_n hx hb dX2_cutFresh_43 rfl (lv_at hl 0 rfl) ?_
            refine lv_iload_n hx hb dX2_cutFresh_44 rfl (lv_at hl 1 rfl) ?_
            refine lv_aload_n hx hb dX2_cutFresh_45 rfl (lv_at hl 2 rfl) ?_
            refine va_get (D := (dC, dI)) (ci := 2) (v := .int zbd) (C := RX2) (T := TX2) (N := 15) hx hb hts ziX2 hown hK hP 0 rfl rfl 9 (by decide) zw2 (fun _ h9 => h9) rfl dX2_cutFresh_46 ?_
            obtain ⟨zt49_1, h_49, hm⟩ := ob hm
            refine z_callWv (wc := (wT (ad 13) zt33)) (w1 := (wT (ad 13) zt49_1)) (ws := (wL cI ad zk zm zb zs zr zu zt33 zf zgl2 zbd zro zmc zmg zspl2 zjn)) (ws' := (wL cI ad zk zm zb zs zr zu zt49_1 zf zgl2 zbd zro zmc zmg zspl2 zjn)) (As := [.int r18, .int x2, .int zbd]) (rest := []) (ci := 1) (q := (RX1, TX1, 7)) ⟨hx, hb, hml, hown, hts⟩ (c_X1_begin l dC dI (ad 13) zt33 F r18 x2 zbd H.size zt49_1 h_49) (cwV 3 hts gX2_cutFresh_X1_begin rfl rfl rfl kv_X1_begin ⟨Nat.le_of_ble_eq_true rfl, Nat.le_of_ble_eq_true rfl⟩) (hK.sub (tys' := []) [] rfl) hP hD hS hA (pjL_zt cI ad zk zm zb zs zr zu zt33 zf zgl2 zbd zro zmc zmg zspl2 zjn zt49_1) ((paT (ad 13) zt49_1).trans (paT (ad 13) zt33).symm) rfl rfl rfl rfl hl.1 rfl (Nat.le_of_ble_eq_true rfl) dX2_cutFresh_49 ⟨Nat.zero_le _, Nat.zero_le _⟩ (fun H locs hP hD hS => ?_)
            refine lv_aload_n hx hb dX2_cutFresh_52 rfl (lv_at hl 2 rfl) ?_
            refine va_get (D := (dC, dI)) (ci := 2) (v := .ref (ad 16)) (C := RX2) (T := TX2) (N := 15) hx hb hts ziX2 hown hK hP 0 rfl rfl 8 (by decide) zw3 (fun _ h9 => h9) rfl dX2_cutFresh_53 ?_
            refine lv_iload_n hx hb dX2_cutFresh_56 rfl (lv_at hl 1 rfl) ?_
            obtain ⟨zg57_1, h_57, hm⟩ := ob hm
            refine z_callWv (wc := (wN cI (ad 16) (ad 17) 256 zgl2)) (w1 := (wN cI (ad 16) (ad 17) 256 zg57_1)) (ws := (wL cI ad zk zm zb zs zr zu zt49_1 zf zgl2 zbd zro zmc zmg zspl2 zjn)) (ws' := (wL cI ad zk zm zb zs zr zu zt49_1 zf zg57_1 zbd zro zmc zmg zspl2 zjn)) (As := [.int x2]) (rest := []) (ci := 0) (q := (RX0, TX0, 2)) ⟨hx, hb, hml, hown, hts⟩ (c_X0_push l dC dI cI (ad 16) (ad 17) 256 zgl2 F x2 H.size zg57_1 h_57) (cwV 1 hts gX2_cutFresh_X0_push rfl rfl rfl kv_X0_push ⟨Nat.le_of_ble_eq_true rfl, Nat.le_of_ble_eq_true rfl⟩) hK hP hD hS hA (pjL_zg cI ad zk zm zb zs zr zu zt49_1 zf zgl2 zbd zro zmc zmg zspl2 zjn zg57_1) ((paN cI (ad 16) (ad 17) 256 zg57_1).trans (paN cI (ad 16) (ad 17) 256 zgl2).symm) rfl rfl rfl rfl hl.1 rfl (Nat.le_of_ble_eq_true rfl) dX2_cutFresh_57 ⟨Nat.zero_le _, Nat.zero_le _⟩ (fun H locs hP hD hS => ?_)
            refine lv_aload_n hx hb dX2_cutFresh_60 rfl (lv_at hl 2 rfl) ?_
            refine lv_dup hx hb dX2_cutFresh_61 rfl ?_
            refine va_get (D := (dC, dI)) (ci := 2) (v := .int zspl2) (C := RX2) (T := TX2) (N := 15) hx hb hts ziX2 hown hK hP 0 rfl rfl 13 (by decide) zw4 (fun _ h9 => h9) rfl dX2_cutFresh_62 ?_
            refine lv_iload_n hx hb dX2_cutFresh_65 rfl (lv_at hl 1 rfl) ?_
            refine lv_iload_n hx hb dX2_cutFresh_66 rfl (lv_at hl 3 rfl) ?_
            refine lv_icmp_ne (tgt := 74) hx hb dX2_cutFresh_67 (by decide) (fun c_67 => ?_) (fun c_67 => ?_)
            · have hm := it_f hm c_67
              refine lv_iconst (v := 1) hx hb dX2_cutFresh_74 (by decide) ?_
              refine lv_iadd hx hb dX2_cutFresh_75 ?_
              refine va_put (D := (dC, dI)) (ci := 2) (v := .int (zspl2 + 1)) (ty := .int) (C := RX2) (T := TX2) (N := 15) hx hb hts ziX2 tyX2 tyX2_ok nmX2 hown hK hP hD hS 0 rfl rfl 13 (by decide) zw4 (fun _ h9 => h9) rfl (by decide +kernel) rfl rfl (Nat.le_of_ble_eq_true rfl) dX2_cutFresh_76 (fun H locs hP hD hS => ?_)
              have hP : va_P (dC, dI) vwCl (wL cI ad zk zm zb zs zr zu zt49_1 zf zg57_1 zbd zro zmc zmg (zspl2 + 1) zjn) H := hP
              have hD : va_D A (wL cI ad zk zm zb zs zr zu zt49_1 zf zg57_1 zbd zro zmc zmg (zspl2 + 1) zjn) := hD
              obtain ⟨x2_4, e_x2_4⟩ : ∃ y : Int32, y = x2 + 1 := ⟨_, rfl⟩
              have hm := bnd_e hm e_x2_4
              refine lv_iinc (v := x2_4) (lv' := [(2, .int x2_4), (3, .int r18), (0, .ref (ad 0)), (1, .int p1)]) hx hb dX2_cutFresh_79 hl (k := 1) rfl (by rw [e_x2_4]; rfl) (by decide) rfl (fun ls hl => ?_)
              refine lv_goto (tgt := 2) hx hb dX2_cutFresh_82 (by decide) ?_
              exact ih_2 x2_4 zt49_1 zg57_1 (zspl2 + 1) hm _ _ hP hD hS _ (lv_sub hl [0, 2, 3] rfl)
            · have hm := it_t hm c_67
              refine lv_iconst (v := 0) hx hb dX2_cutFresh_70 (by decide) ?_
              refine lv_goto (tgt := 75) hx hb dX2_cutFresh_71 (by decide) ?_
              refine lv_iadd hx hb dX2_cutFresh_75 ?_
              refine va_put (D := (dC, dI)) (ci := 2) (v := .int (zspl2 + 0)) (ty := .int) (C := RX2) (T := TX2) (N := 15) hx hb hts ziX2 tyX2 tyX2_ok nmX2 hown hK hP hD hS 0 rfl rfl 13 (by decide) zw4 (fun _ h9 => h9) rfl (by decide +kernel) rfl rfl (Nat.le_of_ble_eq_true rfl) dX2_cutFresh_76 (fun H locs hP hD hS => ?_)
              have hP : va_P (dC, dI) vwCl (wL cI ad zk zm zb zs zr zu zt49_1 zf zg57_1 zbd zro zmc zmg (zspl2 + 0) zjn) H := hP
              have hD : va_D A (wL cI ad zk zm zb zs zr zu zt49_1 zf zg57_1 zbd zro zmc zmg (zspl2 + 0) zjn) := hD
              obtain ⟨x2_5, e_x2_5⟩ : ∃ y : Int32, y = x2 + 1 := ⟨_, rfl⟩
              have hm := bnd_e hm e_x2_5
              refine lv_iinc (v := x2_5) (lv' := [(2, .int x2_5), (3, .int r18), (0, .ref (ad 0)), (1, .int p1)]) hx hb dX2_cutFresh_79 hl (k := 1) rfl (by rw [e_x2_5]; rfl) (by decide) rfl (fun ls hl => ?_)
              refine lv_goto (tgt := 2) hx hb dX2_cutFresh_82 (by decide) ?_
              exact ih_2 x2_5 zt49_1 zg57_1 (zspl2 + 0) hm _ _ hP hD hS _ (lv_sub hl [0, 2, 3] rfl)
  exact L_2 F p1 zt zg zsp hq_2 _ _ hP hD hS _ (lv_sub hl [0, 1, 2] rfl)
set_option maxHeartbeats 4000000 in
set_option maxRecDepth 100000 in
theorem c_X2_firstOf (l : Launch) (dC : Nat → ClassId) (dI : Nat → Nat → Nat) (cI : ClassId) (ad : Nat → Nat) (zk : zN) (zm : zN) (zb : zN) (zs : zN) (zr : zN) (zu : zN) (zt : zT) (zf : zN) (zg : zN) (zbd : Int32) (zro : Int32) (zmc : Int32) (zmg : Int32) (zsp : Int32) (zjn : Int32) (F : Nat) (p1 : Int32) (r : Int32) (hm : X2_firstOf F zk zs p1 = some r) : Met l yX2_firstOf wsX2_firstOf ({ frames := 2, cells := 0, slots := 0, locals := 42 }) (va_Pc [.ref (ad 0), .int p1] (zR (dC, dI) (wL cI ad zk zm zb zs zr zu zt zf zg zbd zro zmc zmg zsp zjn) [(cI, .int)])) (vp_Si (fun v => v = r)) 0 0 (fun _ => False) := by
  refine Met.ofW (cc := cX2_firstOf) (maxL := 2) (ret := (some .int)) (by decide) rfl ?_
  intro p e s m args below meth c s₁ B hml hv
  obtain ⟨rfl, hP, hK⟩ := hv
  have hx := B.exec
  have hb := B.bytes
  have hr := B.returns
  have hts := atoms_spec (ws := wsX2_firstOf) B.pre
  have hown : s.vm.findClass RX2 = some m.cls := findClass_of_methodNamed B.named
  have hlocks := B.notSynchronized
  have hl := lv_entry ([.ref (ad 0), .int p1]) (n := 2) (Nat.le_of_ble_eq_true rfl)
  rw [lg_entry_eq]
  generalize (lg_sl ([.ref (ad 0), .int p1]) ++ List.replicate (2 - (lg_sl ([.ref (ad 0), .int p1])).length) Slot.unset).toArray = ls at hl ⊢
  have hl : lv_has ls 2 [(0, .ref (ad 0)), (1, .int p1)] := hl
  have zw0 := hts (.fieldLink RX2 14 "LearnedLedge" "keys" "LLearnedLedge$Numbers;") (List.mem_cons_of_mem _ (List.mem_append_left _ (List.mem_append_left _ (List.mem_of_getElem? (i := 0) rfl))))
  have zw1 := hts (.fieldLink RX2 24 "LearnedLedge" "starts" "LLearnedLedge$Numbers;") (List.mem_cons_of_mem _ (List.mem_append_left _ (List.mem_append_left _ (List.mem_of_getElem? (i := 1) rfl))))
  have ziX2 : ∀ w ∈ u_ws RX2 TX2 15, w ∈ wsX2_firstOf := (fun _ h9 => (List.mem_cons_of_mem _ (List.mem_append_left _ (List.mem_append_right _ h9))))
  refine lv_aload_n hx hb dX2_firstOf_0 rfl (lv_at hl 0 rfl) ?_
  refine va_get (D := (dC, dI)) (ci := 2) (v := .ref (ad 1)) (C := RX2) (T := TX2) (N := 15) hx hb hts ziX2 hown hK hP 0 rfl rfl 0 (by decide) zw0 (fun _ h9 => h9) rfl dX2_firstOf_1 ?_
  refine lv_aload_n hx hb dX2_firstOf_4 rfl (lv_at hl 0 rfl) ?_
  refine va_get (D := (dC, dI)) (ci := 2) (v := .ref (ad 7)) (C := RX2) (T := TX2) (N := 15) hx hb hts ziX2 hown hK hP 0 rfl rfl 3 (by decide) zw1 (fun _ h9 => h9) rfl dX2_firstOf_5 ?_
  refine lv_iload_n hx hb dX2_firstOf_8 rfl (lv_at hl 1 rfl) ?_
  obtain ⟨r9, h_9, hm⟩ := ob hm
  refine z_callRi (As := [.int p1]) (rest := [.ref (ad 1)]) (ci := 0) (q := (RX0, TX0, 2)) ⟨hx, hb, hml, hown, hts⟩ (c_X0_at l dC dI cI (ad 7) (ad 8) 256 zs F p1 r9 h_9) (cwV 1 hts gX2_firstOf_X0_at rfl rfl rfl kv_X0_at ⟨Nat.le_of_ble_eq_true rfl, Nat.le_of_ble_eq_true rfl⟩) hK (z_mid (pjL_zs cI ad zk zm zb zs zr zu zt zf zg zbd zro zmc zmg zsp zjn zs) hP) rfl rfl rfl rfl hl.1 rfl (Nat.le_of_ble_eq_true rfl) dX2_firstOf_9 ⟨Nat.zero_le _, Nat.zero_le _⟩ ?_
  obtain ⟨r12, h_12, hm⟩ := ob hm
  refine z_callRi (As := [.int r9]) (rest := []) (ci := 0) (q := (RX0, TX0, 2)) ⟨hx, hb, hml, hown, hts⟩ (c_X0_at l dC dI cI (ad 1) (ad 2) 256 zk F r9 r12 h_12) (cwV 1 hts gX2_firstOf_X0_at rfl rfl rfl kv_X0_at ⟨Nat.le_of_ble_eq_true rfl, Nat.le_of_ble_eq_true rfl⟩) hK (z_mid (pjL_zk cI ad zk zm zb zs zr zu zt zf zg zbd zro zmc zmg zsp zjn zk) hP) rfl rfl rfl rfl hl.1 rfl (Nat.le_of_ble_eq_true rfl) dX2_firstOf_12 ⟨Nat.zero_le _, Nat.zero_le _⟩ ?_
  exact W.iret hx hb hr (fun t ht hW => ⟨_, rfl, (o2 hm).symm, ht⟩) (fun q h => absurd h List.not_mem_nil) dX2_firstOf_15
