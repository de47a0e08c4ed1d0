set_option maxHeartbeats 4000000 in
set_option maxRecDepth 100000 in
theorem n_X2_appendMany (l : Launch) (dC : Nat → ClassId) (dI : Nat → Nat → Nat) (cI : ClassId) (ad : Nat → Nat) (zk : zN) (zm : zN) (zb : zN) (zs : zN) (zr : zN) (zu : zN) (zt : zT) (zf : zN) (zg : zN) (zbd : Int32) (zro : Int32) (zmc : Int32) (zmg : Int32) (zsp : Int32) (zjn : Int32) (F : Nat) (p1 : Int32) (p2 : Int32) (p3 : Int32) (sz : Nat) (r : Int32) (u_zk : zN) (u_zm : zN) (u_zs : zN) (u_zr : zN) (u_zu : zN) (u_zt : zT) (hm : X2_appendMany F zk zm zb zs zr zu zt zbd p1 p2 p3 = some (Sum.inr (r, u_zk, u_zm, u_zs, u_zr, u_zu, u_zt))) : Met l yX2_appendMany wsX2_appendMany ({ frames := 7, cells := 0, slots := 0, locals := 113 }) (va_Pc [.ref (ad 0), .int p1, .int p2, .int p3] (zW (dC, dI) (wL cI ad zk zm zb zs zr zu zt zf zg zbd zro zmc zmg zsp zjn) [(cI, .int)] sz)) (zQi (dC, dI) (wL cI ad u_zk u_zm zb u_zs u_zr u_zu u_zt zf zg zbd zro zmc zmg zsp zjn) [(cI, .int)] (va_A (wL cI ad zk zm zb zs zr zu zt zf zg zbd zro zmc zmg zsp zjn) sz) r) 0 0 (va_A (wL cI ad zk zm zb zs zr zu zt zf zg zbd zro zmc zmg zsp zjn) sz) := by
  refine Met.ofW (cc := cX2_appendMany) (maxL := 7) (ret := (some .int)) (by decide) rfl ?_
  intro p e s m args below meth c s₁ B hml hv
  obtain ⟨rfl, hsz, hP, hK, hD0⟩ := hv
  have hx := B.exec
  have hb := B.bytes
  have hr := B.returns
  have hts := atoms_spec (ws := wsX2_appendMany) B.pre
  have hown : s.vm.findClass RX2 = some m.cls := findClass_of_methodNamed B.named
  have hlocks := B.notSynchronized
  subst hsz
  have hD := hD0.self (sz := s.heap.size)
  generalize hAe : va_A (wL cI ad zk zm zb zs zr zu zt zf zg zbd zro zmc zmg zsp zjn) s.heap.size = A at hD ⊢
  have hA : ∀ q : Nat, s.heap.size ≤ q → A q := fun q h => by rw [← hAe]; exact Or.inr h
  have hS : va_S A s.heap s.heap [] := va_S.rf
  generalize eL : ([] : List Loc) = locs at hS ⊢
  obtain ⟨H, eH⟩ : ∃ z : Heap, z = s.heap := ⟨_, rfl⟩
  have hP : va_P (dC, dI) vwCl (wL cI ad zk zm zb zs zr zu zt zf zg zbd zro zmc zmg zsp zjn) H := by rw [eH]; exact hP
  have hS : va_S A s.heap H locs := by rw [eH]; exact hS
  refine z_heap eH ?_
  have hl := lv_entry ([.ref (ad 0), .int p1, .int p2, .int p3]) (n := 7) (Nat.le_of_ble_eq_true rfl)
  rw [lg_entry_eq]
  generalize (lg_sl ([.ref (ad 0), .int p1, .int p2, .int p3]) ++ List.replicate (7 - (lg_sl ([.ref (ad 0), .int p1, .int p2, .int p3])).length) Slot.unset).toArray = ls at hl ⊢
  have hl : lv_has ls 7 [(0, .ref (ad 0)), (1, .int p1), (2, .int p2), (3, .int p3)] := hl
  have zw0 := hts (.fieldLink RX2 24 "LearnedLedge" "starts" "LLearnedLedge$Numbers;") (List.mem_cons_of_mem _ (List.mem_append_left _ (List.mem_append_left _ (List.mem_append_left _ (List.mem_append_left _ (List.mem_append_left _ (List.mem_append_left _ (List.mem_of_getElem? (i := 2) rfl))))))))
  have zw1 := hts (.classLink RX2 80 "java/lang/IllegalArgumentException") (List.mem_cons_of_mem _ (List.mem_append_left _ (List.mem_append_left _ (List.mem_append_left _ (List.mem_append_left _ (List.mem_append_left _ (List.mem_append_left _ (List.mem_of_getElem? (i := 0) rfl))))))))
  have zw2 := hts (.initialized "java/lang/IllegalArgumentException") (List.mem_cons_of_mem _ (List.mem_append_left _ (List.mem_append_left _ (List.mem_append_left _ (List.mem_append_left _ (List.mem_append_left _ (List.mem_append_left _ (List.mem_of_getElem? (i := 1) rfl))))))))
  have ziX2 : ∀ w ∈ u_ws RX2 TX2 15, w ∈ wsX2_appendMany := (fun _ h9 => (List.mem_cons_of_mem _ (List.mem_append_left _ (List.mem_append_left _ (List.mem_append_left _ (List.mem_append_left _ (List.mem_append_right _ h9)))))))
  refine lv_iload_n hx hb dX2_appendMany_0 rfl (lv_at hl 2 rfl) ?_
  refine lv_iconst (v := 1) hx hb dX2_appendMany_1 (by decide) ?_
  refine lv_icmp_lt (tgt := 23) hx hb dX2_appendMany_2 (by decide) (fun c_2 => ?_) (fun c_2 => ?_)
  · have hm := it_t hm c_2
    exact zno hm
  · have hm := it_f hm c_2
    refine lv_iload_n hx hb dX2_appendMany_5 rfl (lv_at hl 2 rfl) ?_
    refine lv_sipush (v := 10000) hx hb dX2_appendMany_6 (by decide) ?_
    refine lv_icmp_gt (tgt := 23) hx hb dX2_appendMany_9 (by decide) (fun c_9 => ?_) (fun c_9 => ?_)
    · have hm := it_t hm c_9
      exact zno hm
    · have hm := it_f hm c_9
      refine lv_iload_n hx hb dX2_appendMany_12 rfl (lv_at hl 3 rfl) ?_
      refine lv_iconst (v := 1) hx hb dX2_appendMany_13 (by decide) ?_
      refine lv_icmp_lt (tgt := 23) hx hb dX2_appendMany_14 (by decide) (fun c_14 => ?_) (fun c_14 => ?_)
      · have hm := it_t hm c_14
        exact zno hm
      · have hm := it_f hm c_14
        refine lv_iload_n hx hb dX2_appendMany_17 rfl (lv_at hl 3 rfl) ?_
        refine lv_bipush (v := 100) hx hb dX2_appendMany_18 (by decide) ?_
        refine lv_icmp_le (tgt := 33) hx hb dX2_appendMany_20 (by decide) (fun c_20 => ?_) (fun c_20 => ?_)
        · have hm := it_t hm c_20
          refine lv_iload_n hx hb dX2_appendMany_33 rfl (lv_at hl 1 rfl) ?_
          refine lv_i2l hx hb dX2_appendMany_34 rfl ?_
          refine lv_iload_n hx hb dX2_appendMany_35 rfl (lv_at hl 2 rfl) ?_
          refine lv_i2l hx hb dX2_appendMany_36 rfl ?_
          refine lv_iload_n hx hb dX2_appendMany_37 rfl (lv_at hl 3 rfl) ?_
          refine lv_iconst (v := 1) hx hb dX2_appendMany_38 (by decide) ?_
          refine lv_isub hx hb dX2_appendMany_39 ?_
          refine lv_i2l hx hb dX2_appendMany_40 rfl ?_
          refine lv_lmul hx hb dX2_appendMany_41 ?_
          refine lv_ladd hx hb dX2_appendMany_42 ?_
          refine lv_topl (fun x4 e_x4 => ?_)
          have hm := bnd_e hm e_x4
          refine lv_lstore (lv' := [(4, .long x4), (0, .ref (ad 0)), (1, .int p1), (2, .int p2), (3, .int p3)]) hx hb dX2_appendMany_43 hl (by decide) rfl (fun ls hl => ?_)
          refine lv_iload_n hx hb dX2_appendMany_45 rfl (lv_at hl 2 rfl) ?_
          refine lv_i2l hx hb dX2_appendMany_46 rfl ?_
          obtain ⟨z_47, h_47, hm⟩ := ob hm
          rcases z_47 with e_47 | _
          · exact zno hm
          · have hm := hm
            refine z_callSWv (wc := []) (w1 := []) (ws := (wL cI ad zk zm zb zs zr zu zt zf zg zbd zro zmc zmg zsp zjn)) (ws' := (wL cI ad zk zm zb zs zr zu zt zf zg zbd zro zmc zmg zsp zjn)) (As := [.long (Int32.toInt64 p1)]) (rest := []) ⟨hx, hb, hml, hown, hts⟩ (n_X2_needKey l dC dI F (Int32.toInt64 p1) H.size h_47) (va_cwS 1 hts gX2_appendMany_X2_needKey rfl rfl rfl ks_X2_needKey ⟨Nat.le_of_ble_eq_true rfl, Nat.le_of_ble_eq_true rfl⟩) (hK.sub (tys' := []) [] rfl) hP hD hS hA (z_sp0 (wL cI ad zk zm zb zs zr zu zt zf zg zbd zro zmc zmg zsp zjn)) rfl rfl hl.1 rfl (Nat.le_of_ble_eq_true rfl) dX2_appendMany_47 ⟨Nat.zero_le _, Nat.zero_le _⟩ (fun H locs hP hD hS => ?_)
            refine lv_lload hx hb dX2_appendMany_50 (lv_at hl 0 rfl) ?_
            obtain ⟨z_52, h_52, hm⟩ := ob hm
            rcases z_52 with e_52 | _
            · exact zno hm
            · have hm := hm
              refine z_callSWv (wc := []) (w1 := []) (ws := (wL cI ad zk zm zb zs zr zu zt zf zg zbd zro zmc zmg zsp zjn)) (ws' := (wL cI ad zk zm zb zs zr zu zt zf zg zbd zro zmc zmg zsp zjn)) (As := [.long x4]) (rest := []) ⟨hx, hb, hml, hown, hts⟩ (n_X2_needKey l dC dI F x4 H.size h_52) (va_cwS 1 hts gX2_appendMany_X2_needKey rfl rfl rfl ks_X2_needKey ⟨Nat.le_of_ble_eq_true rfl, Nat.le_of_ble_eq_true rfl⟩) (hK.sub (tys' := []) [] rfl) hP hD hS hA (z_sp0 (wL cI ad zk zm zb zs zr zu zt zf zg zbd zro zmc zmg zsp zjn)) rfl rfl hl.1 rfl (Nat.le_of_ble_eq_true rfl) dX2_appendMany_52 ⟨Nat.zero_le _, Nat.zero_le _⟩ (fun H locs hP hD hS => ?_)
              refine lv_aload_n hx hb dX2_appendMany_55 rfl (lv_at hl 1 rfl) ?_
              refine lv_iload_n hx hb dX2_appendMany_56 rfl (lv_at hl 2 rfl) ?_
              refine lv_iload_n hx hb dX2_appendMany_57 rfl (lv_at hl 4 rfl) ?_
              obtain ⟨z_58, h_58, hm⟩ := ob hm
              rcases z_58 with e_58 | _
              · exact zno hm
              · have hm := hm
                refine z_callWv (wc := (wL cI ad zk zm zb zs zr zu zt zf zg zbd zro zmc zmg zsp zjn)) (w1 := (wL cI ad zk zm zb zs zr zu zt zf zg zbd zro zmc zmg zsp zjn)) (ws := (wL cI ad zk zm zb zs zr zu zt zf zg zbd zro zmc zmg zsp zjn)) (ws' := (wL cI ad zk zm zb zs zr zu zt zf zg zbd zro zmc zmg zsp zjn)) (As := [.int p1, .int p3]) (rest := []) (ci := 2) (q := (RX2, TX2, 15)) ⟨hx, hb, hml, hown, hts⟩ (n_X2_needToFollow l dC dI cI ad zk zm zb zs zr zu zt zf zg zbd zro zmc zmg zsp zjn F p1 p3 H.size h_58) (cwV 2 hts gX2_appendMany_X2_needToFollow rfl rfl rfl kv_X2_needToFollow ⟨Nat.le_of_ble_eq_true rfl, Nat.le_of_ble_eq_true rfl⟩) hK hP hD hS hA (z_spAll (wL cI ad zk zm zb zs zr zu zt zf zg zbd zro zmc zmg zsp zjn) (wL cI ad zk zm zb zs zr zu zt zf zg zbd zro zmc zmg zsp zjn)) ((paL cI ad zk zm zb zs zr zu zt zf zg zbd zro zmc zmg zsp zjn).trans (paL cI ad zk zm zb zs zr zu zt zf zg zbd zro zmc zmg zsp zjn).symm) rfl rfl rfl rfl hl.1 rfl (Nat.le_of_ble_eq_true rfl) dX2_appendMany_58 ⟨Nat.zero_le _, Nat.zero_le _⟩ (fun H locs hP hD hS => ?_)
                refine lv_iconst (v := 0) hx hb dX2_appendMany_61 (by decide) ?_
                refine lv_istore (lv' := [(6, .int 0), (4, .long x4), (0, .ref (ad 0)), (1, .int p1), (2, .int p2), (3, .int p3)]) hx hb dX2_appendMany_62 hl (by decide) rfl (fun ls hl => ?_)
                obtain ⟨z_64, hq_64, hm⟩ := ob hm
                have K_64 : ∀ (zkx64 : zN), ∀ (zmx64 : zN), ∀ (zsx64 : zN), ∀ (zrx64 : zN), ∀ (zux64 : zN), ∀ (ztx64 : zT), z_64 = (zkx64, zmx64, zsx64, zrx64, zux64, ztx64) → ∀ (H : Heap) (locs : List Loc), va_P (dC, dI) vwCl (wL cI ad zkx64 zmx64 zb zsx64 zrx64 zux64 ztx64 zf zg zbd zro zmc zmg zsp zjn) H → va_D A (wL cI ad zkx64 zmx64 zb zsx64 zrx64 zux64 ztx64 zf zg zbd zro zmc zmg zsp zjn) → va_S A s.heap H locs → ∀ (ls : Array Slot), lv_has ls 7 [(0, .ref (ad 0))] → W p l e (headSpec wsX2_appendMany ({ frames := 7, cells := 0, slots := 0, locals := 113 } : Room)).room s m ([.ref (ad 0), .int p1, .int p2, .int p3] : List Value).toArray below meth c H locs 0 0 (MQ below (zQi (dC, dI) (wL cI ad u_zk u_zm zb u_zs u_zr u_zu u_zt zf zg zbd zro zmc zmg zsp zjn) [(cI, .int)] A r) ([.ref (ad 0), .int p1, .int p2, .int p3] : List Value).toArray s 0 0 A) (F0 m 86 ls []) := by
                  intro zkx64 zmx64 zsx64 zrx64 zux64 ztx64 ez H locs hP hD hS ls hl
                  rw [ez] at hm
                  refine lv_aload_n hx hb dX2_appendMany_86 rfl (lv_at hl 0 rfl) ?_
                  refine va_get (D := (dC, dI)) (ci := 2) (v := .ref (ad 7)) (C := RX2) (T := TX2) (N := 15) hx hb hts ziX2 hown hK hP 0 rfl rfl 3 (by decide) zw0 (fun _ h9 => h9) rfl dX2_appendMany_87 ?_
                  obtain ⟨r90, h_90, hm⟩ := ob hm
                  refine z_callRi (As := []) (rest := []) (ci := 0) (q := (RX0, TX0, 2)) ⟨hx, hb, hml, hown, hts⟩ (c_X0_length l dC dI cI (ad 7) (ad 8) 256 zsx64 F r90 h_90) (cwV 0 hts gX2_appendMany_X0_length rfl rfl rfl kv_X0_length ⟨Nat.le_of_ble_eq_true rfl, Nat.le_of_ble_eq_true rfl⟩) hK (z_mid (pjL_zs cI ad zkx64 zmx64 zb zsx64 zrx64 zux64 ztx64 zf zg zbd zro zmc zmg zsp zjn zsx64) hP) rfl rfl rfl rfl hl.1 rfl (Nat.le_of_ble_eq_true rfl) dX2_appendMany_90 ⟨Nat.zero_le _, Nat.zero_le _⟩ ?_
                  cases o2 hm
                  exact W.iret hx hb hr (fun t ht hW => ⟨⟨_, (), rfl, rfl, by rw [ht]; exact hP, va_K.moved hW.alike hK, hD⟩, hS.F ht⟩) hS.2.2 dX2_appendMany_93
                have L_64 : ∀ (n : Nat) (x6 : Int32) (zkl64 : zN) (zml64 : zN) (zsl64 : zN) (zrl64 : zN) (zul64 : zN) (ztl64 : zT), X2_appendMany_L64 p1 p2 p3 zbd F n x6 zkl64 zml64 zsl64 zrl64 zul64 ztl64 = some z_64 → ∀ (H : Heap) (locs : List Loc), va_P (dC, dI) vwCl (wL cI ad zkl64 zml64 zb zsl64 zrl64 zul64 ztl64 zf zg zbd zro zmc zmg zsp zjn) H → va_D A (wL cI ad zkl64 zml64 zb zsl64 zrl64 zul64 ztl64 zf zg zbd zro zmc zmg zsp zjn) → va_S A s.heap H locs → ∀ (ls : Array Slot), lv_has ls 7 [(6, .int x6), (0, .ref (ad 0)), (1, .int p1), (2, .int p2), (3, .int p3)] → W p l e (headSpec wsX2_appendMany ({ frames := 7, cells := 0, slots := 0, locals := 113 } : Room)).room s m ([.ref (ad 0), .int p1, .int p2, .int p3] : List Value).toArray below meth c H locs 0 0 (MQ below (zQi (dC, dI) (wL cI ad u_zk u_zm zb u_zs u_zr u_zu u_zt zf zg zbd zro zmc zmg zsp zjn) [(cI, .int)] A r) ([.ref (ad 0), .int p1, .int p2, .int p3] : List Value).toArray s 0 0 A) (F0 m 64 ls []) := by
                  intro n
                  induction n with
                  | zero => intro x6 zkl64 zml64 zsl64 zrl64 zul64 ztl64 hm; cases hm
                  | succ n ih_64 =>
                    intro x6 zkl64 zml64 zsl64 zrl64 zul64 ztl64 hm H locs hP hD hS ls hl
                    refine lv_iload hx hb dX2_appendMany_64 (lv_at hl 0 rfl) ?_
                    refine lv_iload_n hx hb dX2_appendMany_66 rfl (lv_at hl 4 rfl) ?_
                    refine lv_icmp_ge (tgt := 86) hx hb dX2_appendMany_67 (by decide) (fun c_67 => ?_) (fun c_67 => ?_)
                    · have hm := it_t hm c_67
                      exact K_64 zkl64 zml64 zsl64 zrl64 zul64 ztl64 (o2 hm) _ _ hP hD hS _ (lv_sub hl [1] rfl)
                    · have hm := it_f hm c_67
                      refine lv_aload_n hx hb dX2_appendMany_70 rfl (lv_at hl 1 rfl) ?_
                      refine lv_iload_n hx hb dX2_appendMany_71 rfl (lv_at hl 2 rfl) ?_
                      refine lv_iload_n hx hb dX2_appendMany_72 rfl (lv_at hl 3 rfl) ?_
                      refine lv_iload hx hb dX2_appendMany_73 (lv_at hl 0 rfl) ?_
                      refine lv_imul hx hb dX2_appendMany_75 ?_
                      refine lv_iadd hx hb dX2_appendMany_76 ?_
                      obtain ⟨⟨zk77, zm77, zs77, zr77, zu77, zt77⟩, h_77, hm⟩ := ob hm
                      refine z_callWv (wc := (wL cI ad zkl64 zml64 zb zsl64 zrl64 zul64 ztl64 zf zg zbd zro zmc zmg zsp zjn)) (w1 := (wL cI ad zk77 zm77 zb zs77 zr77 zu77 zt77 zf zg zbd zro zmc zmg zsp zjn)) (ws := (wL cI ad zkl64 zml64 zb zsl64 zrl64 zul64 ztl64 zf zg zbd zro zmc zmg zsp zjn)) (ws' := (wL cI ad zk77 zm77 zb zs77 zr77 zu77 zt77 zf zg zbd zro zmc zmg zsp zjn)) (As := [.int (p1 + (p2 * x6))]) (rest := []) (ci := 2) (q := (RX2, TX2, 15)) ⟨hx, hb, hml, hown, hts⟩ (c_X2_addLast l dC dI cI ad zkl64 zml64 zb zsl64 zrl64 zul64 ztl64 zf zg zbd zro zmc zmg zsp zjn F (p1 + (p2 * x6)) H.size zk77 zm77 zs77 zr77 zu77 zt77 h_77) (cwV 1 hts gX2_appendMany_X2_addLast rfl rfl rfl kv_X2_addLast ⟨Nat.le_of_ble_eq_true rfl, Nat.le_of_ble_eq_true rfl⟩) hK hP hD hS hA (z_spAll (wL cI ad zkl64 zml64 zb zsl64 zrl64 zul64 ztl64 zf zg zbd zro zmc zmg zsp zjn) (wL cI ad zk77 zm77 zb zs77 zr77 zu77 zt77 zf zg zbd zro zmc zmg zsp zjn)) ((paL cI ad zk77 zm77 zb zs77 zr77 zu77 zt77 zf zg zbd zro zmc zmg zsp zjn).trans (paL cI ad zkl64 zml64 zb zsl64 zrl64 zul64 ztl64 zf zg zbd zro zmc zmg zsp zjn).symm) rfl rfl rfl rfl hl.1 rfl (Nat.le_of_ble_eq_true rfl) dX2_appendMany_77 ⟨Nat.zero_le _, Nat.zero_le _⟩ (fun H locs hP hD hS => ?_)
                      obtain ⟨x6_1, e_x6_1⟩ : ∃ y : Int32, y = x6 + 1 := ⟨_, rfl⟩
                      have hm := bnd_e hm e_x6_1
                      refine lv_iinc (v := x6_1) (lv' := [(6, .int x6_1), (0, .ref (ad 0)), (1, .int p1), (2, .int p2), (3, .int p3)]) hx hb dX2_appendMany_80 hl (k := 0) rfl (by rw [e_x6_1]; rfl) (by decide) rfl (fun ls hl => ?_)
                      refine lv_goto (tgt := 64) hx hb dX2_appendMany_83 (by decide) ?_
                      exact ih_64 x6_1 zk77 zm77 zs77 zr77 zu77 zt77 hm _ _ hP hD hS _ (lv_sub hl [0, 1, 2, 3, 4] rfl)
                exact L_64 F 0 zk zm zs zr zu zt hq_64 _ _ hP hD hS _ (lv_sub hl [0, 2, 3, 4, 5] rfl)
        · have hm := it_f hm c_20
          exact zno hm
set_option maxHeartbeats 4000000 in
set_option maxRecDepth 100000 in
theorem c_X2_isThere (l : Launch) (dC : Nat → ClassId) (dI : Nat → Nat → Nat) (cI : ClassId) (ad : Nat → Nat) (zk : zN) (zm : zN) (zb : zN) (zs : zN) (zr : zN) (zu : zN) (zt : zT) (zf : zN) (zg : zN) (zbd : Int32) (zro : Int32) (zmc : Int32) (zmg : Int32) (zsp : Int32) (zjn : Int32) (F : Nat) (p1 : Int32) (r : Int32) (hm : X2_isThere F zk zm zb p1 = some r) : Met l yX2_isThere wsX2_isThere ({ frames := 4, cells := 0, slots := 0, locals := 89 }) (va_Pc [.ref (ad 0), .int p1] (zR (dC, dI) (wL cI ad zk zm zb zs zr zu zt zf zg zbd zro zmc zmg zsp zjn) [(cI, .int)])) (vp_Si (fun v => v = r)) 0 0 (fun _ => False) := by
  refine Met.ofW (cc := cX2_isThere) (maxL := 3) (ret := (some .boolean)) (by decide) rfl ?_
  intro p e s m args below meth c s₁ B hml hv
  obtain ⟨rfl, hP, hK⟩ := hv
  have hx := B.exec
  have hb := B.bytes
  have hr := B.returns
  have hts := atoms_spec (ws := wsX2_isThere) B.pre
  have hown : s.vm.findClass RX2 = some m.cls := findClass_of_methodNamed B.named
  have hlocks := B.notSynchronized
  have hl := lv_entry ([.ref (ad 0), .int p1]) (n := 3) (Nat.le_of_ble_eq_true rfl)
  rw [lg_entry_eq]
  generalize (lg_sl ([.ref (ad 0), .int p1]) ++ List.replicate (3 - (lg_sl ([.ref (ad 0), .int p1])).length) Slot.unset).toArray = ls at hl ⊢
  have hl : lv_has ls 3 [(0, .ref (ad 0)), (1, .int p1)] := hl
  have zw0 := hts (.fieldLink RX2 14 "LearnedLedge" "keys" "LLearnedLedge$Numbers;") (List.mem_cons_of_mem _ (List.mem_append_left _ (List.mem_append_left _ (List.mem_of_getElem? (i := 0) rfl))))
  have zw1 := hts (.fieldLink RX2 18 "LearnedLedge" "marks" "LLearnedLedge$Numbers;") (List.mem_cons_of_mem _ (List.mem_append_left _ (List.mem_append_left _ (List.mem_of_getElem? (i := 2) rfl))))
  have zw2 := hts (.fieldLink RX2 21 "LearnedLedge" "buffer" "LLearnedLedge$Numbers;") (List.mem_cons_of_mem _ (List.mem_append_left _ (List.mem_append_left _ (List.mem_of_getElem? (i := 1) rfl))))
  have ziX2 : ∀ w ∈ u_ws RX2 TX2 15, w ∈ wsX2_isThere := (fun _ h9 => (List.mem_cons_of_mem _ (List.mem_append_left _ (List.mem_append_right _ h9))))
  refine lv_aload_n hx hb dX2_isThere_0 rfl (lv_at hl 0 rfl) ?_
  refine va_get (D := (dC, dI)) (ci := 2) (v := .ref (ad 1)) (C := RX2) (T := TX2) (N := 15) hx hb hts ziX2 hown hK hP 0 rfl rfl 0 (by decide) zw0 (fun _ h9 => h9) rfl dX2_isThere_1 ?_
  refine lv_iload_n hx hb dX2_isThere_4 rfl (lv_at hl 1 rfl) ?_
  obtain ⟨r5, h_5, hm⟩ := ob hm
  refine z_callRi (As := [.int p1]) (rest := []) (ci := 0) (q := (RX0, TX0, 2)) ⟨hx, hb, hml, hown, hts⟩ (c_X0_indexOf l dC dI cI (ad 1) (ad 2) 256 zk F p1 r5 h_5) (cwV 1 hts gX2_isThere_X0_indexOf rfl rfl rfl kv_X0_indexOf ⟨Nat.le_of_ble_eq_true rfl, Nat.le_of_ble_eq_true rfl⟩) hK (z_mid (pjL_zk cI ad zk zm zb zs zr zu zt zf zg zbd zro zmc zmg zsp zjn zk) hP) rfl rfl rfl rfl hl.1 rfl (Nat.le_of_ble_eq_true rfl) dX2_isThere_5 ⟨Nat.zero_le _, Nat.zero_le _⟩ ?_
  refine lv_istore_n (lv' := [(2, .int r5), (0, .ref (ad 0)), (1, .int p1)]) hx hb dX2_isThere_8 rfl hl (by decide) rfl (fun ls hl => ?_)
  refine lv_iload_n hx hb dX2_isThere_9 rfl (lv_at hl 0 rfl) ?_
  refine lv_iconst (v := (-1)) hx hb dX2_isThere_10 (by decide) ?_
  refine lv_icmp_ne (tgt := 34) hx hb dX2_isThere_11 (by decide) (fun c_11 => ?_) (fun c_11 => ?_)
  · have hm := it_f hm c_11
    refine lv_aload_n hx hb dX2_isThere_34 rfl (lv_at hl 1 rfl) ?_
    refine va_get (D := (dC, dI)) (ci := 2) (v := .ref (ad 3)) (C := RX2) (T := TX2) (N := 15) hx hb hts ziX2 hown hK hP 0 rfl rfl 1 (by decide) zw1 (fun _ h9 => h9) rfl dX2_isThere_35 ?_
    refine lv_iload_n hx hb dX2_isThere_38 rfl (lv_at hl 0 rfl) ?_
    obtain ⟨r39, h_39, hm⟩ := ob hm
    refine z_callRi (As := [.int r5]) (rest := []) (ci := 0) (q := (RX0, TX0, 2)) ⟨hx, hb, hml, hown, hts⟩ (c_X0_at l dC dI cI (ad 3) (ad 4) 256 zm F r5 r39 h_39) (cwV 1 hts gX2_isThere_X0_at rfl rfl rfl kv_X0_at ⟨Nat.le_of_ble_eq_true rfl, Nat.le_of_ble_eq_true rfl⟩) hK (z_mid (pjL_zm cI ad zk zm zb zs zr zu zt zf zg zbd zro zmc zmg zsp zjn zm) hP) rfl rfl rfl rfl hl.1 rfl (Nat.le_of_ble_eq_true rfl) dX2_isThere_39 ⟨Nat.zero_le _, Nat.zero_le _⟩ ?_
    refine lv_if_ne (tgt := 49) hx hb dX2_isThere_42 (by decide) (fun c_42 => ?_) (fun c_42 => ?_)
    · have hm := it_f hm c_42
      refine lv_iconst (v := 0) hx hb dX2_isThere_49 (by decide) ?_
      exact W.zret hx hb hr rfl (fun t ht hW => ⟨_, rfl, (o2 hm).symm, ht⟩) (fun q h => absurd h List.not_mem_nil) dX2_isThere_50
    · have hm := it_t hm c_42
      refine lv_iconst (v := 1) hx hb dX2_isThere_45 (by decide) ?_
      refine lv_goto (tgt := 50) hx hb dX2_isThere_46 (by decide) ?_
      exact W.zret hx hb hr rfl (fun t ht hW => ⟨_, rfl, (o2 hm).symm, ht⟩) (fun q h => absurd h List.not_mem_nil) dX2_isThere_50
  · have hm := it_t hm c_11
    refine lv_aload_n hx hb dX2_isThere_14 rfl (lv_at hl 1 rfl) ?_
    refine va_get (D := (dC, dI)) (ci := 2) (v := .ref (ad 5)) (C := RX2) (T := TX2) (N := 15) hx hb hts ziX2 hown hK hP 0 rfl rfl 2 (by decide) zw2 (fun _ h9 => h9) rfl dX2_isThere_15 ?_
    refine lv_iload_n hx hb dX2_isThere_18 rfl (lv_at hl 2 rfl) ?_
    obtain ⟨r19, h_19, hm⟩ := ob hm
    refine z_callRi (As := [.int p1]) (rest := []) (ci := 0) (q := (RX0, TX0, 2)) ⟨hx, hb, hml, hown, hts⟩ (c_X0_indexOf l dC dI cI (ad 5) (ad 6) 16 zb F p1 r19 h_19) (cwV 1 hts gX2_isThere_X0_indexOf rfl rfl rfl kv_X0_indexOf ⟨Nat.le_of_ble_eq_true rfl, Nat.le_of_ble_eq_true rfl⟩) hK (z_mid (pjL_zb cI ad zk zm zb zs zr zu zt zf zg zbd zro zmc zmg zsp zjn zb) hP) rfl rfl rfl rfl hl.1 rfl (Nat.le_of_ble_eq_true rfl) dX2_isThere_19 ⟨Nat.zero_le _, Nat.zero_le _⟩ ?_
    refine lv_iconst (v := (-1)) hx hb dX2_isThere_22 (by decide) ?_
    refine lv_icmp_eq (tgt := 30) hx hb dX2_isThere_23 (by decide) (fun c_23 => ?_) (fun c_23 => ?_)
    · have hm := it_t hm c_23
      refine lv_iconst (v := 0) hx hb dX2_isThere_30 (by decide) ?_
      refine lv_goto (tgt := 50) hx hb dX2_isThere_31 (by decide) ?_
      exact W.zret hx hb hr rfl (fun t ht hW => ⟨_, rfl, (o2 hm).symm, ht⟩) (fun q h => absurd h List.not_mem_nil) dX2_isThere_50
    · have hm := it_f hm c_23
      refine lv_iconst (v := 1) hx hb dX2_isThere_26 (by decide) ?_
      refine lv_goto (tgt := 50) hx hb dX2_isThere_27 (by decide) ?_
      exact W.zret hx hb hr rfl (fun t ht hW => ⟨_, rfl, (o2 hm).symm, ht⟩) (fun q h => absurd h List.not_mem_nil) dX2_isThere_50
