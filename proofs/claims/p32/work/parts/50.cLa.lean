set_option maxHeartbeats 4000000 in
set_option maxRecDepth 100000 in
theorem c_L_low (l : Launch) (dC : Nat → ClassId) (dI : Nat → Nat → Nat) (F : Nat) (p1 : Int32) (p2 : Int32) (r : Int32) (hm : L_low F p1 p2 = some r) : Met l yL_low wsL_low ({ frames := 0, cells := 0, slots := 0, locals := 0 }) (va_Pc [.int p1, .int p2] (zR (dC, dI) [] [])) (vp_Si (fun v => v = r)) 0 0 (fun _ => False) := by
  refine Met.ofW (cc := cL_low) (maxL := 2) (ret := (some .int)) (by decide) rfl ?_
  intro p e s m args below meth c s₁ B hml hv
  obtain ⟨rfl, hP, hK⟩ := hv
  have hx := B.exec
  have hb := B.bytes
  have hr := B.returns
  have hts := atoms_spec (ws := wsL_low) B.pre
  have hown : s.vm.findClass RL = some m.cls := findClass_of_methodNamed B.named
  have hlocks := B.notSynchronized
  have hl := lv_entry ([.int p1, .int p2]) (n := 2) (Nat.le_of_ble_eq_true rfl)
  rw [lg_entry_eq]
  generalize (lg_sl ([.int p1, .int p2]) ++ List.replicate (2 - (lg_sl ([.int p1, .int p2])).length) Slot.unset).toArray = ls at hl ⊢
  have hl : lv_has ls 2 [(0, .int p1), (1, .int p2)] := hl
  have zw0 := hts (.constant RL 9 (2147483647)) (List.mem_cons_of_mem _ (List.mem_of_getElem? (i := 0) rfl))
  refine lv_iload_n hx hb dL_low_0 rfl (lv_at hl 0 rfl) ?_
  refine lv_ldc hx hb hown zw0 dL_low_1 ?_
  refine lv_iand hx hb dL_low_3 ?_
  refine lv_iload_n hx hb dL_low_4 rfl (lv_at hl 1 rfl) ?_
  obtain ⟨c_5, hm⟩ := ck hm
  refine lv_irem hx hb dL_low_5 c_5 ?_
  exact W.iret hx hb hr (fun t ht hW => ⟨_, rfl, (o2 hm).symm, ht⟩) (fun q h => absurd h List.not_mem_nil) dL_low_6
set_option maxHeartbeats 4000000 in
set_option maxRecDepth 100000 in
theorem c_L_fits (l : Launch) (dC : Nat → ClassId) (dI : Nat → Nat → Nat) (cI : ClassId) (a : Nat) (N : Nat) (v : Nat → Int32) (F : Nat) (p2 : Int32) (p3 : Int32) (p4 : Int32) (r : Int32) (hm : L_fits F N v p2 p3 p4 = some r) : Met l yL_fits wsL_fits ({ frames := 0, cells := 0, slots := 0, locals := 0 }) (va_Pc [.ref a, .int p2, .int p3, .int p4] (zR (dC, dI) (w1 cI a N v) [(cI, .int)])) (vp_Si (fun v => v = r)) 0 0 (fun _ => False) := by
  refine Met.ofW (cc := cL_fits) (maxL := 6) (ret := (some .boolean)) (by decide) rfl ?_
  intro p e s m args below meth c s₁ B hml hv
  obtain ⟨rfl, hP, hK⟩ := hv
  have hx := B.exec
  have hb := B.bytes
  have hr := B.returns
  have hts := atoms_spec (ws := wsL_fits) B.pre
  have hown : s.vm.findClass RL = some m.cls := findClass_of_methodNamed B.named
  have hlocks := B.notSynchronized
  have hl := lv_entry ([.ref a, .int p2, .int p3, .int p4]) (n := 6) (Nat.le_of_ble_eq_true rfl)
  rw [lg_entry_eq]
  generalize (lg_sl ([.ref a, .int p2, .int p3, .int p4]) ++ List.replicate (6 - (lg_sl ([.ref a, .int p2, .int p3, .int p4])).length) Slot.unset).toArray = ls at hl ⊢
  have hl : lv_has ls 6 [(0, .ref a), (1, .int p2), (2, .int p3), (3, .int p4)] := hl
  refine lv_iload_n hx hb dL_fits_0 rfl (lv_at hl 1 rfl) ?_
  refine lv_iconst (v := 1) hx hb dL_fits_1 (by decide) ?_
  refine lv_iadd hx hb dL_fits_2 ?_
  refine lv_topi (fun x4 e_x4 => ?_)
  have hm := bnd_e hm e_x4
  refine lv_istore (lv' := [(4, .int x4), (0, .ref a), (1, .int p2), (2, .int p3), (3, .int p4)]) hx hb dL_fits_3 hl (by decide) rfl (fun ls hl => ?_)
  obtain ⟨z_5, hq_5, hm⟩ := ob hm
  have hmo_5 := hm
  have K_5 : z_5 = Sum.inr () → ∀ (ls : Array Slot), lv_has ls 6 [] → W p l e (headSpec wsL_fits ({ frames := 0, cells := 0, slots := 0, locals := 0 } : Room)).room s m ([.ref a, .int p2, .int p3, .int p4] : List Value).toArray below meth c s.heap [] 0 0 (MQ below (vp_Si (fun v => v = r)) ([.ref a, .int p2, .int p3, .int p4] : List Value).toArray s 0 0 (fun _ => False)) (F0 m 74 ls []) := by
    intro ez ls hl
    rw [ez] at hm
    refine lv_iconst (v := 1) hx hb dL_fits_74 (by decide) ?_
    exact W.zret hx hb hr rfl (fun t ht hW => ⟨_, rfl, (o2 hm).symm, ht⟩) (fun q h => absurd h List.not_mem_nil) dL_fits_75
  have L_5 : ∀ (n : Nat) (x4_1 : Int32), L_fits_L5 p2 p3 p4 v N F n x4_1 = some z_5 → ∀ (ls : Array Slot), lv_has ls 6 [(4, .int x4_1), (0, .ref a), (1, .int p2), (2, .int p3), (3, .int p4)] → W p l e (headSpec wsL_fits ({ frames := 0, cells := 0, slots := 0, locals := 0 } : Room)).room s m ([.ref a, .int p2, .int p3, .int p4] : List Value).toArray below meth c s.heap [] 0 0 (MQ below (vp_Si (fun v => v = r)) ([.ref a, .int p2, .int p3, .int p4] : List Value).toArray s 0 0 (fun _ => False)) (F0 m 5 ls []) := by
    intro n
    induction n with
    | zero => intro x4_1 hm; cases hm
    | succ n ih_5 =>
      intro x4_1 hm ls hl
      refine lv_iload hx hb dL_fits_5 (lv_at hl 0 rfl) ?_
      refine lv_iload_n hx hb dL_fits_7 rfl (lv_at hl 3 rfl) ?_
      refine lv_icmp_ge (tgt := 74) hx hb dL_fits_8 (by decide) (fun c_8 => ?_) (fun c_8 => ?_)
      · have hm := it_t hm c_8
        exact K_5 (o2 hm) _ (lv_sub hl [] rfl)
      · have hm := it_f hm c_8
        refine lv_iload_n hx hb dL_fits_11 rfl (lv_at hl 2 rfl) ?_
        refine lv_iconst (v := 1) hx hb dL_fits_12 (by decide) ?_
        refine lv_iadd hx hb dL_fits_13 ?_
        refine lv_topi (fun x5 e_x5 => ?_)
        have hm := bnd_e hm e_x5
        refine lv_istore (lv' := [(5, .int x5), (4, .int x4_1), (0, .ref a), (1, .int p2), (2, .int p3), (3, .int p4)]) hx hb dL_fits_14 hl (by decide) rfl (fun ls hl => ?_)
        obtain ⟨z_16, hq_16, hm⟩ := ob hm
        have hmo_16 := hm
        have K_16 : z_16 = Sum.inr () → ∀ (ls : Array Slot), lv_has ls 6 [(4, .int x4_1), (0, .ref a), (1, .int p2), (2, .int p3), (3, .int p4)] → W p l e (headSpec wsL_fits ({ frames := 0, cells := 0, slots := 0, locals := 0 } : Room)).room s m ([.ref a, .int p2, .int p3, .int p4] : List Value).toArray below meth c s.heap [] 0 0 (MQ below (vp_Si (fun v => v = r)) ([.ref a, .int p2, .int p3, .int p4] : List Value).toArray s 0 0 (fun _ => False)) (F0 m 68 ls []) := by
          intro ez ls hl
          rw [ez] at hm
          obtain ⟨x4_2, e_x4_2⟩ : ∃ y : Int32, y = x4_1 + 1 := ⟨_, rfl⟩
          have hm := bnd_e hm e_x4_2
          refine lv_iinc (v := x4_2) (lv' := [(4, .int x4_2), (0, .ref a), (1, .int p2), (2, .int p3), (3, .int p4)]) hx hb dL_fits_68 hl (k := 0) rfl (by rw [e_x4_2]; rfl) (by decide) rfl (fun ls hl => ?_)
          refine lv_goto (tgt := 5) hx hb dL_fits_71 (by decide) ?_
          exact ih_5 x4_2 hm _ (lv_sub hl [0, 1, 2, 3, 4] rfl)
        have L_16 : ∀ (n : Nat) (x5_1 : Int32), L_fits_L16 p2 p3 p4 v N x4_1 n x5_1 = some z_16 → ∀ (ls : Array Slot), lv_has ls 6 [(5, .int x5_1), (4, .int x4_1), (0, .ref a), (1, .int p2), (2, .int p3), (3, .int p4)] → W p l e (headSpec wsL_fits ({ frames := 0, cells := 0, slots := 0, locals := 0 } : Room)).room s m ([.ref a, .int p2, .int p3, .int p4] : List Value).toArray below meth c s.heap [] 0 0 (MQ below (vp_Si (fun v => v = r)) ([.ref a, .int p2, .int p3, .int p4] : List Value).toArray s 0 0 (fun _ => False)) (F0 m 16 ls []) := by
          intro n
          induction n with
          | zero => intro x5_1 hm; cases hm
          | succ n ih_16 =>
            intro x5_1 hm ls hl
            refine lv_iload hx hb dL_fits_16 (lv_at hl 0 rfl) ?_
            refine lv_iload_n hx hb dL_fits_18 rfl (lv_at hl 4 rfl) ?_
            refine lv_icmp_ge (tgt := 68) hx hb dL_fits_19 (by decide) (fun c_19 => ?_) (fun c_19 => ?_)
            · have hm := it_t hm c_19
              exact K_16 (o2 hm) _ (lv_sub hl [1, 2, 3, 4, 5] rfl)
            · have hm := it_f hm c_19
              refine lv_iload hx hb dL_fits_22 (lv_at hl 1 rfl) ?_
              refine lv_iload_n hx hb dL_fits_24 rfl (lv_at hl 3 rfl) ?_
              refine lv_isub hx hb dL_fits_25 ?_
              refine lv_iload_n hx hb dL_fits_26 rfl (lv_at hl 5 rfl) ?_
              refine lv_isub hx hb dL_fits_27 ?_
              refine lv_i2l hx hb dL_fits_28 rfl ?_
              refine lv_aload_n hx hb dL_fits_29 rfl (lv_at hl 2 rfl) ?_
              refine lv_iload hx hb dL_fits_30 (lv_at hl 0 rfl) ?_
              obtain ⟨c_32, hm⟩ := ck hm
              refine va_iald hx hb hK hP 0 0 rfl rfl c_32 dL_fits_32 ?_
              refine lv_aload_n hx hb dL_fits_33 rfl (lv_at hl 2 rfl) ?_
              refine lv_iload_n hx hb dL_fits_34 rfl (lv_at hl 3 rfl) ?_
              obtain ⟨c_35, hm⟩ := ck hm
              refine va_iald hx hb hK hP 0 0 rfl rfl c_35 dL_fits_35 ?_
              refine lv_isub hx hb dL_fits_36 ?_
              refine lv_i2l hx hb dL_fits_37 rfl ?_
              refine lv_lmul hx hb dL_fits_38 ?_
              refine lv_iload hx hb dL_fits_39 (lv_at hl 0 rfl) ?_
              refine lv_iload_n hx hb dL_fits_41 rfl (lv_at hl 3 rfl) ?_
              refine lv_isub hx hb dL_fits_42 ?_
              refine lv_iload_n hx hb dL_fits_43 rfl (lv_at hl 5 rfl) ?_
              refine lv_iadd hx hb dL_fits_44 ?_
              refine lv_i2l hx hb dL_fits_45 rfl ?_
              refine lv_aload_n hx hb dL_fits_46 rfl (lv_at hl 2 rfl) ?_
              refine lv_iload hx hb dL_fits_47 (lv_at hl 1 rfl) ?_
              obtain ⟨c_49, hm⟩ := ck hm
              refine va_iald hx hb hK hP 0 0 rfl rfl c_49 dL_fits_49 ?_
              refine lv_aload_n hx hb dL_fits_50 rfl (lv_at hl 2 rfl) ?_
              refine lv_iload_n hx hb dL_fits_51 rfl (lv_at hl 3 rfl) ?_
              obtain ⟨c_52, hm⟩ := ck hm
              refine va_iald hx hb hK hP 0 0 rfl rfl c_52 dL_fits_52 ?_
              refine lv_isub hx hb dL_fits_53 ?_
              refine lv_i2l hx hb dL_fits_54 rfl ?_
              refine lv_lmul hx hb dL_fits_55 ?_
              refine W.lcmp hx hb dL_fits_56 ?_
              refine lv_if_le (tgt := 62) hx hb dL_fits_57 (by decide) (fun c_57 => ?_) (fun c_57 => ?_)
              · have c_57 : ((Int32.toInt64 ((x4_1 - p2) - p4)) * (Int32.toInt64 ((v (Int32.toNatClampNeg x5_1)) - (v (Int32.toNatClampNeg p2))))) ≤ ((Int32.toInt64 ((x5_1 - p2) + p4)) * (Int32.toInt64 ((v (Int32.toNatClampNeg x4_1)) - (v (Int32.toNatClampNeg p2))))) := (lg_cmp_le _ _).mp c_57
                have hm := it_t hm c_57
                obtain ⟨x5_2, e_x5_2⟩ : ∃ y : Int32, y = x5_1 + 1 := ⟨_, rfl⟩
                have hm := bnd_e hm e_x5_2
                refine lv_iinc (v := x5_2) (lv' := [(5, .int x5_2), (4, .int x4_1), (0, .ref a), (1, .int p2), (2, .int p3), (3, .int p4)]) hx hb dL_fits_62 hl (k := 0) rfl (by rw [e_x5_2]; rfl) (by decide) rfl (fun ls hl => ?_)
                refine lv_goto (tgt := 16) hx hb dL_fits_65 (by decide) ?_
                exact ih_16 x5_2 hm _ (lv_sub hl [0, 1, 2, 3, 4, 5] rfl)
              · have c_57 : ¬ (((Int32.toInt64 ((x4_1 - p2) - p4)) * (Int32.toInt64 ((v (Int32.toNatClampNeg x5_1)) - (v (Int32.toNatClampNeg p2))))) ≤ ((Int32.toInt64 ((x5_1 - p2) + p4)) * (Int32.toInt64 ((v (Int32.toNatClampNeg x4_1)) - (v (Int32.toNatClampNeg p2)))))) := fun h => c_57 ((lg_cmp_le _ _).mpr h)
                have hm := it_f hm c_57
                refine lv_iconst (v := 0) hx hb dL_fits_60 (by decide) ?_
                have e_16 := o2 hm
                have hm := hmo_16
                rw [e_16] at hm
                have e_5 := o2 hm
                have hm := hmo_5
                rw [e_5] at hm
                exact W.zret hx hb hr rfl (fun t ht hW => ⟨_, rfl, (o2 hm).symm, ht⟩) (fun q h => absurd h List.not_mem_nil) dL_fits_61
        exact L_16 F x5 hq_16 _ (lv_sub hl [0, 1, 2, 3, 4, 5] rfl)
  exact L_5 F x4 hq_5 _ (lv_sub hl [0, 1, 2, 3, 4] rfl)
set_option maxHeartbeats 4000000 in
set_option maxRecDepth 100000 in
theorem c_L_steepest (l : Launch) (dC : Nat → ClassId) (dI : Nat → Nat → Nat) (cI : ClassId) (a : Nat) (N : Nat) (v : Nat → Int32) (F : Nat) (p2 : Int32) (p3 : Int32) (p4 : Int32) (r : Int32) (hm : L_steepest F N v p2 p3 p4 = some r) : Met l yL_steepest wsL_steepest ({ frames := 0, cells := 0, slots := 0, locals := 0 }) (va_Pc [.ref a, .int p2, .int p3, .int p4] (zR (dC, dI) (w1 cI a N v) [(cI, .int)])) (vp_Si (fun v => v = r)) 0 0 (fun _ => False) := by
  refine Met.ofW (cc := cL_steepest) (maxL := 8) (ret := (some .int)) (by decide) rfl ?_
  intro p e s m args below meth c s₁ B hml hv
  obtain ⟨rfl, hP, hK⟩ := hv
  have hx := B.exec
  have hb := B.bytes
  have hr := B.returns
  have hts := atoms_spec (ws := wsL_steepest) B.pre
  have hown : s.vm.findClass RL = some m.cls := findClass_of_methodNamed B.named
  have hlocks := B.notSynchronized
  have hl := lv_entry ([.ref a, .int p2, .int p3, .int p4]) (n := 8) (Nat.le_of_ble_eq_true rfl)
  rw [lg_entry_eq]
  generalize (lg_sl ([.ref a, .int p2, .int p3, .int p4]) ++ List.replicate (8 - (lg_sl ([.ref a, .int p2, .int p3, .int p4])).length) Slot.unset).toArray = ls at hl ⊢
  have hl : lv_has ls 8 [(0, .ref a), (1, .int p2), (2, .int p3), (3, .int p4)] := hl
  refine lv_iload_n hx hb dL_steepest_0 rfl (lv_at hl 1 rfl) ?_
  refine lv_istore (lv' := [(4, .int p2), (0, .ref a), (1, .int p2), (2, .int p3), (3, .int p4)]) hx hb dL_steepest_1 hl (by decide) rfl (fun ls hl => ?_)
  refine lv_iload_n hx hb dL_steepest_3 rfl (lv_at hl 2 rfl) ?_
  refine lv_iconst (v := 1) hx hb dL_steepest_4 (by decide) ?_
  refine lv_iadd hx hb dL_steepest_5 ?_
  refine lv_topi (fun x5 e_x5 => ?_)
  have hm := bnd_e hm e_x5
  refine lv_istore (lv' := [(5, .int x5), (4, .int p2), (0, .ref a), (1, .int p2), (2, .int p3), (3, .int p4)]) hx hb dL_steepest_6 hl (by decide) rfl (fun ls hl => ?_)
  obtain ⟨z_8, hq_8, hm⟩ := ob hm
  have K_8 : ∀ (x4_1 : Int32), z_8 = x4_1 → ∀ (ls : Array Slot), lv_has ls 8 [(4, .int x4_1)] → W p l e (headSpec wsL_steepest ({ frames := 0, cells := 0, slots := 0, locals := 0 } : Room)).room s m ([.ref a, .int p2, .int p3, .int p4] : List Value).toArray below meth c s.heap [] 0 0 (MQ below (vp_Si (fun v => v = r)) ([.ref a, .int p2, .int p3, .int p4] : List Value).toArray s 0 0 (fun _ => False)) (F0 m 82 ls []) := by
    intro x4_1 ez ls hl
    rw [ez] at hm
    refine lv_iload hx hb dL_steepest_82 (lv_at hl 0 rfl) ?_
    exact W.iret hx hb hr (fun t ht hW => ⟨_, rfl, (o2 hm).symm, ht⟩) (fun q h => absurd h List.not_mem_nil) dL_steepest_84
  have L_8 : ∀ (n : Nat) (x5_1 : Int32) (x4 : Int32), L_steepest_L8 p2 p3 p4 v N n x5_1 x4 = some z_8 → ∀ (ls : Array Slot), lv_has ls 8 [(5, .int x5_1), (4, .int x4), (0, .ref a), (1, .int p2), (2, .int p3), (3, .int p4)] → W p l e (headSpec wsL_steepest ({ frames := 0, cells := 0, slots := 0, locals := 0 } : Room)).room s m ([.ref a, .int p2, .int p3, .int p4] : List Value).toArray below meth c s.heap [] 0 0 (MQ below (vp_Si (fun v => v = r)) ([.ref a, .int p2, .int p3, .int p4] : List Value).toArray s 0 0 (fun _ => False)) (F0 m 8 ls []) := by
    intro n
    induction n with
    | zero => intro x5_1 x4 hm; cases hm
    | succ n ih_8 =>
      intro x5_1 x4 hm ls hl
      refine lv_iload hx hb dL_steepest_8 (lv_at hl 0 rfl) ?_
      refine lv_iload_n hx hb dL_steepest_10 rfl (lv_at hl 4 rfl) ?_
      refine lv_icmp_ge (tgt := 82) hx hb dL_steepest_11 (by decide) (fun c_11 => ?_) (fun c_11 => ?_)
      · have hm := it_t hm c_11
        exact K_8 x4 (o2 hm) _ (lv_sub hl [1] rfl)
      · have hm := it_f hm c_11
        refine lv_iload hx hb dL_steepest_14 (lv_at hl 0 rfl) ?_
        refine lv_iload_n hx hb dL_steepest_16 rfl (lv_at hl 3 rfl) ?_
        refine lv_isub hx hb dL_steepest_17 ?_
        refine lv_iload_n hx hb dL_steepest_18 rfl (lv_at hl 5 rfl) ?_
        refine lv_isub hx hb dL_steepest_19 ?_
        refine lv_i2l hx hb dL_steepest_20 rfl ?_
        refine lv_topl (fun x6 e_x6 => ?_)
        have hm := bnd_e hm e_x6
        refine lv_lstore (lv' := [(6, .long x6), (5, .int x5_1), (4, .int x4), (0, .ref a), (1, .int p2), (2, .int p3), (3, .int p4)]) hx hb dL_steepest_21 hl (by decide) rfl (fun ls hl => ?_)
        refine lv_lload hx hb dL_steepest_23 (lv_at hl 0 rfl) ?_
        refine lv_lconst (v := 0) hx hb dL_steepest_25 (by decide) ?_
        refine W.lcmp hx hb dL_steepest_26 ?_
        refine lv_if_gt (tgt := 33) hx hb dL_steepest_27 (by decide) (fun c_27 => ?_) (fun c_27 => ?_)
        · have c_27 : 0 < x6 := (lg_cmp_gt _ _).mp c_27
          have hm := it_t hm c_27
          refine lv_iload hx hb dL_steepest_33 (lv_at hl 2 rfl) ?_
          refine lv_iload_n hx hb dL_steepest_35 rfl (lv_at hl 4 rfl) ?_
          refine lv_icmp_eq (tgt := 72) hx hb dL_steepest_36 (by decide) (fun c_36 => ?_) (fun c_36 => ?_)
          · have hm := it_t hm c_36
            refine lv_iload hx hb dL_steepest_72 (lv_at hl 1 rfl) ?_
            refine lv_istore (lv' := [(4, .int x5_1), (6, .long x6), (5, .int x5_1), (0, .ref a), (1, .int p2), (2, .int p3), (3, .int p4)]) hx hb dL_steepest_74 hl (by decide) rfl (fun ls hl => ?_)
            obtain ⟨x5_2, e_x5_2⟩ : ∃ y : Int32, y = x5_1 + 1 := ⟨_, rfl⟩
            have hm := bnd_e hm e_x5_2
            refine lv_iinc (v := x5_2) (lv' := [(5, .int x5_2), (4, .int x5_1), (6, .long x6), (0, .ref a), (1, .int p2), (2, .int p3), (3, .int p4)]) hx hb dL_steepest_76 hl (k := 2) rfl (by rw [e_x5_2]; rfl) (by decide) rfl (fun ls hl => ?_)
            refine lv_goto (tgt := 8) hx hb dL_steepest_79 (by decide) ?_
            exact ih_8 x5_2 x5_1 hm _ (lv_sub hl [0, 1, 3, 4, 5, 6] rfl)
          · have hm := it_f hm c_36
            refine lv_lload hx hb dL_steepest_39 (lv_at hl 0 rfl) ?_
            refine lv_aload_n hx hb dL_steepest_41 rfl (lv_at hl 3 rfl) ?_
            refine lv_iload hx hb dL_steepest_42 (lv_at hl 2 rfl) ?_
            obtain ⟨c_44, hm⟩ := ck hm
            refine va_iald hx hb hK hP 0 0 rfl rfl c_44 dL_steepest_44 ?_
            refine lv_aload_n hx hb dL_steepest_45 rfl (lv_at hl 3 rfl) ?_
            refine lv_iload_n hx hb dL_steepest_46 rfl (lv_at hl 4 rfl) ?_
            obtain ⟨c_47, hm⟩ := ck hm
            refine va_iald hx hb hK hP 0 0 rfl rfl c_47 dL_steepest_47 ?_
            refine lv_isub hx hb dL_steepest_48 ?_
            refine lv_i2l hx hb dL_steepest_49 rfl ?_
            refine lv_lmul hx hb dL_steepest_50 ?_
            refine lv_iload hx hb dL_steepest_51 (lv_at hl 2 rfl) ?_
            refine lv_iload_n hx hb dL_steepest_53 rfl (lv_at hl 4 rfl) ?_
            refine lv_isub hx hb dL_steepest_54 ?_
            refine lv_iload_n hx hb dL_steepest_55 rfl (lv_at hl 6 rfl) ?_
            refine lv_isub hx hb dL_steepest_56 ?_
            refine lv_i2l hx hb dL_steepest_57 rfl ?_
            refine lv_aload_n hx hb dL_steepest_58 rfl (lv_at hl 3 rfl) ?_
            refine lv_iload hx hb dL_steepest_59 (lv_at hl 1 rfl) ?_
            obtain ⟨c_61, hm⟩ := ck hm
            refine va_iald hx hb hK hP 0 0 rfl rfl c_61 dL_steepest_61 ?_
            refine lv_aload_n hx hb dL_steepest_62 rfl (lv_at hl 3 rfl) ?_
            refine lv_iload_n hx hb dL_steepest_63 rfl (lv_at hl 4 rfl) ?_
            obtain ⟨c_64, hm⟩ := ck hm
            refine va_iald hx hb hK hP 0 0 rfl rfl c_64 dL_steepest_64 ?_
            refine lv_isub hx hb dL_steepest_65 ?_
            refine lv_i2l hx hb dL_steepest_66 rfl ?_
            refine lv_lmul hx hb dL_steepest_67 ?_
            refine W.lcmp hx hb dL_steepest_68 ?_
            refine lv_if_le (tgt := 76) hx hb dL_steepest_69 (by decide) (fun c_69 => ?_) (fun c_69 => ?_)
            · have c_69 : (x6 * (Int32.toInt64 ((v (Int32.toNatClampNeg x4)) - (v (Int32.toNatClampNeg p2))))) ≤ ((Int32.toInt64 ((x4 - p2) - p4)) * (Int32.toInt64 ((v (Int32.toNatClampNeg x5_1)) - (v (Int32.toNatClampNeg p2))))) := (lg_cmp_le _ _).mp c_69
              have hm := it_t hm c_69
              obtain ⟨x5_3, e_x5_3⟩ : ∃ y : Int32, y = x5_1 + 1 := ⟨_, rfl⟩
              have hm := bnd_e hm e_x5_3
              refine lv_iinc (v := x5_3) (lv' := [(5, .int x5_3), (6, .long x6), (4, .int x4), (0, .ref a), (1, .int p2), (2, .int p3), (3, .int p4)]) hx hb dL_steepest_76 hl (k := 1) rfl (by rw [e_x5_3]; rfl) (by decide) rfl (fun ls hl => ?_)
              refine lv_goto (tgt := 8) hx hb dL_steepest_79 (by decide) ?_
              exact ih_8 x5_3 x4 hm _ (lv_sub hl [0, 2, 3, 4, 5, 6] rfl)
            · have c_69 : ¬ ((x6 * (Int32.toInt64 ((v (Int32.toNatClampNeg x4)) - (v (Int32.toNatClampNeg p2))))) ≤ ((Int32.toInt64 ((x4 - p2) - p4)) * (Int32.toInt64 ((v (Int32.toNatClampNeg x5_1)) - (v (Int32.toNatClampNeg p2)))))) := fun h => c_69 ((lg_cmp_le _ _).mpr h)
              have hm := it_f hm c_69
              refine lv_iload hx hb dL_steepest_72 (lv_at hl 1 rfl) ?_
              refine lv_istore (lv' := [(4, .int x5_1), (6, .long x6), (5, .int x5_1), (0, .ref a), (1, .int p2), (2, .int p3), (3, .int p4)]) hx hb dL_steepest_74 hl (by decide) rfl (fun ls hl => ?_)
              obtain ⟨x5_4, e_x5_4⟩ : ∃ y : Int32, y = x5_1 + 1 := ⟨_, rfl⟩
              have hm := bnd_e hm e_x5_4
              refine lv_iinc (v := x5_4) (lv' := [(5, .int x5_4), (4, .int x5_1), (6, .long x6), (0, .ref a), (1, .int p2), (2, .int p3), (3, .int p4)]) hx hb dL_steepest_76 hl (k := 2) rfl (by rw [e_x5_4]; rfl) (by decide) rfl (fun ls hl => ?_)
              refine lv_goto (tgt := 8) hx hb dL_steepest_79 (by decide) ?_
              exact ih_8 x5_4 x5_1 hm _ (lv_sub hl [0, 1, 3, 4, 5, 6] rfl)
        · have c_27 : ¬ (0 < x6) := fun h => c_27 ((lg_cmp_gt _ _).mpr h)
          have hm := it_f hm c_27
          refine lv_goto (tgt := 76) hx hb dL_steepest_30 (by decide) ?_
          obtain ⟨x5_5, e_x5_5⟩ : ∃ y : Int32, y = x5_1 + 1 := ⟨_, rfl⟩
          have hm := bnd_e hm e_x5_5
          refine lv_iinc (v := x5_5) (lv' := [(5, .int x5_5), (6, .long x6), (4, .int x4), (0, .ref a), (1, .int p2), (2, .int p3), (3, .int p4)]) hx hb dL_steepest_76 hl (k := 1) rfl (by rw [e_x5_5]; rfl) (by decide) rfl (fun ls hl => ?_)
          refine lv_goto (tgt := 8) hx hb dL_steepest_79 (by decide) ?_
          exact ih_8 x5_5 x4 hm _ (lv_sub hl [0, 2, 3, 4, 5, 6] rfl)
  exact L_8 F x5 p2 hq_8 _ (lv_sub hl [0, 1, 2, 3, 4, 5] rfl)
set_option maxHeartbeats 4000000 in
set_option maxRecDepth 100000 in
theorem c_L_behind (l : Launch) (dC : Nat → ClassId) (dI : Nat → Nat → Nat) (cI : ClassId) (a : Nat) (N : Nat) (v : Nat → Int32) (F : Nat) (p2 : Int32) (p3 : Int32) (r : Int32) (hm : L_behind F N v p2 p3 = some r) : Met l yL_behind wsL_behind ({ frames := 0, cells := 0, slots := 0, locals := 0 }) (va_Pc [.ref a, .int p2, .int p3] (zR (dC, dI) (w1 cI a N v) [(cI, .int)])) (vp_Si (fun v => v = r)) 0 0 (fun _ => False) := by
  refine Met.ofW (cc := cL_behind) (maxL := 4) (ret := (some .int)) (by decide) rfl ?_
  intro p e s m args below meth c s₁ B hml hv
  obtain ⟨rfl, hP, hK⟩ := hv
  have hx := B.exec
  have hb := B.bytes
  have hr := B.returns
  have hts := atoms_spec (ws := wsL_behind) B.pre
  have hown : s.vm.findClass RL = some m.cls := findClass_of_methodNamed B.named
  have hlocks := B.notSynchronized
  have hl := lv_entry ([.ref a, .int p2, .int p3]) (n := 4) (Nat.le_of_ble_eq_true rfl)
  rw [lg_entry_eq]
  generalize (lg_sl ([.ref a, .int p2, .int p3]) ++ List.replicate (4 - (lg_sl ([.ref a, .int p2, .int p3])).length) Slot.unset).toArray = ls at hl ⊢
  have hl : lv_has ls 4 [(0, .ref a), (1, .int p2), (2, .int p3)] := hl
  refine lv_iload_n hx hb dL_behind_0 rfl (lv_at hl 1 rfl) ?_
  refine lv_iconst (v := 1) hx hb dL_behind_1 (by decide) ?_
  refine lv_iadd hx hb dL_behind_2 ?_
  refine lv_topi (fun x3 e_x3 => ?_)
  have hm := bnd_e hm e_x3
  refine lv_istore_n (lv' := [(3, .int x3), (0, .ref a), (1, .int p2), (2, .int p3)]) hx hb dL_behind_3 rfl hl (by decide) rfl (fun ls hl => ?_)
  obtain ⟨z_4, hq_4, hm⟩ := ob hm
  have K_4 : ∀ (x3_3 : Int32), z_4 = x3_3 → ∀ (ls : Array Slot), lv_has ls 4 [(3, .int x3_3)] → W p l e (headSpec wsL_behind ({ frames := 0, cells := 0, slots := 0, locals := 0 } : Room)).room s m ([.ref a, .int p2, .int p3] : List Value).toArray below meth c s.heap [] 0 0 (MQ below (vp_Si (fun v => v = r)) ([.ref a, .int p2, .int p3] : List Value).toArray s 0 0 (fun _ => False)) (F0 m 21 ls []) := by
    intro x3_3 ez ls hl
    rw [ez] at hm
    refine lv_iload_n hx hb dL_behind_21 rfl (lv_at hl 0 rfl) ?_
    exact W.iret hx hb hr (fun t ht hW => ⟨_, rfl, (o2 hm).symm, ht⟩) (fun q h => absurd h List.not_mem_nil) dL_behind_22
  have L_4 : ∀ (n : Nat) (x3_1 : Int32), L_behind_L4 p3 v N n x3_1 = some z_4 → ∀ (ls : Array Slot), lv_has ls 4 [(3, .int x3_1), (0, .ref a), (2, .int p3)] → W p l e (headSpec wsL_behind ({ frames := 0, cells := 0, slots := 0, locals := 0 } : Room)).room s m ([.ref a, .int p2, .int p3] : List Value).toArray below meth c s.heap [] 0 0 (MQ below (vp_Si (fun v => v = r)) ([.ref a, .int p2, .int p3] : List Value).toArray s 0 0 (fun _ => False)) (F0 m 4 ls []) := by
    intro n
    induction n with
    | zero => intro x3_1 hm; cases hm
    | succ n ih_4 =>
      intro x3_1 hm ls hl
      refine lv_iload_n hx hb dL_behind_4 rfl (lv_at hl 0 rfl) ?_
      refine lv_iload_n hx hb dL_behind_5 rfl (lv_at hl 2 rfl) ?_
      refine lv_icmp_ge (tgt := 21) hx hb dL_behind_6 (by decide) (fun c_6 => ?_) (fun c_6 => ?_)
      · have hm := it_t hm c_6
        exact K_4 x3_1 (o2 hm) _ (lv_sub hl [0] rfl)
      · have hm := it_f hm c_6
        refine lv_aload_n hx hb dL_behind_9 rfl (lv_at hl 1 rfl) ?_
        refine lv_iload_n hx hb dL_behind_10 rfl (lv_at hl 0 rfl) ?_
        obtain ⟨c_11, hm⟩ := ck hm
        refine va_iald hx hb hK hP 0 0 rfl rfl c_11 dL_behind_11 ?_
        refine lv_if_ne (tgt := 21) hx hb dL_behind_12 (by decide) (fun c_12 => ?_) (fun c_12 => ?_)
        · have hm := it_f hm c_12
          exact K_4 x3_1 (o2 hm) _ (lv_sub hl [0] rfl)
        · have hm := it_t hm c_12
          obtain ⟨x3_2, e_x3_2⟩ : ∃ y : Int32, y = x3_1 + 1 := ⟨_, rfl⟩
          have hm := bnd_e hm e_x3_2
          refine lv_iinc (v := x3_2) (lv' := [(3, .int x3_2), (0, .ref a), (2, .int p3)]) hx hb dL_behind_15 hl (k := 0) rfl (by rw [e_x3_2]; rfl) (by decide) rfl (fun ls hl => ?_)
          refine lv_goto (tgt := 4) hx hb dL_behind_18 (by decide) ?_
          exact ih_4 x3_2 hm _ (lv_sub hl [0, 1, 2] rfl)
  exact L_4 F x3 hq_4 _ (lv_sub hl [0, 1, 3] rfl)
set_option maxHeartbeats 4000000 in
set_option maxRecDepth 100000 in
theorem c_L_common (l : Launch) (dC : Nat → ClassId) (dI : Nat → Nat → Nat) (F : Nat) (p1 : Int32) (p2 : Int32) (r : Int32) (hm : L_common F p1 p2 = some r) : Met l yL_common wsL_common ({ frames := 0, cells := 0, slots := 0, locals := 0 }) (va_Pc [.int p1, .int p2] (zR (dC, dI) [] [])) (vp_Si (fun v => v = r)) 0 0 (fun _ => False) := by
  refine Met.ofW (cc := cL_common) (maxL := 5) (ret := (some .int)) (by decide) rfl ?_
  intro p e s m args below meth c s₁ B hml hv
  obtain ⟨rfl, hP, hK⟩ := hv
  have hx := B.exec
  have hb := B.bytes
  have hr := B.returns
  have hts := atoms_spec (ws := wsL_common) B.pre
  have hown : s.vm.findClass RL = some m.cls := findClass_of_methodNamed B.named
  have hlocks := B.notSynchronized
  have hl := lv_entry ([.int p1, .int p2]) (n := 5) (Nat.le_of_ble_eq_true rfl)
  rw [lg_entry_eq]
  generalize (lg_sl ([.int p1, .int p2]) ++ List.replicate (5 - (lg_sl ([.int p1, .int p2])).length) Slot.unset).toArray = ls at hl ⊢
  have hl : lv_has ls 5 [(0, .int p1), (1, .int p2)] := hl
  refine lv_iload_n hx hb dL_common_0 rfl (lv_at hl 0 rfl) ?_
  refine lv_istore_n (lv' := [(2, .int p1), (0, .int p1), (1, .int p2)]) hx hb dL_common_1 rfl hl (by decide) rfl (fun ls hl => ?_)
  refine lv_iload_n hx hb dL_common_2 rfl (lv_at hl 2 rfl) ?_
  refine lv_istore_n (lv' := [(3, .int p2), (2, .int p1), (0, .int p1), (1, .int p2)]) hx hb dL_common_3 rfl hl (by decide) rfl (fun ls hl => ?_)
  obtain ⟨z_4, hq_4, hm⟩ := ob hm
  have K_4 : ∀ (x2_1 : Int32), z_4 = x2_1 → ∀ (ls : Array Slot), lv_has ls 5 [(2, .int x2_1)] → W p l e (headSpec wsL_common ({ frames := 0, cells := 0, slots := 0, locals := 0 } : Room)).room s m ([.int p1, .int p2] : List Value).toArray below meth c s.heap [] 0 0 (MQ below (vp_Si (fun v => v = r)) ([.int p1, .int p2] : List Value).toArray s 0 0 (fun _ => False)) (F0 m 21 ls []) := by
    intro x2_1 ez ls hl
    rw [ez] at hm
    refine lv_iload_n hx hb dL_common_21 rfl (lv_at hl 0 rfl) ?_
    exact W.iret hx hb hr (fun t ht hW => ⟨_, rfl, (o2 hm).symm, ht⟩) (fun q h => absurd h List.not_mem_nil) dL_common_22
  have L_4 : ∀ (n : Nat) (x3 : Int32) (x2 : Int32), L_common_L4 n x3 x2 = some z_4 → ∀ (ls : Array Slot), lv_has ls 5 [(3, .int x3), (2, .int x2)] → W p l e (headSpec wsL_common ({ frames := 0, cells := 0, slots := 0, locals := 0 } : Room)).room s m ([.int p1, .int p2] : List Value).toArray below meth c s.heap [] 0 0 (MQ below (vp_Si (fun v => v = r)) ([.int p1, .int p2] : List Value).toArray s 0 0 (fun _ => False)) (F0 m 4 ls []) := by
    intro n
    induction n with
    | zero => intro x3 x2 hm; cases hm
    | succ n ih_4 =>
      intro x3 x2 hm ls hl
      refine lv_iload_n hx hb dL_common_4 rfl (lv_at hl 0 rfl) ?_
      refine lv_if_le (tgt := 21) hx hb dL_common_5 (by decide) (fun c_5 => ?_) (fun c_5 => ?_)
      · have hm := it_t hm c_5
        exact K_4 x2 (o2 hm) _ (lv_sub hl [1] rfl)
      · have hm := it_f hm c_5
        refine lv_iload_n hx hb dL_common_8 rfl (lv_at hl 1 rfl) ?_
        refine lv_iload_n hx hb dL_common_9 rfl (lv_at hl 0 rfl) ?_
        obtain ⟨c_10, hm⟩ := ck hm
        refine lv_irem hx hb dL_common_10 c_10 ?_
        refine lv_topi (fun x4 e_x4 => ?_)
        have hm := bnd_e hm e_x4
        refine lv_istore (lv' := [(4, .int x4), (3, .int x3), (2, .int x2)]) hx hb dL_common_11 hl (by decide) rfl (fun ls hl => ?_)
        refine lv_iload_n hx hb dL_common_13 rfl (lv_at hl 1 rfl) ?_
        refine lv_istore_n (lv' := [(2, .int x3), (4, .int x4), (3, .int x3)]) hx hb dL_common_14 rfl hl (by decide) rfl (fun ls hl => ?_)
        refine lv_iload hx hb dL_common_15 (lv_at hl 1 rfl) ?_
        refine lv_istore_n (lv' := [(3, .int x4), (2, .int x3), (4, .int x4)]) hx hb dL_common_17 rfl hl (by decide) rfl (fun ls hl => ?_)
        refine lv_goto (tgt := 4) hx hb dL_common_18 (by decide) ?_
        exact ih_4 x4 x3 hm _ (lv_sub hl [0, 1] rfl)
  exact L_4 F p2 p1 hq_4 _ (lv_sub hl [0, 1] rfl)
set_option maxHeartbeats 4000000 in
set_option maxRecDepth 100000 in
theorem c_L_cuts (l : Launch) (dC : Nat → ClassId) (dI : Nat → Nat → Nat) (cI : ClassId) (a1 : Nat) (a2 : Nat) (v1 : Nat → Int32) (v2 : Nat → Int32) (F : Nat) (p3 : Int32) (p4 : Int32) (p5 : Int32) (sz : Nat) (r : Int32) (u_v2 : Nat → Int32) (hm : L_cuts F v1 v2 p3 p4 p5 = some (r, u_v2)) : Met l yL_cuts wsL_cuts ({ frames := 1, cells := 0, slots := 0, locals := 25 }) (va_Pc [.ref a1, .ref a2, .int p3, .int p4, .int p5] (zW (dC, dI) (w2 cI a1 a2 v1 v2) [(cI, .int)] sz)) (zQi (dC, dI) (w2 cI a1 a2 v1 u_v2) [(cI, .int)] (va_A (w2 cI a1 a2 v1 v2) sz) r) 0 0 (va_A (w2 cI a1 a2 v1 v2) sz) := by
  refine Met.ofW (cc := cL_cuts) (maxL := 9) (ret := (some .int)) (by decide) rfl ?_
  intro p e s m args below meth c s₁ B hml hv
  obtain ⟨rfl, hsz, hP, hK, hD0⟩ := hv
  have hx := B.exec
  have hb := B.bytes
  have hr := B.returns
  have hts := atoms_spec (ws := wsL_cuts) B.pre
  have hown : s.vm.findClass RL = some m.cls := findClass_of_methodNamed B.named
  have hlocks := B.notSynchronized
  subst hsz
  have hD := hD0.self (sz := s.heap.size)
  generalize hAe : va_A (w2 cI a1 a2 v1 v2) s.heap.size = A at hD ⊢
  have hA : ∀ q : Nat, s.heap.size ≤ q → A q := fun q h => by rw [← hAe]; exact Or.inr h
  have hS : va_S A s.heap s.heap [] := va_S.rf
  generalize eL : ([] : List Loc) = locs at hS ⊢
  obtain ⟨H, eH⟩ : ∃ z : Heap, z = s.heap := ⟨_, rfl⟩
  have hP : va_P (dC, dI) vwCl (w2 cI a1 a2 v1 v2) H := by rw [eH]; exact hP
  have hS : va_S A s.heap H locs := by rw [eH]; exact hS
  refine z_heap eH ?_
  have hl := lv_entry ([.ref a1, .ref a2, .int p3, .int p4, .int p5]) (n := 9) (Nat.le_of_ble_eq_true rfl)
  rw [lg_entry_eq]
  generalize (lg_sl ([.ref a1, .ref a2, .int p3, .int p4, .int p5]) ++ List.replicate (9 - (lg_sl ([.ref a1, .ref a2, .int p3, .int p4, .int p5])).length) Slot.unset).toArray = ls at hl ⊢
  have hl : lv_has ls 9 [(0, .ref a1), (1, .ref a2), (2, .int p3), (3, .int p4), (4, .int p5)] := hl
  refine lv_iload_n hx hb dL_cuts_0 rfl (lv_at hl 2 rfl) ?_
  refine lv_istore (lv' := [(5, .int p3), (0, .ref a1), (1, .ref a2), (2, .int p3), (3, .int p4), (4, .int p5)]) hx hb dL_cuts_1 hl (by decide) rfl (fun ls hl => ?_)
  refine lv_iconst (v := 0) hx hb dL_cuts_3 (by decide) ?_
  refine lv_istore (lv' := [(6, .int 0), (5, .int p3), (0, .ref a1), (1, .ref a2), (2, .int p3), (3, .int p4), (4, .int p5)]) hx hb dL_cuts_4 hl (by decide) rfl (fun ls hl => ?_)
  refine lv_iload_n hx hb dL_cuts_6 rfl (lv_at hl 4 rfl) ?_
  refine lv_istore (lv' := [(7, .int p3), (6, .int 0), (5, .int p3), (0, .ref a1), (1, .ref a2), (2, .int p3), (3, .int p4), (4, .int p5)]) hx hb dL_cuts_7 hl (by decide) rfl (fun ls hl => ?_)
  obtain ⟨z_9, hq_9, hm⟩ := ob hm
  have K_9 : ∀ (x6_2 : Int32), ∀ (v2x9 : Nat → Int32), z_9 = (x6_2, v2x9) → ∀ (H : Heap) (locs : List Loc), va_P (dC, dI) vwCl (w2 cI a1 a2 v1 v2x9) H → va_D A (w2 cI a1 a2 v1 v2x9) → va_S A s.heap H locs → ∀ (ls : Array Slot), lv_has ls 9 [(6, .int x6_2)] → W p l e (headSpec wsL_cuts ({ frames := 1, cells := 0, slots := 0, locals := 25 } : Room)).room s m ([.ref a1, .ref a2, .int p3, .int p4, .int p5] : List Value).toArray below meth c H locs 0 0 (MQ below (zQi (dC, dI) (w2 cI a1 a2 v1 u_v2) [(cI, .int)] A r) ([.ref a1, .ref a2, .int p3, .int p4, .int p5] : List Value).toArray s 0 0 A) (F0 m 86 ls []) := by
    intro x6_2 v2x9 ez H locs hP hD hS ls hl
    rw [ez] at hm
    refine lv_iload hx hb dL_cuts_86 (lv_at hl 0 rfl) ?_
    cases o2 hm
    exact W.iret hx hb hr (fun t ht hW => ⟨⟨_, (), rfl, rfl, by rw [ht]; exact hP, va_K.moved hW.alike hK, hD⟩, hS.F ht⟩) hS.2.2 dL_cuts_88
  have L_9 : ∀ (n : Nat) (x7 : Int32) (x6 : Int32) (x5 : Int32) (v2l9 : Nat → Int32), L_cuts_L9 p3 p4 p5 v1 F n x7 x6 x5 v2l9 = some z_9 → ∀ (H : Heap) (locs : List Loc), va_P (dC, dI) vwCl (w2 cI a1 a2 v1 v2l9) H → va_D A (w2 cI a1 a2 v1 v2l9) → va_S A s.heap H locs → ∀ (ls : Array Slot), lv_has ls 9 [(7, .int x7), (6, .int x6), (5, .int x5), (0, .ref a1), (1, .ref a2), (2, .int p3), (3, .int p4), (4, .int p5)] → W p l e (headSpec wsL_cuts ({ frames := 1, cells := 0, slots := 0, locals := 25 } : Room)).room s m ([.ref a1, .ref a2, .int p3, .int p4, .int p5] : List Value).toArray below meth c H locs 0 0 (MQ below (zQi (dC, dI) (w2 cI a1 a2 v1 u_v2) [(cI, .int)] A r) ([.ref a1, .ref a2, .int p3, .int p4, .int p5] : List Value).toArray s 0 0 A) (F0 m 9 ls []) := by
    intro n
    induction n with
    | zero => intro x7 x6 x5 v2l9 hm; cases hm
    | succ n ih_9 =>
      intro x7 x6 x5 v2l9 hm H locs hP hD hS ls hl
      refine lv_iload hx hb dL_cuts_9 (lv_at hl 0 rfl) ?_
      refine lv_iload_n hx hb dL_cuts_11 rfl (lv_at hl 6 rfl) ?_
      refine lv_icmp_ge (tgt := 86) hx hb dL_cuts_12 (by decide) (fun c_12 => ?_) (fun c_12 => ?_)
      · have hm := it_t hm c_12
        exact K_9 x6 v2l9 (o2 hm) _ _ hP hD hS _ (lv_sub hl [1] rfl)
      · have hm := it_f hm c_12
        refine lv_iload hx hb dL_cuts_15 (lv_at hl 0 rfl) ?_
        refine lv_iload_n hx hb dL_cuts_17 rfl (lv_at hl 5 rfl) ?_
        obtain ⟨z_41, hq_41, hm⟩ := ob hm
        have J_41 : ∀ (y41 : Int32), z_41 = y41 → W p l e (headSpec wsL_cuts ({ frames := 1, cells := 0, slots := 0, locals := 25 } : Room)).room s m ([.ref a1, .ref a2, .int p3, .int p4, .int p5] : List Value).toArray below meth c H locs 0 0 (MQ below (zQi (dC, dI) (w2 cI a1 a2 v1 u_v2) [(cI, .int)] A r) ([.ref a1, .ref a2, .int p3, .int p4, .int p5] : List Value).toArray s 0 0 A) (F0 m 41 ls [.int y41]) := by
          intro y41 ez
          rw [ez] at hm
          refine lv_istore (lv' := [(8, .int y41), (7, .int x7), (6, .int x6), (5, .int x5), (0, .ref a1), (1, .ref a2), (2, .int p3), (3, .int p4), (4, .int p5)]) hx hb dL_cuts_41 hl (by decide) rfl (fun ls hl => ?_)
          refine lv_iload hx hb dL_cuts_43 (lv_at hl 0 rfl) ?_
          obtain ⟨y55, e_y55⟩ : ∃ y : Int32, y = (if y41 = 0 then x5 else x7) := ⟨_, rfl⟩
          have hm := bnd_e hm e_y55
          have J_55 : W p l e (headSpec wsL_cuts ({ frames := 1, cells := 0, slots := 0, locals := 25 } : Room)).room s m ([.ref a1, .ref a2, .int p3, .int p4, .int p5] : List Value).toArray below meth c H locs 0 0 (MQ below (zQi (dC, dI) (w2 cI a1 a2 v1 u_v2) [(cI, .int)] A r) ([.ref a1, .ref a2, .int p3, .int p4, .int p5] : List Value).toArray s 0 0 A) (F0 m 55 ls [.int y55]) := by
            refine lv_istore (lv' := [(5, .int y55), (8, .int y41), (7, .int x7), (6, .int x6), (0, .ref a1), (1, .ref a2), (2, .int p3), (3, .int p4), (4, .int p5)]) hx hb dL_cuts_55 hl (by decide) rfl (fun ls hl => ?_)
            refine lv_aload_n hx hb dL_cuts_57 rfl (lv_at hl 5 rfl) ?_
            refine lv_iload hx hb dL_cuts_58 (lv_at hl 2 rfl) ?_
            refine lv_iload hx hb dL_cuts_60 (lv_at hl 1 rfl) ?_
            obtain ⟨y70, e_y70⟩ : ∃ y : Int32, y = (if y41 = 0 then 0 else 1) := ⟨_, rfl⟩
            have hm := bnd_e hm e_y70
            have J_70 : W p l e (headSpec wsL_cuts ({ frames := 1, cells := 0, slots := 0, locals := 25 } : Room)).room s m ([.ref a1, .ref a2, .int p3, .int p4, .int p5] : List Value).toArray below meth c H locs 0 0 (MQ below (zQi (dC, dI) (w2 cI a1 a2 v1 u_v2) [(cI, .int)] A r) ([.ref a1, .ref a2, .int p3, .int p4, .int p5] : List Value).toArray s 0 0 A) (F0 m 70 ls [.int y70, .int x7, .ref a2]) := by
              obtain ⟨c_70, hm⟩ := ck hm
              refine va_iast hx hb hK hP hD hS 1 0 rfl rfl c_70 dL_cuts_70 (fun H locs hP hD hS => ?_)
              have hP : va_P (dC, dI) vwCl (w2 cI a1 a2 v1 (upd v2l9 (Int32.toNatClampNeg x7) y70)) H := hP
              have hD : va_D A (w2 cI a1 a2 v1 (upd v2l9 (Int32.toNatClampNeg x7) y70)) := hD
              refine lv_iload hx hb dL_cuts_71 (lv_at hl 3 rfl) ?_
              refine lv_aload_n hx hb dL_cuts_73 rfl (lv_at hl 5 rfl) ?_
              refine lv_iload hx hb dL_cuts_74 (lv_at hl 2 rfl) ?_
              obtain ⟨c_76, hm⟩ := ck hm
              refine va_iald hx hb hK hP 1 0 rfl rfl c_76 dL_cuts_76 ?_
              refine lv_iadd hx hb dL_cuts_77 ?_
              refine lv_topi (fun x6_1 e_x6_1 => ?_)
              have hm := bnd_e hm e_x6_1
              refine lv_istore (lv' := [(6, .int x6_1), (5, .int y55), (8, .int y41), (7, .int x7), (0, .ref a1), (1, .ref a2), (2, .int p3), (3, .int p4), (4, .int p5)]) hx hb dL_cuts_78 hl (by decide) rfl (fun ls hl => ?_)
              obtain ⟨x7_1, e_x7_1⟩ : ∃ y : Int32, y = x7 + 1 := ⟨_, rfl⟩
              have hm := bnd_e hm e_x7_1
              refine lv_iinc (v := x7_1) (lv' := [(7, .int x7_1), (6, .int x6_1), (5, .int y55), (8, .int y41), (0, .ref a1), (1, .ref a2), (2, .int p3), (3, .int p4), (4, .int p5)]) hx hb dL_cuts_80 hl (k := 3) rfl (by rw [e_x7_1]; rfl) (by decide) rfl (fun ls hl => ?_)
              refine lv_goto (tgt := 9) hx hb dL_cuts_83 (by decide) ?_
              exact ih_9 x7_1 x6_1 y55 (upd v2l9 (Int32.toNatClampNeg x7) y70) hm _ _ hP hD hS _ (lv_sub hl [0, 1, 2, 4, 5, 6, 7, 8] rfl)
            refine lv_if_eq (tgt := 69) hx hb dL_cuts_62 (by decide) (fun c_62 => ?_) (fun c_62 => ?_)
            · refine lv_iconst (v := 0) hx hb dL_cuts_69 (by decide) ?_
              have e9 : y70 = 0 := by rw [e_y70, if_pos c_62]
              rw [e9] at J_70
              exact J_70
            · refine lv_iconst (v := 1) hx hb dL_cuts_65 (by decide) ?_
              refine lv_goto (tgt := 70) hx hb dL_cuts_66 (by decide) ?_
              have e9 : y70 = 1 := by rw [e_y70, if_neg c_62]
              rw [e9] at J_70
              exact J_70
          refine lv_if_eq (tgt := 53) hx hb dL_cuts_45 (by decide) (fun c_45 => ?_) (fun c_45 => ?_)
          · refine lv_iload hx hb dL_cuts_53 (lv_at hl 3 rfl) ?_
            have e9 : y55 = x5 := by rw [e_y55, if_pos c_45]
            rw [e9] at J_55
            exact J_55
          · refine lv_iload hx hb dL_cuts_48 (lv_at hl 1 rfl) ?_
            refine lv_goto (tgt := 55) hx hb dL_cuts_50 (by decide) ?_
            have e9 : y55 = x7 := by rw [e_y55, if_neg c_45]
            rw [e9] at J_55
            exact J_55
        have hm := hq_41
        refine lv_icmp_eq (tgt := 36) hx hb dL_cuts_18 (by decide) (fun c_18 => ?_) (fun c_18 => ?_)
        · have hm := it_t hm c_18
          refine lv_iconst (v := 1) hx hb dL_cuts_36 (by decide) ?_
          refine lv_goto (tgt := 41) hx hb dL_cuts_37 (by decide) ?_
          exact J_41 1 (o2 hm)
        · have hm := it_f hm c_18
          refine lv_aload_n hx hb dL_cuts_21 rfl (lv_at hl 3 rfl) ?_
          refine lv_iload hx hb dL_cuts_22 (lv_at hl 2 rfl) ?_
          refine lv_iload hx hb dL_cuts_24 (lv_at hl 0 rfl) ?_
          refine lv_iconst (v := 1) hx hb dL_cuts_26 (by decide) ?_
          refine lv_iadd hx hb dL_cuts_27 ?_
          refine lv_iload hx hb dL_cuts_28 (lv_at hl 7 rfl) ?_
          obtain ⟨r30, h_30, hm⟩ := ob hm
          refine z_callSi (As := [.ref a1, .int x5, .int (x7 + 1), .int p5]) (rest := []) ⟨hx, hb, hml, hown, hts⟩ (c_L_fits l dC dI cI a1 64 v1 F x5 (x7 + 1) p5 r30 h_30) (va_cwS 4 hts gL_cuts_L_fits rfl rfl rfl ks_L_fits ⟨Nat.le_of_ble_eq_true rfl, Nat.le_of_ble_eq_true rfl⟩) hK (z_mid (pj2_1v1 cI a1 a2 v1 v2l9 v1) hP) rfl hl.1 rfl (Nat.le_of_ble_eq_true rfl) dL_cuts_30 ⟨Nat.zero_le _, Nat.zero_le _⟩ ?_
          refine lv_if_ne (tgt := 40) hx hb dL_cuts_33 (by decide) (fun c_33 => ?_) (fun c_33 => ?_)
          · have hm := it_f hm c_33
            refine lv_iconst (v := 0) hx hb dL_cuts_40 (by decide) ?_
            exact J_41 0 (o2 hm)
          · have hm := it_t hm c_33
            refine lv_iconst (v := 1) hx hb dL_cuts_36 (by decide) ?_
            refine lv_goto (tgt := 41) hx hb dL_cuts_37 (by decide) ?_
            exact J_41 1 (o2 hm)
  exact L_9 F p3 0 p3 v2 hq_9 _ _ hP hD hS _ (lv_sub hl [0, 1, 2, 3, 4, 5, 6, 7] rfl)
set_option maxHeartbeats 4000000 in
set_option maxRecDepth 100000 in
theorem c_L_sorts (l : Launch) (dC : Nat → ClassId) (dI : Nat → Nat → Nat) (cI : ClassId) (a : Nat) (N : Nat) (v : Nat → Int32) (F : Nat) (p2 : Int32) (p3 : Int32) (p4 : Int32) (sz : Nat) (u_v : Nat → Int32) (hm : L_sorts F N v p2 p3 p4 = some u_v) : Met l yL_sorts wsL_sorts ({ frames := 0, cells := 0, slots := 0, locals := 0 }) (va_Pc [.ref a, .int p2, .int p3, .int p4] (zW (dC, dI) (w1 cI a N v) [(cI, .int)] sz)) (zQv (dC, dI) (w1 cI a N u_v) [(cI, .int)] (va_A (w1 cI a N v) sz)) 0 0 (va_A (w1 cI a N v) sz) := by
  refine Met.ofW (cc := cL_sorts) (maxL := 5) (ret := none) (by decide) rfl ?_
  intro p e s m args below meth c s₁ B hml hv
  obtain ⟨rfl, hsz, hP, hK, hD0⟩ := hv
  have hx := B.exec
  have hb := B.bytes
  have hr := B.returns
  have hts := atoms_spec (ws := wsL_sorts) B.pre
  have hown : s.vm.findClass RL = some m.cls := findClass_of_methodNamed B.named
  have hlocks := B.notSynchronized
  subst hsz
  have hD := hD0.self (sz := s.heap.size)
  generalize hAe : va_A (w1 cI a N v) s.heap.size = A at hD ⊢
  have hA : ∀ q : Nat, s.heap.size ≤ q → A q := fun q h => by rw [← hAe]; exact Or.inr h
  have hS : va_S A s.heap s.heap [] := va_S.rf
  generalize eL : ([] : List Loc) = locs at hS ⊢
  obtain ⟨H, eH⟩ : ∃ z : Heap, z = s.heap := ⟨_, rfl⟩
  have hP : va_P (dC, dI) vwCl (w1 cI a N v) H := by rw [eH]; exact hP
  have hS : va_S A s.heap H locs := by rw [eH]; exact hS
  refine z_heap eH ?_
  have hl := lv_entry ([.ref a, .int p2, .int p3, .int p4]) (n := 5) (Nat.le_of_ble_eq_true rfl)
  rw [lg_entry_eq]
  generalize (lg_sl ([.ref a, .int p2, .int p3, .int p4]) ++ List.replicate (5 - (lg_sl ([.ref a, .int p2, .int p3, .int p4])).length) Slot.unset).toArray = ls at hl ⊢
  have hl : lv_has ls 5 [(0, .ref a), (1, .int p2), (2, .int p3), (3, .int p4)] := hl
  refine lv_iload_n hx hb dL_sorts_0 rfl (lv_at hl 2 rfl) ?_
  refine lv_istore (lv' := [(4, .int p3), (0, .ref a), (1, .int p2), (2, .int p3), (3, .int p4)]) hx hb dL_sorts_1 hl (by decide) rfl (fun ls hl => ?_)
  obtain ⟨z_3, hq_3, hm⟩ := ob hm
  have K_3 : ∀ (x4_2 : Int32), ∀ (vx3 : Nat → Int32), z_3 = (x4_2, vx3) → ∀ (H : Heap) (locs : List Loc), va_P (dC, dI) vwCl (w1 cI a N vx3) H → va_D A (w1 cI a N vx3) → va_S A s.heap H locs → ∀ (ls : Array Slot), lv_has ls 5 [(4, .int x4_2), (0, .ref a), (3, .int p4)] → W p l e (headSpec wsL_sorts ({ frames := 0, cells := 0, slots := 0, locals := 0 } : Room)).room s m ([.ref a, .int p2, .int p3, .int p4] : List Value).toArray below meth c H locs 0 0 (MQ below (zQv (dC, dI) (w1 cI a N u_v) [(cI, .int)] A) ([.ref a, .int p2, .int p3, .int p4] : List Value).toArray s 0 0 A) (F0 m 35 ls []) := by
    intro x4_2 vx3 ez H locs hP hD hS ls hl
    rw [ez] at hm
    refine lv_aload_n hx hb dL_sorts_35 rfl (lv_at hl 1 rfl) ?_
    refine lv_iload hx hb dL_sorts_36 (lv_at hl 0 rfl) ?_
    refine lv_iload_n hx hb dL_sorts_38 rfl (lv_at hl 2 rfl) ?_
    obtain ⟨c_39, hm⟩ := ck hm
    refine va_iast hx hb hK hP hD hS 0 0 rfl rfl c_39 dL_sorts_39 (fun H locs hP hD hS => ?_)
    have hP : va_P (dC, dI) vwCl (w1 cI a N (upd vx3 (Int32.toNatClampNeg x4_2) p4)) H := hP
    have hD : va_D A (w1 cI a N (upd vx3 (Int32.toNatClampNeg x4_2) p4)) := hD
    cases o2 hm
    exact W.vret hx hb hr (fun t ht hW => ⟨⟨(), rfl, trivial, by rw [ht]; exact hP, va_K.moved hW.alike hK, hD⟩, hS.F ht⟩) hS.2.2 dL_sorts_40
  have L_3 : ∀ (n : Nat) (x4 : Int32) (vl3 : Nat → Int32), L_sorts_L3 p2 p4 N n x4 vl3 = some z_3 → ∀ (H : Heap) (locs : List Loc), va_P (dC, dI) vwCl (w1 cI a N vl3) H → va_D A (w1 cI a N vl3) → va_S A s.heap H locs → ∀ (ls : Array Slot), lv_has ls 5 [(4, .int x4), (0, .ref a), (1, .int p2), (3, .int p4)] → W p l e (headSpec wsL_sorts ({ frames := 0, cells := 0, slots := 0, locals := 0 } : Room)).room s m ([.ref a, .int p2, .int p3, .int p4] : List Value).toArray below meth c H locs 0 0 (MQ below (zQv (dC, dI) (w1 cI a N u_v) [(cI, .int)] A) ([.ref a, .int p2, .int p3, .int p4] : List Value).toArray s 0 0 A) (F0 m 3 ls []) := by
    intro n
    induction n with
    | zero => intro x4 vl3 hm; cases hm
    | succ n ih_3 =>
      intro x4 vl3 hm H locs hP hD hS ls hl
      refine lv_iload hx hb dL_sorts_3 (lv_at hl 0 rfl) ?_
      refine lv_iload_n hx hb dL_sorts_5 rfl (lv_at hl 2 rfl) ?_
      refine lv_icmp_le (tgt := 35) hx hb dL_sorts_6 (by decide) (fun c_6 => ?_) (fun c_6 => ?_)
      · have hm := it_t hm c_6
        exact K_3 x4 vl3 (o2 hm) _ _ hP hD hS _ (lv_sub hl [0, 1, 3] rfl)
      · have hm := it_f hm c_6
        refine lv_aload_n hx hb dL_sorts_9 rfl (lv_at hl 1 rfl) ?_
        refine lv_iload hx hb dL_sorts_10 (lv_at hl 0 rfl) ?_
        refine lv_iconst (v := 1) hx hb dL_sorts_12 (by decide) ?_
        refine lv_isub hx hb dL_sorts_13 ?_
        obtain ⟨c_14, hm⟩ := ck hm
        refine va_iald hx hb hK hP 0 0 rfl rfl c_14 dL_sorts_14 ?_
        refine lv_iload_n hx hb dL_sorts_15 rfl (lv_at hl 3 rfl) ?_
        refine lv_icmp_le (tgt := 35) hx hb dL_sorts_16 (by decide) (fun c_16 => ?_) (fun c_16 => ?_)
        · have hm := it_t hm c_16
          exact K_3 x4 vl3 (o2 hm) _ _ hP hD hS _ (lv_sub hl [0, 1, 3] rfl)
        · have hm := it_f hm c_16
          refine lv_aload_n hx hb dL_sorts_19 rfl (lv_at hl 1 rfl) ?_
          refine lv_iload hx hb dL_sorts_20 (lv_at hl 0 rfl) ?_
          refine lv_aload_n hx hb dL_sorts_22 rfl (lv_at hl 1 rfl) ?_
          refine lv_iload hx hb dL_sorts_23 (lv_at hl 0 rfl) ?_
          refine lv_iconst (v := 1) hx hb dL_sorts_25 (by decide) ?_
          refine lv_isub hx hb dL_sorts_26 ?_
          obtain ⟨c_27, hm⟩ := ck hm
          refine va_iald hx hb hK hP 0 0 rfl rfl c_27 dL_sorts_27 ?_
          obtain ⟨c_28, hm⟩ := ck hm
          refine va_iast hx hb hK hP hD hS 0 0 rfl rfl c_28 dL_sorts_28 (fun H locs hP hD hS => ?_)
          have hP : va_P (dC, dI) vwCl (w1 cI a N (upd vl3 (Int32.toNatClampNeg x4) (vl3 (Int32.toNatClampNeg (x4 - 1))))) H := hP
          have hD : va_D A (w1 cI a N (upd vl3 (Int32.toNatClampNeg x4) (vl3 (Int32.toNatClampNeg (x4 - 1))))) := hD
          obtain ⟨x4_1, e_x4_1⟩ : ∃ y : Int32, y = x4 + (-1) := ⟨_, rfl⟩
          have hm := bnd_e hm e_x4_1
          refine lv_iinc (v := x4_1) (lv' := [(4, .int x4_1), (0, .ref a), (1, .int p2), (3, .int p4)]) hx hb dL_sorts_29 hl (k := 0) rfl (by rw [e_x4_1]; rfl) (by decide) rfl (fun ls hl => ?_)
          refine lv_goto (tgt := 3) hx hb dL_sorts_32 (by decide) ?_
          exact ih_3 x4_1 (upd vl3 (Int32.toNatClampNeg x4) (vl3 (Int32.toNatClampNeg (x4 - 1)))) hm _ _ hP hD hS _ (lv_sub hl [0, 1, 2, 3] rfl)
  exact L_3 F p3 v hq_3 _ _ hP hD hS _ (lv_sub hl [0, 1, 2, 4] rfl)
