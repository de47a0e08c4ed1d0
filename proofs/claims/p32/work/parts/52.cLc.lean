set_option maxHeartbeats 4000000 in
set_option maxRecDepth 100000 in
theorem c_L_find (l : Launch) (dC : Nat → ClassId) (dI : Nat → Nat → Nat) (cI : ClassId) (a : Nat) (N : Nat) (v : Nat → Int32) (F : Nat) (p2 : Int32) (p3 : Int32) (r : Int32) (hm : L_find F N v p2 p3 = some r) : Met l yL_find wsL_find ({ frames := 0, cells := 0, slots := 0, locals := 0 }) (va_Pc [.ref a, .int p2, .int p3] (zR (dC, dI) (w1 cI a N v) [(cI, .int)])) (vp_Si (fun v => v = r)) 0 0 (fun _ => False) := by
  refine Met.ofW (cc := cL_find) (maxL := 5) (ret := (some .int)) (by decide) rfl ?_
  intro p e s m args below meth c s₁ B hml hv
  obtain ⟨rfl, hP, hK⟩ := hv
  have hx := B.exec
  have hb := B.bytes
  have hr := B.returns
  have hts := atoms_spec (ws := wsL_find) B.pre
  have hown : s.vm.findClass RL = some m.cls := findClass_of_methodNamed B.named
  have hlocks := B.notSynchronized
  have hl := lv_entry ([.ref a, .int p2, .int p3]) (n := 5) (Nat.le_of_ble_eq_true rfl)
  rw [lg_entry_eq]
  generalize (lg_sl ([.ref a, .int p2, .int p3]) ++ List.replicate (5 - (lg_sl ([.ref a, .int p2, .int p3])).length) Slot.unset).toArray = ls at hl ⊢
  have hl : lv_has ls 5 [(0, .ref a), (1, .int p2), (2, .int p3)] := hl
  refine lv_iconst (v := (-1)) hx hb dL_find_0 (by decide) ?_
  refine lv_istore_n (lv' := [(3, .int (-1)), (0, .ref a), (1, .int p2), (2, .int p3)]) hx hb dL_find_1 rfl hl (by decide) rfl (fun ls hl => ?_)
  refine lv_iconst (v := 0) hx hb dL_find_2 (by decide) ?_
  refine lv_istore (lv' := [(4, .int 0), (3, .int (-1)), (0, .ref a), (1, .int p2), (2, .int p3)]) hx hb dL_find_3 hl (by decide) rfl (fun ls hl => ?_)
  obtain ⟨z_5, hq_5, hm⟩ := ob hm
  have K_5 : ∀ (x3_1 : Int32), z_5 = x3_1 → ∀ (ls : Array Slot), lv_has ls 5 [(3, .int x3_1)] → W p l e (headSpec wsL_find ({ frames := 0, cells := 0, slots := 0, locals := 0 } : Room)).room s m ([.ref a, .int p2, .int p3] : List Value).toArray below meth c s.heap [] 0 0 (MQ below (vp_Si (fun v => v = r)) ([.ref a, .int p2, .int p3] : List Value).toArray s 0 0 (fun _ => False)) (F0 m 32 ls []) := by
    intro x3_1 ez ls hl
    rw [ez] at hm
    refine lv_iload_n hx hb dL_find_32 rfl (lv_at hl 0 rfl) ?_
    exact W.iret hx hb hr (fun t ht hW => ⟨_, rfl, (o2 hm).symm, ht⟩) (fun q h => absurd h List.not_mem_nil) dL_find_33
  have L_5 : ∀ (n : Nat) (x4 : Int32) (x3 : Int32), L_find_L5 p2 p3 v N n x4 x3 = some z_5 → ∀ (ls : Array Slot), lv_has ls 5 [(4, .int x4), (3, .int x3), (0, .ref a), (1, .int p2), (2, .int p3)] → W p l e (headSpec wsL_find ({ frames := 0, cells := 0, slots := 0, locals := 0 } : Room)).room s m ([.ref a, .int p2, .int p3] : List Value).toArray below meth c s.heap [] 0 0 (MQ below (vp_Si (fun v => v = r)) ([.ref a, .int p2, .int p3] : List Value).toArray s 0 0 (fun _ => False)) (F0 m 5 ls []) := by
    intro n
    induction n with
    | zero => intro x4 x3 hm; cases hm
    | succ n ih_5 =>
      intro x4 x3 hm ls hl
      refine lv_iload hx hb dL_find_5 (lv_at hl 0 rfl) ?_
      refine lv_iload_n hx hb dL_find_7 rfl (lv_at hl 3 rfl) ?_
      refine lv_icmp_ge (tgt := 32) hx hb dL_find_8 (by decide) (fun c_8 => ?_) (fun c_8 => ?_)
      · have hm := it_t hm c_8
        exact K_5 x3 (o2 hm) _ (lv_sub hl [1] rfl)
      · have hm := it_f hm c_8
        refine lv_aload_n hx hb dL_find_11 rfl (lv_at hl 2 rfl) ?_
        refine lv_iload hx hb dL_find_12 (lv_at hl 0 rfl) ?_
        obtain ⟨c_14, hm⟩ := ck hm
        refine va_iald hx hb hK hP 0 0 rfl rfl c_14 dL_find_14 ?_
        refine lv_iload_n hx hb dL_find_15 rfl (lv_at hl 4 rfl) ?_
        refine lv_icmp_ne (tgt := 24) hx hb dL_find_16 (by decide) (fun c_16 => ?_) (fun c_16 => ?_)
        · have hm := it_f hm c_16
          refine lv_iload_n hx hb dL_find_24 rfl (lv_at hl 1 rfl) ?_
          refine lv_istore_n (lv' := [(3, .int x3), (4, .int x4), (0, .ref a), (1, .int p2), (2, .int p3)]) hx hb dL_find_25 rfl hl (by decide) rfl (fun ls hl => ?_)
          obtain ⟨x4_1, e_x4_1⟩ : ∃ y : Int32, y = x4 + 1 := ⟨_, rfl⟩
          have hm := bnd_e hm e_x4_1
          refine lv_iinc (v := x4_1) (lv' := [(4, .int x4_1), (3, .int x3), (0, .ref a), (1, .int p2), (2, .int p3)]) hx hb dL_find_26 hl (k := 1) rfl (by rw [e_x4_1]; rfl) (by decide) rfl (fun ls hl => ?_)
          refine lv_goto (tgt := 5) hx hb dL_find_29 (by decide) ?_
          exact ih_5 x4_1 x3 hm _ (lv_sub hl [0, 1, 2, 3, 4] rfl)
        · have hm := it_t hm c_16
          refine lv_iload hx hb dL_find_19 (lv_at hl 0 rfl) ?_
          refine lv_goto (tgt := 25) hx hb dL_find_21 (by decide) ?_
          refine lv_istore_n (lv' := [(3, .int x4), (4, .int x4), (0, .ref a), (1, .int p2), (2, .int p3)]) hx hb dL_find_25 rfl hl (by decide) rfl (fun ls hl => ?_)
          obtain ⟨x4_2, e_x4_2⟩ : ∃ y : Int32, y = x4 + 1 := ⟨_, rfl⟩
          have hm := bnd_e hm e_x4_2
          refine lv_iinc (v := x4_2) (lv' := [(4, .int x4_2), (3, .int x4), (0, .ref a), (1, .int p2), (2, .int p3)]) hx hb dL_find_26 hl (k := 1) rfl (by rw [e_x4_2]; rfl) (by decide) rfl (fun ls hl => ?_)
          refine lv_goto (tgt := 5) hx hb dL_find_29 (by decide) ?_
          exact ih_5 x4_2 x4 hm _ (lv_sub hl [0, 1, 2, 3, 4] rfl)
  exact L_5 F 0 (-1) hq_5 _ (lv_sub hl [0, 1, 2, 3, 4] rfl)
set_option maxHeartbeats 4000000 in
set_option maxRecDepth 100000 in
theorem c_L_below (l : Launch) (dC : Nat → ClassId) (dI : Nat → Nat → Nat) (cI : ClassId) (aa : Nat → Nat) (vm : Nat → Int32) (vr : Nat → Int32) (vh : Nat → Int32) (vl : Nat → Int32) (vq : Nat → Int32) (F : Nat) (p5 : Int64) (r : Int32) (hm : L_below F vm vr vl vq p5 = some r) : Met l yL_below wsL_below ({ frames := 0, cells := 0, slots := 0, locals := 0 }) (va_Pc [.ref (aa 1), .ref (aa 0), .ref (aa 3), .ref (aa 4), .long p5] (zR (dC, dI) (w5 cI aa vm vr vh vl vq) [(cI, .int)])) (vp_Si (fun v => v = r)) 0 0 (fun _ => False) := by
  refine Met.ofW (cc := cL_below) (maxL := 8) (ret := (some .int)) (by decide) rfl ?_
  intro p e s m args below meth c s₁ B hml hv
  obtain ⟨rfl, hP, hK⟩ := hv
  have hx := B.exec
  have hb := B.bytes
  have hr := B.returns
  have hts := atoms_spec (ws := wsL_below) B.pre
  have hown : s.vm.findClass RL = some m.cls := findClass_of_methodNamed B.named
  have hlocks := B.notSynchronized
  have hl := lv_entry ([.ref (aa 1), .ref (aa 0), .ref (aa 3), .ref (aa 4), .long p5]) (n := 8) (Nat.le_of_ble_eq_true rfl)
  rw [lg_entry_eq]
  generalize (lg_sl ([.ref (aa 1), .ref (aa 0), .ref (aa 3), .ref (aa 4), .long p5]) ++ List.replicate (8 - (lg_sl ([.ref (aa 1), .ref (aa 0), .ref (aa 3), .ref (aa 4), .long p5])).length) Slot.unset).toArray = ls at hl ⊢
  have hl : lv_has ls 8 [(0, .ref (aa 1)), (1, .ref (aa 0)), (2, .ref (aa 3)), (3, .ref (aa 4)), (4, .long p5)] := hl
  refine lv_iconst (v := 0) hx hb dL_below_0 (by decide) ?_
  refine lv_istore (lv' := [(6, .int 0), (0, .ref (aa 1)), (1, .ref (aa 0)), (2, .ref (aa 3)), (3, .ref (aa 4)), (4, .long p5)]) hx hb dL_below_1 hl (by decide) rfl (fun ls hl => ?_)
  refine lv_iconst (v := 0) hx hb dL_below_3 (by decide) ?_
  refine lv_istore (lv' := [(7, .int 0), (6, .int 0), (0, .ref (aa 1)), (1, .ref (aa 0)), (2, .ref (aa 3)), (3, .ref (aa 4)), (4, .long p5)]) hx hb dL_below_4 hl (by decide) rfl (fun ls hl => ?_)
  obtain ⟨z_6, hq_6, hm⟩ := ob hm
  have K_6 : ∀ (x6_4 : Int32), z_6 = x6_4 → ∀ (ls : Array Slot), lv_has ls 8 [(6, .int x6_4), (2, .ref (aa 3)), (3, .ref (aa 4)), (4, .long p5)] → W p l e (headSpec wsL_below ({ frames := 0, cells := 0, slots := 0, locals := 0 } : Room)).room s m ([.ref (aa 1), .ref (aa 0), .ref (aa 3), .ref (aa 4), .long p5] : List Value).toArray below meth c s.heap [] 0 0 (MQ below (vp_Si (fun v => v = r)) ([.ref (aa 1), .ref (aa 0), .ref (aa 3), .ref (aa 4), .long p5] : List Value).toArray s 0 0 (fun _ => False)) (F0 m 48 ls []) := by
    intro x6_4 ez ls hl
    rw [ez] at hm
    refine lv_iconst (v := 0) hx hb dL_below_48 (by decide) ?_
    refine lv_istore (lv' := [(7, .int 0), (6, .int x6_4), (2, .ref (aa 3)), (3, .ref (aa 4)), (4, .long p5)]) hx hb dL_below_49 hl (by decide) rfl (fun ls hl => ?_)
    obtain ⟨z_51, hq_51, hm⟩ := ob hm
    have K_51 : ∀ (x6_8 : Int32), z_51 = x6_8 → ∀ (ls : Array Slot), lv_has ls 8 [(6, .int x6_8)] → W p l e (headSpec wsL_below ({ frames := 0, cells := 0, slots := 0, locals := 0 } : Room)).room s m ([.ref (aa 1), .ref (aa 0), .ref (aa 3), .ref (aa 4), .long p5] : List Value).toArray below meth c s.heap [] 0 0 (MQ below (vp_Si (fun v => v = r)) ([.ref (aa 1), .ref (aa 0), .ref (aa 3), .ref (aa 4), .long p5] : List Value).toArray s 0 0 (fun _ => False)) (F0 m 86 ls []) := by
      intro x6_8 ez ls hl
      rw [ez] at hm
      refine lv_iload hx hb dL_below_86 (lv_at hl 0 rfl) ?_
      exact W.iret hx hb hr (fun t ht hW => ⟨_, rfl, (o2 hm).symm, ht⟩) (fun q h => absurd h List.not_mem_nil) dL_below_88
    have L_51 : ∀ (n : Nat) (x7_4 : Int32) (x6_5 : Int32), L_below_L51 p5 vl vq n x7_4 x6_5 = some z_51 → ∀ (ls : Array Slot), lv_has ls 8 [(7, .int x7_4), (6, .int x6_5), (2, .ref (aa 3)), (3, .ref (aa 4)), (4, .long p5)] → W p l e (headSpec wsL_below ({ frames := 0, cells := 0, slots := 0, locals := 0 } : Room)).room s m ([.ref (aa 1), .ref (aa 0), .ref (aa 3), .ref (aa 4), .long p5] : List Value).toArray below meth c s.heap [] 0 0 (MQ below (vp_Si (fun v => v = r)) ([.ref (aa 1), .ref (aa 0), .ref (aa 3), .ref (aa 4), .long p5] : List Value).toArray s 0 0 (fun _ => False)) (F0 m 51 ls []) := by
      intro n
      induction n with
      | zero => intro x7_4 x6_5 hm; cases hm
      | succ n ih_51 =>
        intro x7_4 x6_5 hm ls hl
        refine lv_iload hx hb dL_below_51 (lv_at hl 0 rfl) ?_
        refine lv_aload_n hx hb dL_below_53 rfl (lv_at hl 3 rfl) ?_
        refine lv_iconst (v := 1) hx hb dL_below_54 (by decide) ?_
        obtain ⟨c_55, hm⟩ := ck hm
        refine va_iald hx hb hK hP 4 0 rfl rfl c_55 dL_below_55 ?_
        refine lv_icmp_ge (tgt := 86) hx hb dL_below_56 (by decide) (fun c_56 => ?_) (fun c_56 => ?_)
        · have hm := it_t hm c_56
          exact K_51 x6_5 (o2 hm) _ (lv_sub hl [1] rfl)
        · have hm := it_f hm c_56
          refine lv_iload hx hb dL_below_59 (lv_at hl 1 rfl) ?_
          refine lv_aload_n hx hb dL_below_61 rfl (lv_at hl 2 rfl) ?_
          refine lv_iload hx hb dL_below_62 (lv_at hl 0 rfl) ?_
          obtain ⟨c_64, hm⟩ := ck hm
          refine va_iald hx hb hK hP 3 0 rfl rfl c_64 dL_below_64 ?_
          refine lv_i2l hx hb dL_below_65 rfl ?_
          refine lv_lload hx hb dL_below_66 (lv_at hl 4 rfl) ?_
          refine W.lcmp hx hb dL_below_68 ?_
          refine lv_if_ge (tgt := 76) hx hb dL_below_69 (by decide) (fun c_69 => ?_) (fun c_69 => ?_)
          · have c_69 : p5 ≤ (Int32.toInt64 (vl (Int32.toNatClampNeg x7_4))) := (lg_cmp_ge _ _).mp c_69
            have hm := it_t hm c_69
            refine lv_iconst (v := 0) hx hb dL_below_76 (by decide) ?_
            refine lv_iadd hx hb dL_below_77 ?_
            refine lv_topi (fun x6_6 e_x6_6 => ?_)
            have hm := bnd_e hm e_x6_6
            refine lv_istore (lv' := [(6, .int x6_6), (7, .int x7_4), (2, .ref (aa 3)), (3, .ref (aa 4)), (4, .long p5)]) hx hb dL_below_78 hl (by decide) rfl (fun ls hl => ?_)
            obtain ⟨x7_5, e_x7_5⟩ : ∃ y : Int32, y = x7_4 + 1 := ⟨_, rfl⟩
            have hm := bnd_e hm e_x7_5
            refine lv_iinc (v := x7_5) (lv' := [(7, .int x7_5), (6, .int x6_6), (2, .ref (aa 3)), (3, .ref (aa 4)), (4, .long p5)]) hx hb dL_below_80 hl (k := 1) rfl (by rw [e_x7_5]; rfl) (by decide) rfl (fun ls hl => ?_)
            refine lv_goto (tgt := 51) hx hb dL_below_83 (by decide) ?_
            exact ih_51 x7_5 x6_6 hm _ (lv_sub hl [0, 1, 2, 3, 4] rfl)
          · have c_69 : ¬ (p5 ≤ (Int32.toInt64 (vl (Int32.toNatClampNeg x7_4)))) := fun h => c_69 ((lg_cmp_ge _ _).mpr h)
            have hm := it_f hm c_69
            refine lv_iconst (v := 1) hx hb dL_below_72 (by decide) ?_
            refine lv_goto (tgt := 77) hx hb dL_below_73 (by decide) ?_
            refine lv_iadd hx hb dL_below_77 ?_
            refine lv_topi (fun x6_7 e_x6_7 => ?_)
            have hm := bnd_e hm e_x6_7
            refine lv_istore (lv' := [(6, .int x6_7), (7, .int x7_4), (2, .ref (aa 3)), (3, .ref (aa 4)), (4, .long p5)]) hx hb dL_below_78 hl (by decide) rfl (fun ls hl => ?_)
            obtain ⟨x7_6, e_x7_6⟩ : ∃ y : Int32, y = x7_4 + 1 := ⟨_, rfl⟩
            have hm := bnd_e hm e_x7_6
            refine lv_iinc (v := x7_6) (lv' := [(7, .int x7_6), (6, .int x6_7), (2, .ref (aa 3)), (3, .ref (aa 4)), (4, .long p5)]) hx hb dL_below_80 hl (k := 1) rfl (by rw [e_x7_6]; rfl) (by decide) rfl (fun ls hl => ?_)
            refine lv_goto (tgt := 51) hx hb dL_below_83 (by decide) ?_
            exact ih_51 x7_6 x6_7 hm _ (lv_sub hl [0, 1, 2, 3, 4] rfl)
    exact L_51 F 0 x6_4 hq_51 _ (lv_sub hl [0, 1, 2, 3, 4] rfl)
  have L_6 : ∀ (n : Nat) (x7 : Int32) (x6 : Int32), L_below_L6 p5 vm vr vq n x7 x6 = some z_6 → ∀ (ls : Array Slot), lv_has ls 8 [(7, .int x7), (6, .int x6), (0, .ref (aa 1)), (1, .ref (aa 0)), (2, .ref (aa 3)), (3, .ref (aa 4)), (4, .long p5)] → W p l e (headSpec wsL_below ({ frames := 0, cells := 0, slots := 0, locals := 0 } : Room)).room s m ([.ref (aa 1), .ref (aa 0), .ref (aa 3), .ref (aa 4), .long p5] : List Value).toArray below meth c s.heap [] 0 0 (MQ below (vp_Si (fun v => v = r)) ([.ref (aa 1), .ref (aa 0), .ref (aa 3), .ref (aa 4), .long p5] : List Value).toArray s 0 0 (fun _ => False)) (F0 m 6 ls []) := by
    intro n
    induction n with
    | zero => intro x7 x6 hm; cases hm
    | succ n ih_6 =>
      intro x7 x6 hm ls hl
      refine lv_iload hx hb dL_below_6 (lv_at hl 0 rfl) ?_
      refine lv_aload_n hx hb dL_below_8 rfl (lv_at hl 5 rfl) ?_
      refine lv_iconst (v := 0) hx hb dL_below_9 (by decide) ?_
      obtain ⟨c_10, hm⟩ := ck hm
      refine va_iald hx hb hK hP 4 0 rfl rfl c_10 dL_below_10 ?_
      refine lv_icmp_ge (tgt := 48) hx hb dL_below_11 (by decide) (fun c_11 => ?_) (fun c_11 => ?_)
      · have hm := it_t hm c_11
        exact K_6 x6 (o2 hm) _ (lv_sub hl [1, 4, 5, 6] rfl)
      · have hm := it_f hm c_11
        refine lv_iload hx hb dL_below_14 (lv_at hl 1 rfl) ?_
        refine lv_aload_n hx hb dL_below_16 rfl (lv_at hl 3 rfl) ?_
        refine lv_iload hx hb dL_below_17 (lv_at hl 0 rfl) ?_
        obtain ⟨c_19, hm⟩ := ck hm
        refine va_iald hx hb hK hP 0 0 rfl rfl c_19 dL_below_19 ?_
        refine lv_if_ne (tgt := 38) hx hb dL_below_20 (by decide) (fun c_20 => ?_) (fun c_20 => ?_)
        · have hm := it_f hm c_20
          refine lv_iconst (v := 0) hx hb dL_below_38 (by decide) ?_
          refine lv_iadd hx hb dL_below_39 ?_
          refine lv_topi (fun x6_1 e_x6_1 => ?_)
          have hm := bnd_e hm e_x6_1
          refine lv_istore (lv' := [(6, .int x6_1), (7, .int x7), (0, .ref (aa 1)), (1, .ref (aa 0)), (2, .ref (aa 3)), (3, .ref (aa 4)), (4, .long p5)]) hx hb dL_below_40 hl (by decide) rfl (fun ls hl => ?_)
          obtain ⟨x7_1, e_x7_1⟩ : ∃ y : Int32, y = x7 + 1 := ⟨_, rfl⟩
          have hm := bnd_e hm e_x7_1
          refine lv_iinc (v := x7_1) (lv' := [(7, .int x7_1), (6, .int x6_1), (0, .ref (aa 1)), (1, .ref (aa 0)), (2, .ref (aa 3)), (3, .ref (aa 4)), (4, .long p5)]) hx hb dL_below_42 hl (k := 1) rfl (by rw [e_x7_1]; rfl) (by decide) rfl (fun ls hl => ?_)
          refine lv_goto (tgt := 6) hx hb dL_below_45 (by decide) ?_
          exact ih_6 x7_1 x6_1 hm _ (lv_sub hl [0, 1, 2, 3, 4, 5, 6] rfl)
        · have hm := it_t hm c_20
          refine lv_aload_n hx hb dL_below_23 rfl (lv_at hl 2 rfl) ?_
          refine lv_iload hx hb dL_below_24 (lv_at hl 0 rfl) ?_
          obtain ⟨c_26, hm⟩ := ck hm
          refine va_iald hx hb hK hP 1 0 rfl rfl c_26 dL_below_26 ?_
          refine lv_i2l hx hb dL_below_27 rfl ?_
          refine lv_lload hx hb dL_below_28 (lv_at hl 6 rfl) ?_
          refine W.lcmp hx hb dL_below_30 ?_
          refine lv_if_ge (tgt := 38) hx hb dL_below_31 (by decide) (fun c_31 => ?_) (fun c_31 => ?_)
          · have c_31 : p5 ≤ (Int32.toInt64 (vr (Int32.toNatClampNeg x7))) := (lg_cmp_ge _ _).mp c_31
            have hm := it_t hm c_31
            refine lv_iconst (v := 0) hx hb dL_below_38 (by decide) ?_
            refine lv_iadd hx hb dL_below_39 ?_
            refine lv_topi (fun x6_2 e_x6_2 => ?_)
            have hm := bnd_e hm e_x6_2
            refine lv_istore (lv' := [(6, .int x6_2), (7, .int x7), (0, .ref (aa 1)), (1, .ref (aa 0)), (2, .ref (aa 3)), (3, .ref (aa 4)), (4, .long p5)]) hx hb dL_below_40 hl (by decide) rfl (fun ls hl => ?_)
            obtain ⟨x7_2, e_x7_2⟩ : ∃ y : Int32, y = x7 + 1 := ⟨_, rfl⟩
            have hm := bnd_e hm e_x7_2
            refine lv_iinc (v := x7_2) (lv' := [(7, .int x7_2), (6, .int x6_2), (0, .ref (aa 1)), (1, .ref (aa 0)), (2, .ref (aa 3)), (3, .ref (aa 4)), (4, .long p5)]) hx hb dL_below_42 hl (k := 1) rfl (by rw [e_x7_2]; rfl) (by decide) rfl (fun ls hl => ?_)
            refine lv_goto (tgt := 6) hx hb dL_below_45 (by decide) ?_
            exact ih_6 x7_2 x6_2 hm _ (lv_sub hl [0, 1, 2, 3, 4, 5, 6] rfl)
          · have c_31 : ¬ (p5 ≤ (Int32.toInt64 (vr (Int32.toNatClampNeg x7)))) := fun h => c_31 ((lg_cmp_ge _ _).mpr h)
            have hm := it_f hm c_31
            refine lv_iconst (v := 1) hx hb dL_below_34 (by decide) ?_
            refine lv_goto (tgt := 39) hx hb dL_below_35 (by decide) ?_
            refine lv_iadd hx hb dL_below_39 ?_
            refine lv_topi (fun x6_3 e_x6_3 => ?_)
            have hm := bnd_e hm e_x6_3
            refine lv_istore (lv' := [(6, .int x6_3), (7, .int x7), (0, .ref (aa 1)), (1, .ref (aa 0)), (2, .ref (aa 3)), (3, .ref (aa 4)), (4, .long p5)]) hx hb dL_below_40 hl (by decide) rfl (fun ls hl => ?_)
            obtain ⟨x7_3, e_x7_3⟩ : ∃ y : Int32, y = x7 + 1 := ⟨_, rfl⟩
            have hm := bnd_e hm e_x7_3
            refine lv_iinc (v := x7_3) (lv' := [(7, .int x7_3), (6, .int x6_3), (0, .ref (aa 1)), (1, .ref (aa 0)), (2, .ref (aa 3)), (3, .ref (aa 4)), (4, .long p5)]) hx hb dL_below_42 hl (k := 1) rfl (by rw [e_x7_3]; rfl) (by decide) rfl (fun ls hl => ?_)
            refine lv_goto (tgt := 6) hx hb dL_below_45 (by decide) ?_
            exact ih_6 x7_3 x6_3 hm _ (lv_sub hl [0, 1, 2, 3, 4, 5, 6] rfl)
  exact L_6 F 0 0 hq_6 _ (lv_sub hl [0, 1, 2, 3, 4, 5, 6] rfl)
