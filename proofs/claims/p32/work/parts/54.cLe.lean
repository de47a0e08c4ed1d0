set_option maxHeartbeats 4000000 in
set_option maxRecDepth 100000 in
theorem c_L_guess (l : Launch) (dC : Nat → ClassId) (dI : Nat → Nat → Nat) (cI : ClassId) (a : Nat) (N : Nat) (v : Nat → Int32) (F : Nat) (p1 : Int32) (p3 : Int32) (p4 : Int32) (p5 : Int32) (r : Int64) (hm : L_guess F N v p1 p3 p4 p5 = some r) : Met l yL_guess wsL_guess ({ frames := 1, cells := 0, slots := 0, locals := 27 }) (va_Pc [.int p1, .ref a, .int p3, .int p4, .int p5] (zR (dC, dI) (w1 cI a N v) [(cI, .int)])) (vp_Sl (fun v => v = r)) 0 0 (fun _ => False) := by
  refine Met.ofW (cc := cL_guess) (maxL := 6) (ret := (some .long)) (by decide) rfl ?_
  intro p e s m args below meth c s₁ B hml hv
  obtain ⟨rfl, hP, hK⟩ := hv
  have hx := B.exec
  have hb := B.bytes
  have hr := B.returns
  have hts := atoms_spec (ws := wsL_guess) B.pre
  have hown : s.vm.findClass RL = some m.cls := findClass_of_methodNamed B.named
  have hlocks := B.notSynchronized
  have hl := lv_entry ([.int p1, .ref a, .int p3, .int p4, .int p5]) (n := 6) (Nat.le_of_ble_eq_true rfl)
  rw [lg_entry_eq]
  generalize (lg_sl ([.int p1, .ref a, .int p3, .int p4, .int p5]) ++ List.replicate (6 - (lg_sl ([.int p1, .ref a, .int p3, .int p4, .int p5])).length) Slot.unset).toArray = ls at hl ⊢
  have hl : lv_has ls 6 [(0, .int p1), (1, .ref a), (2, .int p3), (3, .int p4), (4, .int p5)] := hl
  refine lv_aload_n hx hb dL_guess_0 rfl (lv_at hl 1 rfl) ?_
  refine lv_iload_n hx hb dL_guess_1 rfl (lv_at hl 2 rfl) ?_
  refine lv_iload_n hx hb dL_guess_2 rfl (lv_at hl 3 rfl) ?_
  refine lv_iload hx hb dL_guess_3 (lv_at hl 4 rfl) ?_
  obtain ⟨r5, h_5, hm⟩ := ob hm
  refine z_callSi (As := [.ref a, .int p3, .int p4, .int p5]) (rest := []) ⟨hx, hb, hml, hown, hts⟩ (c_L_steepest l dC dI cI a N v F p3 p4 p5 r5 h_5) (va_cwS 4 hts gL_guess_L_steepest rfl rfl rfl ks_L_steepest ⟨Nat.le_of_ble_eq_true rfl, Nat.le_of_ble_eq_true rfl⟩) hK hP rfl hl.1 rfl (Nat.le_of_ble_eq_true rfl) dL_guess_5 ⟨Nat.zero_le _, Nat.zero_le _⟩ ?_
  refine lv_istore (lv' := [(5, .int r5), (0, .int p1), (1, .ref a), (2, .int p3), (3, .int p4), (4, .int p5)]) hx hb dL_guess_8 hl (by decide) rfl (fun ls hl => ?_)
  refine lv_iload hx hb dL_guess_10 (lv_at hl 0 rfl) ?_
  refine lv_iload_n hx hb dL_guess_12 rfl (lv_at hl 3 rfl) ?_
  refine lv_icmp_ne (tgt := 21) hx hb dL_guess_13 (by decide) (fun c_13 => ?_) (fun c_13 => ?_)
  · have hm := it_f hm c_13
    refine lv_iload_n hx hb dL_guess_21 rfl (lv_at hl 3 rfl) ?_
    refine lv_i2l hx hb dL_guess_22 rfl ?_
    refine lv_iload hx hb dL_guess_23 (lv_at hl 0 rfl) ?_
    refine lv_iload_n hx hb dL_guess_25 rfl (lv_at hl 3 rfl) ?_
    refine lv_isub hx hb dL_guess_26 ?_
    refine lv_iload hx hb dL_guess_27 (lv_at hl 5 rfl) ?_
    refine lv_isub hx hb dL_guess_29 ?_
    refine lv_i2l hx hb dL_guess_30 rfl ?_
    refine lv_iload_n hx hb dL_guess_31 rfl (lv_at hl 1 rfl) ?_
    refine lv_aload_n hx hb dL_guess_32 rfl (lv_at hl 2 rfl) ?_
    refine lv_iload_n hx hb dL_guess_33 rfl (lv_at hl 3 rfl) ?_
    obtain ⟨c_34, hm⟩ := ck hm
    refine va_iald hx hb hK hP 0 0 rfl rfl c_34 dL_guess_34 ?_
    refine lv_isub hx hb dL_guess_35 ?_
    refine lv_i2l hx hb dL_guess_36 rfl ?_
    refine lv_lmul hx hb dL_guess_37 ?_
    refine lv_aload_n hx hb dL_guess_38 rfl (lv_at hl 2 rfl) ?_
    refine lv_iload hx hb dL_guess_39 (lv_at hl 0 rfl) ?_
    obtain ⟨c_41, hm⟩ := ck hm
    refine va_iald hx hb hK hP 0 0 rfl rfl c_41 dL_guess_41 ?_
    refine lv_aload_n hx hb dL_guess_42 rfl (lv_at hl 2 rfl) ?_
    refine lv_iload_n hx hb dL_guess_43 rfl (lv_at hl 3 rfl) ?_
    obtain ⟨c_44, hm⟩ := ck hm
    refine va_iald hx hb hK hP 0 0 rfl rfl c_44 dL_guess_44 ?_
    refine lv_isub hx hb dL_guess_45 ?_
    refine lv_i2l hx hb dL_guess_46 rfl ?_
    obtain ⟨c_47, hm⟩ := ck hm
    refine lv_ldiv hx hb dL_guess_47 c_47 ?_
    refine lv_ladd hx hb dL_guess_48 ?_
    exact W.lret hx hb hr (fun t ht hW => ⟨_, rfl, (o2 hm).symm, ht⟩) (fun q h => absurd h List.not_mem_nil) dL_guess_49
  · have hm := it_t hm c_13
    refine lv_iload_n hx hb dL_guess_16 rfl (lv_at hl 3 rfl) ?_
    refine lv_i2l hx hb dL_guess_17 rfl ?_
    refine lv_goto (tgt := 49) hx hb dL_guess_18 (by decide) ?_
    exact W.lret hx hb hr (fun t ht hW => ⟨_, rfl, (o2 hm).symm, ht⟩) (fun q h => absurd h List.not_mem_nil) dL_guess_49
