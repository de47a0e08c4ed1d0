set_option maxHeartbeats 4000000 in
set_option maxRecDepth 100000 in
theorem c_L_keys (l : Launch) (dC : Nat → ClassId) (dI : Nat → Nat → Nat) (cI : ClassId) (aa : Nat → Nat) (ad : Nat → Nat) (vm : Nat → Int32) (vr : Nat → Int32) (vh : Nat → Int32) (vl : Nat → Int32) (vq : Nat → Int32) (zk : zN) (zm : zN) (zb : zN) (zs : zN) (zr : zN) (zu : zN) (zt : zT) (zf : zN) (zg : zN) (zbd : Int32) (zro : Int32) (zmc : Int32) (zmg : Int32) (zsp : Int32) (zjn : Int32) (F : Nat) (p2 : Int32) (p3 : Int32) (sz : Nat) (sa : Nat → Nat) (hl9 : l.stackTraces = false) (r : Int32) (u_zk : zN) (u_zm : zN) (u_zb : zN) (u_zs : zN) (u_zr : zN) (u_zu : zN) (u_zt : zT) (u_zf : zN) (u_zg : zN) (u_zbd : Int32) (u_zro : Int32) (u_zmc : Int32) (u_zmg : Int32) (u_zsp : Int32) (u_zjn : Int32) (hm : L_keys F vm vr vh vl vq zk zm zb zs zr zu zt zf zg zbd zro zmc zmg zsp zjn p2 p3 = some (r, u_zk, u_zm, u_zb, u_zs, u_zr, u_zu, u_zt, u_zf, u_zg, u_zbd, u_zro, u_zmc, u_zmg, u_zsp, u_zjn)) : Met l yL_keys wsL_keys ({ frames := 9, cells := 4, slots := 24, locals := 183 }) (va_Pc [.ref (ad 0), .int p2, .int p3, .ref (aa 1), .ref (aa 0), .ref (aa 2), .ref (aa 3), .ref (aa 4)] (zH (dC, dI) (wQ cI aa ad vm vr vh vl vq zk zm zb zs zr zu zt zf zg zbd zro zmc zmg zsp zjn) [(cI, .int)] sz sa)) (zQi (dC, dI) (wQ cI aa ad vm vr vh vl vq u_zk u_zm u_zb u_zs u_zr u_zu u_zt u_zf u_zg u_zbd u_zro u_zmc u_zmg u_zsp u_zjn) [(cI, .int)] (va_A (wQ cI aa ad vm vr vh vl vq zk zm zb zs zr zu zt zf zg zbd zro zmc zmg zsp zjn) sz) r) 4 24 (va_A (wQ cI aa ad vm vr vh vl vq zk zm zb zs zr zu zt zf zg zbd zro zmc zmg zsp zjn) sz) := by
  refine Met.ofW (cc := cL_keys) (maxL := 24) (ret := (some .boolean)) (by decide) rfl ?_
  intro p e s m args below meth c s₁ B hml hv
  obtain ⟨rfl, ⟨⟨hsz, hP, hK, hD0⟩, hV⟩, hNc⟩ := hv
  have hx := B.exec
  have hb := B.bytes
  have hr := B.returns
  have hts := atoms_spec (ws := wsL_keys) B.pre
  have hown : s.vm.findClass RL = some m.cls := findClass_of_methodNamed B.named
  have hlocks := B.notSynchronized
  subst hsz
  have hD := hD0.self (sz := s.heap.size)
  generalize hAe : va_A (wQ cI aa ad vm vr vh vl vq zk zm zb zs zr zu zt zf zg zbd zro zmc zmg zsp zjn) s.heap.size = A at hD hV ⊢
  have hA : ∀ q : Nat, s.heap.size ≤ q → A q := fun q h => by rw [← hAe]; exact Or.inr h
  have hS : va_S A s.heap s.heap [] := va_S.rf
  generalize eL : ([] : List Loc) = locs at hS ⊢
  obtain ⟨H, eH⟩ : ∃ z : Heap, z = s.heap := ⟨_, rfl⟩
  have hP : va_P (dC, dI) vwCl (wQ cI aa ad vm vr vh vl vq zk zm zb zs zr zu zt zf zg zbd zro zmc zmg zsp zjn) H := by rw [eH]; exact hP
  have hS : va_S A s.heap H locs := by rw [eH]; exact hS
  refine z_heap eH ?_
  have hl := lv_entry ([.ref (ad 0), .int p2, .int p3, .ref (aa 1), .ref (aa 0), .ref (aa 2), .ref (aa 3), .ref (aa 4)]) (n := 24) (Nat.le_of_ble_eq_true rfl)
  rw [lg_entry_eq]
  generalize (lg_sl ([.ref (ad 0), .int p2, .int p3, .ref (aa 1), .ref (aa 0), .ref (aa 2), .ref (aa 3), .ref (aa 4)]) ++ List.replicate (24 - (lg_sl ([.ref (ad 0), .int p2, .int p3, .ref (aa 1), .ref (aa 0), .ref (aa 2), .ref (aa 3), .ref (aa 4)])).length) Slot.unset).toArray = ls at hl ⊢
  have hl : lv_has ls 24 [(0, .ref (ad 0)), (1, .int p2), (2, .int p3), (3, .ref (aa 1)), (4, .ref (aa 0)), (5, .ref (aa 2)), (6, .ref (aa 3)), (7, .ref (aa 4))] := hl
  have zw0 := hts (.constantLong RL 101 (1000001)) (List.mem_cons_of_mem _ (List.mem_append_left _ (List.mem_append_left _ (List.mem_append_left _ (List.mem_append_left _ (List.mem_append_left _ (List.mem_append_left _ (List.mem_append_left _ (List.mem_append_left _ (List.mem_of_getElem? (i := 0) rfl))))))))))
  have zw1 := hts (.constantLong RL 131 (2)) (List.mem_cons_of_mem _ (List.mem_append_left _ (List.mem_append_left _ (List.mem_append_left _ (List.mem_append_left _ (List.mem_append_left _ (List.mem_append_left _ (List.mem_append_left _ (List.mem_append_left _ (List.mem_of_getElem? (i := 2) rfl))))))))))
  have zw2 := hts (.constantLong RL 126 (-1)) (List.mem_cons_of_mem _ (List.mem_append_left _ (List.mem_append_left _ (List.mem_append_left _ (List.mem_append_left _ (List.mem_append_left _ (List.mem_append_left _ (List.mem_append_left _ (List.mem_append_left _ (List.mem_of_getElem? (i := 1) rfl))))))))))
  refine lv_aload_n hx hb dL_keys_0 rfl (lv_at hl 3 rfl) ?_
  refine lv_aload hx hb dL_keys_1 (lv_at hl 4 rfl) ?_
  refine lv_aload hx hb dL_keys_3 (lv_at hl 6 rfl) ?_
  refine lv_aload hx hb dL_keys_5 (lv_at hl 7 rfl) ?_
  refine lv_ldc2 hx hb hown zw0 dL_keys_7 ?_
  obtain ⟨r10, h_10, hm⟩ := ob hm
  refine z_callSi (As := [.ref (aa 1), .ref (aa 0), .ref (aa 3), .ref (aa 4), .long 1000001]) (rest := []) ⟨hx, hb, hml, hown, hts⟩ (c_L_below l dC dI cI aa vm vr vh vl vq F 1000001 r10 h_10) (va_cwS 5 hts gL_keys_L_below rfl rfl rfl ks_L_below ⟨Nat.le_of_ble_eq_true rfl, Nat.le_of_ble_eq_true rfl⟩) hK (z_mid (pjQ_5 cI aa ad vm vr vh vl vq zk zm zb zs zr zu zt zf zg zbd zro zmc zmg zsp zjn vm vr vh vl vq) hP) rfl hl.1 rfl (Nat.le_of_ble_eq_true rfl) dL_keys_10 ⟨Nat.zero_le _, Nat.zero_le _⟩ ?_
  refine lv_istore (lv' := [(8, .int r10), (0, .ref (ad 0)), (1, .int p2), (2, .int p3), (3, .ref (aa 1)), (4, .ref (aa 0)), (5, .ref (aa 2)), (6, .ref (aa 3)), (7, .ref (aa 4))]) hx hb dL_keys_13 hl (by decide) rfl (fun ls hl => ?_)
  refine lv_aload_n hx hb dL_keys_15 rfl (lv_at hl 4 rfl) ?_
  refine lv_aload hx hb dL_keys_16 (lv_at hl 5 rfl) ?_
  refine lv_aload hx hb dL_keys_18 (lv_at hl 7 rfl) ?_
  refine lv_aload hx hb dL_keys_20 (lv_at hl 8 rfl) ?_
  refine lv_iload_n hx hb dL_keys_22 rfl (lv_at hl 2 rfl) ?_
  refine lv_i2l hx hb dL_keys_23 rfl ?_
  obtain ⟨r24, h_24, hm⟩ := ob hm
  refine z_callSi (As := [.ref (aa 1), .ref (aa 0), .ref (aa 3), .ref (aa 4), .long (Int32.toInt64 p2)]) (rest := []) ⟨hx, hb, hml, hown, hts⟩ (c_L_below l dC dI cI aa vm vr vh vl vq F (Int32.toInt64 p2) r24 h_24) (va_cwS 5 hts gL_keys_L_below rfl rfl rfl ks_L_below ⟨Nat.le_of_ble_eq_true rfl, Nat.le_of_ble_eq_true rfl⟩) hK (z_mid (pjQ_5 cI aa ad vm vr vh vl vq zk zm zb zs zr zu zt zf zg zbd zro zmc zmg zsp zjn vm vr vh vl vq) hP) rfl hl.1 rfl (Nat.le_of_ble_eq_true rfl) dL_keys_24 ⟨Nat.zero_le _, Nat.zero_le _⟩ ?_
  refine lv_istore (lv' := [(9, .int r24), (8, .int r10), (0, .ref (ad 0)), (1, .int p2), (2, .int p3), (3, .ref (aa 1)), (4, .ref (aa 0)), (5, .ref (aa 2)), (6, .ref (aa 3)), (7, .ref (aa 4))]) hx hb dL_keys_27 hl (by decide) rfl (fun ls hl => ?_)
  refine lv_aload_n hx hb dL_keys_29 rfl (lv_at hl 5 rfl) ?_
  refine lv_aload hx hb dL_keys_30 (lv_at hl 9 rfl) ?_
  refine lv_iconst (v := 0) hx hb dL_keys_32 (by decide) ?_
  obtain ⟨c_33, hm⟩ := ck hm
  refine va_iald hx hb hK hP 4 0 rfl rfl c_33 dL_keys_33 ?_
  refine lv_iload_n hx hb dL_keys_34 rfl (lv_at hl 3 rfl) ?_
  obtain ⟨r35, h_35, hm⟩ := ob hm
  refine z_callSi (As := [.ref (aa 1), .int (vq (Int32.toNatClampNeg 0)), .int p2]) (rest := []) ⟨hx, hb, hml, hown, hts⟩ (c_L_find l dC dI cI (aa 1) 64 vr F (vq (Int32.toNatClampNeg 0)) p2 r35 h_35) (va_cwS 3 hts gL_keys_L_find rfl rfl rfl ks_L_find ⟨Nat.le_of_ble_eq_true rfl, Nat.le_of_ble_eq_true rfl⟩) hK (z_mid (pjQ_1vr cI aa ad vm vr vh vl vq zk zm zb zs zr zu zt zf zg zbd zro zmc zmg zsp zjn vr) hP) rfl hl.1 rfl (Nat.le_of_ble_eq_true rfl) dL_keys_35 ⟨Nat.zero_le _, Nat.zero_le _⟩ ?_
  refine lv_istore (lv' := [(10, .int r35), (9, .int r24), (8, .int r10), (0, .ref (ad 0)), (1, .int p2), (2, .int p3), (3, .ref (aa 1)), (4, .ref (aa 0)), (5, .ref (aa 2)), (6, .ref (aa 3)), (7, .ref (aa 4))]) hx hb dL_keys_38 hl (by decide) rfl (fun ls hl => ?_)
  refine lv_iconst (v := 0) hx hb dL_keys_40 (by decide) ?_
  refine lv_istore (lv' := [(11, .int 0), (10, .int r35), (9, .int r24), (8, .int r10), (0, .ref (ad 0)), (1, .int p2), (2, .int p3), (3, .ref (aa 1)), (4, .ref (aa 0)), (5, .ref (aa 2)), (6, .ref (aa 3)), (7, .ref (aa 4))]) hx hb dL_keys_41 hl (by decide) rfl (fun ls hl => ?_)
  obtain ⟨z_43, hq_43, hm⟩ := ob hm
  have K_43 : ∀ (x11_2 : Int32), z_43 = x11_2 → ∀ (ls : Array Slot), lv_has ls 24 [(11, .int x11_2), (10, .int r35), (9, .int r24), (8, .int r10), (0, .ref (ad 0)), (1, .int p2), (2, .int p3), (3, .ref (aa 1)), (4, .ref (aa 0)), (5, .ref (aa 2)), (6, .ref (aa 3)), (7, .ref (aa 4))] → W p l e (headSpec wsL_keys ({ frames := 9, cells := 4, slots := 24, locals := 183 } : Room)).room s m ([.ref (ad 0), .int p2, .int p3, .ref (aa 1), .ref (aa 0), .ref (aa 2), .ref (aa 3), .ref (aa 4)] : List Value).toArray below meth c H locs 0 0 (MQ below (zQi (dC, dI) (wQ cI aa ad vm vr vh vl vq u_zk u_zm u_zb u_zs u_zr u_zu u_zt u_zf u_zg u_zbd u_zro u_zmc u_zmg u_zsp u_zjn) [(cI, .int)] A r) ([.ref (ad 0), .int p2, .int p3, .ref (aa 1), .ref (aa 0), .ref (aa 2), .ref (aa 3), .ref (aa 4)] : List Value).toArray s 4 24 A) (F0 m 66 ls []) := by
    intro x11_2 ez ls hl
    rw [ez] at hm
    refine lv_iload hx hb dL_keys_66 (lv_at hl 1 rfl) ?_
    obtain ⟨z_97, hq_97, hm⟩ := ob hm
    have J_97 : ∀ (y97 : Int32), z_97 = y97 → W p l e (headSpec wsL_keys ({ frames := 9, cells := 4, slots := 24, locals := 183 } : Room)).room s m ([.ref (ad 0), .int p2, .int p3, .ref (aa 1), .ref (aa 0), .ref (aa 2), .ref (aa 3), .ref (aa 4)] : List Value).toArray below meth c H locs 0 0 (MQ below (zQi (dC, dI) (wQ cI aa ad vm vr vh vl vq u_zk u_zm u_zb u_zs u_zr u_zu u_zt u_zf u_zg u_zbd u_zro u_zmc u_zmg u_zsp u_zjn) [(cI, .int)] A r) ([.ref (ad 0), .int p2, .int p3, .ref (aa 1), .ref (aa 0), .ref (aa 2), .ref (aa 3), .ref (aa 4)] : List Value).toArray s 4 24 A) (F0 m 97 ls [.int y97]) := by
      intro y97 ez
      rw [ez] at hm
      refine lv_istore (lv' := [(12, .int y97), (11, .int x11_2), (10, .int r35), (9, .int r24), (8, .int r10), (0, .ref (ad 0)), (1, .int p2), (2, .int p3), (3, .ref (aa 1)), (4, .ref (aa 0)), (5, .ref (aa 2)), (6, .ref (aa 3)), (7, .ref (aa 4))]) hx hb dL_keys_97 hl (by decide) rfl (fun ls hl => ?_)
      refine lv_iload_n hx hb dL_keys_99 rfl (lv_at hl 6 rfl) ?_
      refine lv_iload_n hx hb dL_keys_100 rfl (lv_at hl 7 rfl) ?_
      obtain ⟨z_125, hq_125, hm⟩ := ob hm
      have J_125 : ∀ (y125 : Int32), z_125 = y125 → W p l e (headSpec wsL_keys ({ frames := 9, cells := 4, slots := 24, locals := 183 } : Room)).room s m ([.ref (ad 0), .int p2, .int p3, .ref (aa 1), .ref (aa 0), .ref (aa 2), .ref (aa 3), .ref (aa 4)] : List Value).toArray below meth c H locs 0 0 (MQ below (zQi (dC, dI) (wQ cI aa ad vm vr vh vl vq u_zk u_zm u_zb u_zs u_zr u_zu u_zt u_zf u_zg u_zbd u_zro u_zmc u_zmg u_zsp u_zjn) [(cI, .int)] A r) ([.ref (ad 0), .int p2, .int p3, .ref (aa 1), .ref (aa 0), .ref (aa 2), .ref (aa 3), .ref (aa 4)] : List Value).toArray s 4 24 A) (F0 m 125 ls [.int y125]) := by
        intro y125 ez
        rw [ez] at hm
        refine lv_istore (lv' := [(13, .int y125), (12, .int y97), (11, .int x11_2), (10, .int r35), (9, .int r24), (8, .int r10), (0, .ref (ad 0)), (1, .int p2), (2, .int p3), (3, .ref (aa 1)), (4, .ref (aa 0)), (5, .ref (aa 2)), (6, .ref (aa 3)), (7, .ref (aa 4))]) hx hb dL_keys_125 hl (by decide) rfl (fun ls hl => ?_)
        refine lv_aload_n hx hb dL_keys_127 rfl (lv_at hl 6 rfl) ?_
        obtain ⟨r128, h_128, hm⟩ := ob hm
        refine z_callRi (As := []) (rest := []) (ci := 2) (q := (RX2, TX2, 15)) ⟨hx, hb, hml, hown, hts⟩ (c_X2_size l dC dI cI ad zk zm zb zs zr zu zt zf zg zbd zro zmc zmg zsp zjn F r128 h_128) (cwV 0 hts gL_keys_X2_size rfl rfl rfl kv_X2_size ⟨Nat.le_of_ble_eq_true rfl, Nat.le_of_ble_eq_true rfl⟩) hK (z_mid (pjQ_L cI aa ad vm vr vh vl vq zk zm zb zs zr zu zt zf zg zbd zro zmc zmg zsp zjn zk zm zb zs zr zu zt zf zg zbd zro zmc zmg zsp zjn) hP) rfl rfl rfl rfl hl.1 rfl (Nat.le_of_ble_eq_true rfl) dL_keys_128 ⟨Nat.zero_le _, Nat.zero_le _⟩ ?_
        refine lv_iload hx hb dL_keys_131 (lv_at hl 5 rfl) ?_
        refine lv_icmp_ne (tgt := 189) hx hb dL_keys_133 (by decide) (fun c_133 => ?_) (fun c_133 => ?_)
        · have hm := it_f hm c_133
          refine lv_iconst (v := 0) hx hb dL_keys_189 (by decide) ?_
          cases o2 hm
          refine W.widen (k := 4) (n := 24) (Nat.le_of_ble_eq_true rfl) (Nat.le_of_ble_eq_true rfl) ?_
          exact W.zret hx hb hr rfl (fun t ht hW => ⟨⟨_, (), rfl, rfl, by rw [ht]; exact hP, va_K.moved hW.alike hK, hD⟩, hS.F ht⟩) hS.2.2 dL_keys_190
        · have hm := it_t hm c_133
          refine lv_aload_n hx hb dL_keys_136 rfl (lv_at hl 6 rfl) ?_
          refine lv_iload_n hx hb dL_keys_137 rfl (lv_at hl 7 rfl) ?_
          obtain ⟨r138, h_138, hm⟩ := ob hm
          refine z_callRi (As := [.int p2]) (rest := []) (ci := 2) (q := (RX2, TX2, 15)) ⟨hx, hb, hml, hown, hts⟩ (c_X2_contains l dC dI cI ad zk zm zb zs zr zu zt zf zg zbd zro zmc zmg zsp zjn F p2 r138 h_138) (cwV 1 hts gL_keys_X2_contains rfl rfl rfl kv_X2_contains ⟨Nat.le_of_ble_eq_true rfl, Nat.le_of_ble_eq_true rfl⟩) hK (z_mid (pjQ_L cI aa ad vm vr vh vl vq zk zm zb zs zr zu zt zf zg zbd zro zmc zmg zsp zjn zk zm zb zs zr zu zt zf zg zbd zro zmc zmg zsp zjn) hP) rfl rfl rfl rfl hl.1 rfl (Nat.le_of_ble_eq_true rfl) dL_keys_138 ⟨Nat.zero_le _, Nat.zero_le _⟩ ?_
          refine lv_iload hx hb dL_keys_141 (lv_at hl 1 rfl) ?_
          refine lv_icmp_ne (tgt := 189) hx hb dL_keys_143 (by decide) (fun c_143 => ?_) (fun c_143 => ?_)
          · have hm := it_f hm c_143
            refine lv_iconst (v := 0) hx hb dL_keys_189 (by decide) ?_
            cases o2 hm
            refine W.widen (k := 4) (n := 24) (Nat.le_of_ble_eq_true rfl) (Nat.le_of_ble_eq_true rfl) ?_
            exact W.zret hx hb hr rfl (fun t ht hW => ⟨⟨_, (), rfl, rfl, by rw [ht]; exact hP, va_K.moved hW.alike hK, hD⟩, hS.F ht⟩) hS.2.2 dL_keys_190
          · have hm := it_t hm c_143
            refine lv_aload_n hx hb dL_keys_146 rfl (lv_at hl 6 rfl) ?_
            refine lv_iload_n hx hb dL_keys_147 rfl (lv_at hl 7 rfl) ?_
            obtain ⟨r148, h_148, hm⟩ := ob hm
            refine z_callRi (As := [.int p2]) (rest := []) (ci := 2) (q := (RX2, TX2, 15)) ⟨hx, hb, hml, hown, hts⟩ (c_X2_rank l dC dI cI ad zk zm zb zs zr zu zt zf zg zbd zro zmc zmg zsp zjn F p2 r148 h_148) (cwV 1 hts gL_keys_X2_rank rfl rfl rfl kv_X2_rank ⟨Nat.le_of_ble_eq_true rfl, Nat.le_of_ble_eq_true rfl⟩) hK (z_mid (pjQ_L cI aa ad vm vr vh vl vq zk zm zb zs zr zu zt zf zg zbd zro zmc zmg zsp zjn zk zm zb zs zr zu zt zf zg zbd zro zmc zmg zsp zjn) hP) rfl rfl rfl rfl hl.1 rfl (Nat.le_of_ble_eq_true rfl) dL_keys_148 ⟨Nat.zero_le _, Nat.zero_le _⟩ ?_
            refine lv_iload hx hb dL_keys_151 (lv_at hl 4 rfl) ?_
            refine lv_icmp_ne (tgt := 189) hx hb dL_keys_153 (by decide) (fun c_153 => ?_) (fun c_153 => ?_)
            · have hm := it_f hm c_153
              refine lv_iconst (v := 0) hx hb dL_keys_189 (by decide) ?_
              cases o2 hm
              refine W.widen (k := 4) (n := 24) (Nat.le_of_ble_eq_true rfl) (Nat.le_of_ble_eq_true rfl) ?_
              exact W.zret hx hb hr rfl (fun t ht hW => ⟨⟨_, (), rfl, rfl, by rw [ht]; exact hP, va_K.moved hW.alike hK, hD⟩, hS.F ht⟩) hS.2.2 dL_keys_190
            · have hm := it_t hm c_153
              refine lv_aload_n hx hb dL_keys_156 rfl (lv_at hl 6 rfl) ?_
              refine lv_iload_n hx hb dL_keys_157 rfl (lv_at hl 7 rfl) ?_
              obtain ⟨r158, h_158, hm⟩ := ob hm
              refine z_callRi (As := [.int p2]) (rest := []) (ci := 2) (q := (RX2, TX2, 15)) ⟨hx, hb, hml, hown, hts⟩ (c_X2_place l dC dI cI ad zk zm zb zs zr zu zt zf zg zbd zro zmc zmg zsp zjn F p2 r158 h_158) (cwV 1 hts gL_keys_X2_place rfl rfl rfl kv_X2_place ⟨Nat.le_of_ble_eq_true rfl, Nat.le_of_ble_eq_true rfl⟩) hK (z_mid (pjQ_L cI aa ad vm vr vh vl vq zk zm zb zs zr zu zt zf zg zbd zro zmc zmg zsp zjn zk zm zb zs zr zu zt zf zg zbd zro zmc zmg zsp zjn) hP) rfl rfl rfl rfl hl.1 rfl (Nat.le_of_ble_eq_true rfl) dL_keys_158 ⟨Nat.zero_le _, Nat.zero_le _⟩ ?_
              refine lv_iload hx hb dL_keys_161 (lv_at hl 2 rfl) ?_
              refine lv_icmp_ne (tgt := 189) hx hb dL_keys_163 (by decide) (fun c_163 => ?_) (fun c_163 => ?_)
              · have hm := it_f hm c_163
                refine lv_iconst (v := 0) hx hb dL_keys_189 (by decide) ?_
                cases o2 hm
                refine W.widen (k := 4) (n := 24) (Nat.le_of_ble_eq_true rfl) (Nat.le_of_ble_eq_true rfl) ?_
                exact W.zret hx hb hr rfl (fun t ht hW => ⟨⟨_, (), rfl, rfl, by rw [ht]; exact hP, va_K.moved hW.alike hK, hD⟩, hS.F ht⟩) hS.2.2 dL_keys_190
              · have hm := it_t hm c_163
                refine lv_aload_n hx hb dL_keys_166 rfl (lv_at hl 6 rfl) ?_
                refine lv_iload_n hx hb dL_keys_167 rfl (lv_at hl 7 rfl) ?_
                refine lv_iload_n hx hb dL_keys_168 rfl (lv_at hl 8 rfl) ?_
                obtain ⟨r169, h_169, hm⟩ := ob hm
                refine z_callRi (As := [.int p2, .int p3]) (rest := []) (ci := 2) (q := (RX2, TX2, 15)) ⟨hx, hb, hml, hown, hts⟩ (c_X2_count l dC dI cI ad zk zm zb zs zr zu zt zf zg zbd zro zmc zmg zsp zjn F p2 p3 r169 h_169) (cwV 2 hts gL_keys_X2_count rfl rfl rfl kv_X2_count ⟨Nat.le_of_ble_eq_true rfl, Nat.le_of_ble_eq_true rfl⟩) hK (z_mid (pjQ_L cI aa ad vm vr vh vl vq zk zm zb zs zr zu zt zf zg zbd zro zmc zmg zsp zjn zk zm zb zs zr zu zt zf zg zbd zro zmc zmg zsp zjn) hP) rfl rfl rfl rfl hl.1 rfl (Nat.le_of_ble_eq_true rfl) dL_keys_169 ⟨Nat.zero_le _, Nat.zero_le _⟩ ?_
                refine lv_iload hx hb dL_keys_172 (lv_at hl 0 rfl) ?_
                refine lv_icmp_ne (tgt := 189) hx hb dL_keys_174 (by decide) (fun c_174 => ?_) (fun c_174 => ?_)
                · have hm := it_f hm c_174
                  refine lv_iconst (v := 0) hx hb dL_keys_189 (by decide) ?_
                  cases o2 hm
                  refine W.widen (k := 4) (n := 24) (Nat.le_of_ble_eq_true rfl) (Nat.le_of_ble_eq_true rfl) ?_
                  exact W.zret hx hb hr rfl (fun t ht hW => ⟨⟨_, (), rfl, rfl, by rw [ht]; exact hP, va_K.moved hW.alike hK, hD⟩, hS.F ht⟩) hS.2.2 dL_keys_190
                · have hm := it_t hm c_174
                  refine lv_aload_n hx hb dL_keys_177 rfl (lv_at hl 6 rfl) ?_
                  refine lv_iconst (v := 3) hx hb dL_keys_178 (by decide) ?_
                  refine lv_iload hx hb dL_keys_179 (lv_at hl 5 rfl) ?_
                  refine lv_iconst (v := 0) hx hb dL_keys_181 (by decide) ?_
                  obtain ⟨⟨r182, zk182, zm182, zb182, zs182, zr182, zu182, zt182, zf182, zg182, zbd182, zro182, zmc182, zmg182, zsp182, zjn182⟩, h_182, hm⟩ := ob hm
                  refine z_hSi (wc := (wL cI ad zk zm zb zs zr zu zt zf zg zbd zro zmc zmg zsp zjn)) (w1 := (wL cI ad zk182 zm182 zb182 zs182 zr182 zu182 zt182 zf182 zg182 zbd182 zro182 zmc182 zmg182 zsp182 zjn182)) (ws := (wQ cI aa ad vm vr vh vl vq zk zm zb zs zr zu zt zf zg zbd zro zmc zmg zsp zjn)) (ws' := (wQ cI aa ad vm vr vh vl vq zk182 zm182 zb182 zs182 zr182 zu182 zt182 zf182 zg182 zbd182 zro182 zmc182 zmg182 zsp182 zjn182)) (As := [.ref (ad 0), .int 3, .int r10, .int 0]) (rest := []) ⟨hx, hb, hml, hown, hts⟩ (c_L_refused l dC dI cI ad zk zm zb zs zr zu zt zf zg zbd zro zmc zmg zsp zjn F 3 r10 0 H.size sa hl9 r182 zk182 zm182 zb182 zs182 zr182 zu182 zt182 zf182 zg182 zbd182 zro182 zmc182 zmg182 zsp182 zjn182 h_182) (vx_cwSW 4 hts gL_keys_L_refused rfl rfl rfl (by decide +kernel) ⟨Nat.le_of_ble_eq_true rfl, Nat.le_of_ble_eq_true rfl⟩) hV hNc hK hP hD hS hA (pjQ_L cI aa ad vm vr vh vl vq zk zm zb zs zr zu zt zf zg zbd zro zmc zmg zsp zjn zk182 zm182 zb182 zs182 zr182 zu182 zt182 zf182 zg182 zbd182 zro182 zmc182 zmg182 zsp182 zjn182) ((paL cI ad zk182 zm182 zb182 zs182 zr182 zu182 zt182 zf182 zg182 zbd182 zro182 zmc182 zmg182 zsp182 zjn182).trans (paL cI ad zk zm zb zs zr zu zt zf zg zbd zro zmc zmg zsp zjn).symm) rfl hl.1 rfl (Nat.le_of_ble_eq_true rfl) dL_keys_182 ⟨Nat.le_of_ble_eq_true rfl, Nat.le_of_ble_eq_true rfl⟩ (fun H locs hP hD hS => ?_)
                  refine lv_iconst (v := 4) hx hb dL_keys_185 (by decide) ?_
                  refine lv_icmp_eq (tgt := 191) hx hb dL_keys_186 (by decide) (fun c_186 => ?_) (fun c_186 => ?_)
                  · have hm := it_t hm c_186
                    refine lv_iload hx hb dL_keys_191 (lv_at hl 4 rfl) ?_
                    refine lv_iload hx hb dL_keys_193 (lv_at hl 5 rfl) ?_
                    obtain ⟨k_253, ek_253, hm⟩ := bnd_x hm
                    have J_253 : ∀ (zkj253 : zN), ∀ (zmj253 : zN), ∀ (zbj253 : zN), ∀ (zsj253 : zN), ∀ (zrj253 : zN), ∀ (zuj253 : zN), ∀ (ztj253 : zT), ∀ (zfj253 : zN), ∀ (zgj253 : zN), ∀ (zbdj253 : Int32), ∀ (zroj253 : Int32), ∀ (zmcj253 : Int32), ∀ (zmgj253 : Int32), ∀ (zspj253 : Int32), ∀ (zjnj253 : Int32), k_253 (zkj253, zmj253, zbj253, zsj253, zrj253, zuj253, ztj253, zfj253, zgj253, zbdj253, zroj253, zmcj253, zmgj253, zspj253, zjnj253) = some (r, u_zk, u_zm, u_zb, u_zs, u_zr, u_zu, u_zt, u_zf, u_zg, u_zbd, u_zro, u_zmc, u_zmg, u_zsp, u_zjn) → ∀ (H : Heap) (locs : List Loc), va_P (dC, dI) vwCl (wQ cI aa ad vm vr vh vl vq zkj253 zmj253 zbj253 zsj253 zrj253 zuj253 ztj253 zfj253 zgj253 zbdj253 zroj253 zmcj253 zmgj253 zspj253 zjnj253) H → va_D A (wQ cI aa ad vm vr vh vl vq zkj253 zmj253 zbj253 zsj253 zrj253 zuj253 ztj253 zfj253 zgj253 zbdj253 zroj253 zmcj253 zmgj253 zspj253 zjnj253) → va_S A s.heap H locs → W p l e (headSpec wsL_keys ({ frames := 9, cells := 4, slots := 24, locals := 183 } : Room)).room s m ([.ref (ad 0), .int p2, .int p3, .ref (aa 1), .ref (aa 0), .ref (aa 2), .ref (aa 3), .ref (aa 4)] : List Value).toArray below meth c H locs 4 24 (MQ below (zQi (dC, dI) (wQ cI aa ad vm vr vh vl vq u_zk u_zm u_zb u_zs u_zr u_zu u_zt u_zf u_zg u_zbd u_zro u_zmc u_zmg u_zsp u_zjn) [(cI, .int)] A r) ([.ref (ad 0), .int p2, .int p3, .ref (aa 1), .ref (aa 0), .ref (aa 2), .ref (aa 3), .ref (aa 4)] : List Value).toArray s 4 24 A) (F0 m 253 ls []) := by
                      intro zkj253 zmj253 zbj253 zsj253 zrj253 zuj253 ztj253 zfj253 zgj253 zbdj253 zroj253 zmcj253 zmgj253 zspj253 zjnj253 hj H locs hP hD hS
                      have hm := (congrFun ek_253 (zkj253, zmj253, zbj253, zsj253, zrj253, zuj253, ztj253, zfj253, zgj253, zbdj253, zroj253, zmcj253, zmgj253, zspj253, zjnj253)).symm.trans hj
                      refine lv_iload hx hb dL_keys_253 (lv_at hl 3 rfl) ?_
                      obtain ⟨y267, e_y267⟩ : ∃ y : Int32, y = (if r35 < 0 then (x11_2 - 1) else x11_2) := ⟨_, rfl⟩
                      have hm := bnd_e hm e_y267
                      have J_267 : W p l e (headSpec wsL_keys ({ frames := 9, cells := 4, slots := 24, locals := 183 } : Room)).room s m ([.ref (ad 0), .int p2, .int p3, .ref (aa 1), .ref (aa 0), .ref (aa 2), .ref (aa 3), .ref (aa 4)] : List Value).toArray below meth c H locs 4 24 (MQ below (zQi (dC, dI) (wQ cI aa ad vm vr vh vl vq u_zk u_zm u_zb u_zs u_zr u_zu u_zt u_zf u_zg u_zbd u_zro u_zmc u_zmg u_zsp u_zjn) [(cI, .int)] A r) ([.ref (ad 0), .int p2, .int p3, .ref (aa 1), .ref (aa 0), .ref (aa 2), .ref (aa 3), .ref (aa 4)] : List Value).toArray s 4 24 A) (F0 m 267 ls [.int y267]) := by
                        refine lv_istore (lv' := [(14, .int y267), (13, .int y125), (12, .int y97), (11, .int x11_2), (10, .int r35), (9, .int r24), (8, .int r10), (0, .ref (ad 0)), (1, .int p2), (2, .int p3), (3, .ref (aa 1)), (4, .ref (aa 0)), (5, .ref (aa 2)), (6, .ref (aa 3)), (7, .ref (aa 4))]) hx hb dL_keys_267 hl (by decide) rfl (fun ls hl => ?_)
                        obtain ⟨z_269, hq_269, hm⟩ := ob hm
                        have K_269 : ∀ (x14_2 : Int32), z_269 = x14_2 → ∀ (ls : Array Slot), lv_has ls 24 [(14, .int x14_2), (0, .ref (ad 0)), (1, .int p2), (3, .ref (aa 1)), (5, .ref (aa 2)), (7, .ref (aa 4))] → W p l e (headSpec wsL_keys ({ frames := 9, cells := 4, slots := 24, locals := 183 } : Room)).room s m ([.ref (ad 0), .int p2, .int p3, .ref (aa 1), .ref (aa 0), .ref (aa 2), .ref (aa 3), .ref (aa 4)] : List Value).toArray below meth c H locs 4 24 (MQ below (zQi (dC, dI) (wQ cI aa ad vm vr vh vl vq u_zk u_zm u_zb u_zs u_zr u_zu u_zt u_zf u_zg u_zbd u_zro u_zmc u_zmg u_zsp u_zjn) [(cI, .int)] A r) ([.ref (ad 0), .int p2, .int p3, .ref (aa 1), .ref (aa 0), .ref (aa 2), .ref (aa 3), .ref (aa 4)] : List Value).toArray s 4 24 A) (F0 m 288 ls []) := by
                          intro x14_2 ez ls hl
                          rw [ez] at hm
                          refine lv_iload hx hb dL_keys_288 (lv_at hl 0 rfl) ?_
                          refine lv_if_ge (tgt := 319) hx hb dL_keys_290 (by decide) (fun c_290 => ?_) (fun c_290 => ?_)
                          · have hm := it_t hm c_290
                            refine lv_aload hx hb dL_keys_319 (lv_at hl 4 rfl) ?_
                            refine lv_iload hx hb dL_keys_321 (lv_at hl 0 rfl) ?_
                            refine lv_aload hx hb dL_keys_323 (lv_at hl 5 rfl) ?_
                            refine lv_iconst (v := 0) hx hb dL_keys_325 (by decide) ?_
                            obtain ⟨c_326, hm⟩ := ck hm
                            refine va_iald hx hb hK hP 4 0 rfl rfl c_326 dL_keys_326 ?_
                            obtain ⟨r327, h_327, hm⟩ := ob hm
                            refine z_callSi (As := [.ref (aa 2), .int x14_2, .int (vq (Int32.toNatClampNeg 0))]) (rest := []) ⟨hx, hb, hml, hown, hts⟩ (c_L_behind l dC dI cI (aa 2) 64 vh F x14_2 (vq (Int32.toNatClampNeg 0)) r327 h_327) (va_cwS 3 hts gL_keys_L_behind rfl rfl rfl ks_L_behind ⟨Nat.le_of_ble_eq_true rfl, Nat.le_of_ble_eq_true rfl⟩) hK (z_mid (pjQ_1vh cI aa ad vm vr vh vl vq zkj253 zmj253 zbj253 zsj253 zrj253 zuj253 ztj253 zfj253 zgj253 zbdj253 zroj253 zmcj253 zmgj253 zspj253 zjnj253 vh) hP) rfl hl.1 rfl (Nat.le_of_ble_eq_true rfl) dL_keys_327 ⟨Nat.le_of_ble_eq_true rfl, Nat.le_of_ble_eq_true rfl⟩ ?_
                            refine lv_istore (lv' := [(15, .int r327), (14, .int x14_2), (0, .ref (ad 0)), (1, .int p2), (3, .ref (aa 1)), (5, .ref (aa 2)), (7, .ref (aa 4))]) hx hb dL_keys_330 hl (by decide) rfl (fun ls hl => ?_)
                            refine lv_iload_n hx hb dL_keys_332 rfl (lv_at hl 3 rfl) ?_
                            refine lv_aload_n hx hb dL_keys_333 rfl (lv_at hl 4 rfl) ?_
                            refine lv_iload hx hb dL_keys_334 (lv_at hl 1 rfl) ?_
                            refine lv_iload hx hb dL_keys_336 (lv_at hl 0 rfl) ?_
                            refine lv_aload hx hb dL_keys_338 (lv_at hl 6 rfl) ?_
                            refine lv_iconst (v := 2) hx hb dL_keys_340 (by decide) ?_
                            obtain ⟨c_341, hm⟩ := ck hm
                            refine va_iald hx hb hK hP 4 0 rfl rfl c_341 dL_keys_341 ?_
                            obtain ⟨r342, h_342, hm⟩ := ob hm
                            refine z_callSl (As := [.int p2, .ref (aa 1), .int x14_2, .int r327, .int (vq (Int32.toNatClampNeg 2))]) (rest := []) ⟨hx, hb, hml, hown, hts⟩ (c_L_guess l dC dI cI (aa 1) 64 vr F p2 x14_2 r327 (vq (Int32.toNatClampNeg 2)) r342 h_342) (va_cwS 5 hts gL_keys_L_guess rfl rfl rfl ks_L_guess ⟨Nat.le_of_ble_eq_true rfl, Nat.le_of_ble_eq_true rfl⟩) hK (z_mid (pjQ_1vr cI aa ad vm vr vh vl vq zkj253 zmj253 zbj253 zsj253 zrj253 zuj253 ztj253 zfj253 zgj253 zbdj253 zroj253 zmcj253 zmgj253 zspj253 zjnj253 vr) hP) rfl hl.1 rfl (Nat.le_of_ble_eq_true rfl) dL_keys_342 ⟨Nat.le_of_ble_eq_true rfl, Nat.le_of_ble_eq_true rfl⟩ ?_
                            refine lv_lstore (lv' := [(16, .long r342), (15, .int r327), (14, .int x14_2), (0, .ref (ad 0)), (1, .int p2), (3, .ref (aa 1)), (5, .ref (aa 2)), (7, .ref (aa 4))]) hx hb dL_keys_345 hl (by decide) rfl (fun ls hl => ?_)
                            refine lv_lload hx hb dL_keys_347 (lv_at hl 0 rfl) ?_
                            refine lv_aload hx hb dL_keys_349 (lv_at hl 7 rfl) ?_
                            refine lv_iconst (v := 2) hx hb dL_keys_351 (by decide) ?_
                            obtain ⟨c_352, hm⟩ := ck hm
                            refine va_iald hx hb hK hP 4 0 rfl rfl c_352 dL_keys_352 ?_
                            refine lv_i2l hx hb dL_keys_353 rfl ?_
                            refine lv_lsub hx hb dL_keys_354 ?_
                            refine lv_iload hx hb dL_keys_355 (lv_at hl 2 rfl) ?_
                            refine lv_i2l hx hb dL_keys_357 rfl ?_
                            refine W.lcmp hx hb dL_keys_358 ?_
                            obtain ⟨z_397, hq_397, hm⟩ := ob hm
                            have J_397 : ∀ (y397 : Int64), z_397 = y397 → W p l e (headSpec wsL_keys ({ frames := 9, cells := 4, slots := 24, locals := 183 } : Room)).room s m ([.ref (ad 0), .int p2, .int p3, .ref (aa 1), .ref (aa 0), .ref (aa 2), .ref (aa 3), .ref (aa 4)] : List Value).toArray below meth c H locs 4 24 (MQ below (zQi (dC, dI) (wQ cI aa ad vm vr vh vl vq u_zk u_zm u_zb u_zs u_zr u_zu u_zt u_zf u_zg u_zbd u_zro u_zmc u_zmg u_zsp u_zjn) [(cI, .int)] A r) ([.ref (ad 0), .int p2, .int p3, .ref (aa 1), .ref (aa 0), .ref (aa 2), .ref (aa 3), .ref (aa 4)] : List Value).toArray s 4 24 A) (F0 m 397 ls [.long y397]) := by
                              intro y397 ez
                              rw [ez] at hm
                              refine lv_lstore (lv' := [(18, .long y397), (16, .long r342), (15, .int r327), (14, .int x14_2), (0, .ref (ad 0)), (1, .int p2), (3, .ref (aa 1)), (5, .ref (aa 2)), (7, .ref (aa 4))]) hx hb dL_keys_397 hl (by decide) rfl (fun ls hl => ?_)
                              refine lv_lload hx hb dL_keys_399 (lv_at hl 1 rfl) ?_
                              refine lv_aload hx hb dL_keys_401 (lv_at hl 8 rfl) ?_
                              refine lv_iconst (v := 2) hx hb dL_keys_403 (by decide) ?_
                              obtain ⟨c_404, hm⟩ := ck hm
                              refine va_iald hx hb hK hP 4 0 rfl rfl c_404 dL_keys_404 ?_
                              refine lv_i2l hx hb dL_keys_405 rfl ?_
                              refine lv_ladd hx hb dL_keys_406 ?_
                              refine lv_lconst (v := 1) hx hb dL_keys_407 (by decide) ?_
                              refine lv_ladd hx hb dL_keys_408 ?_
                              refine lv_iload hx hb dL_keys_409 (lv_at hl 2 rfl) ?_
                              refine lv_i2l hx hb dL_keys_411 rfl ?_
                              refine W.lcmp hx hb dL_keys_412 ?_
                              obtain ⟨z_432, hq_432, hm⟩ := ob hm
                              have J_432 : ∀ (y432 : Int64), z_432 = y432 → W p l e (headSpec wsL_keys ({ frames := 9, cells := 4, slots := 24, locals := 183 } : Room)).room s m ([.ref (ad 0), .int p2, .int p3, .ref (aa 1), .ref (aa 0), .ref (aa 2), .ref (aa 3), .ref (aa 4)] : List Value).toArray below meth c H locs 4 24 (MQ below (zQi (dC, dI) (wQ cI aa ad vm vr vh vl vq u_zk u_zm u_zb u_zs u_zr u_zu u_zt u_zf u_zg u_zbd u_zro u_zmc u_zmg u_zsp u_zjn) [(cI, .int)] A r) ([.ref (ad 0), .int p2, .int p3, .ref (aa 1), .ref (aa 0), .ref (aa 2), .ref (aa 3), .ref (aa 4)] : List Value).toArray s 4 24 A) (F0 m 432 ls [.long y432]) := by
                                intro y432 ez
                                rw [ez] at hm
                                refine lv_lstore (lv' := [(20, .long y432), (18, .long y397), (16, .long r342), (15, .int r327), (14, .int x14_2), (0, .ref (ad 0)), (1, .int p2), (3, .ref (aa 1)), (5, .ref (aa 2)), (7, .ref (aa 4))]) hx hb dL_keys_432 hl (by decide) rfl (fun ls hl => ?_)
                                refine lv_iconst (v := 0) hx hb dL_keys_434 (by decide) ?_
                                refine lv_istore (lv' := [(22, .int 0), (20, .long y432), (18, .long y397), (16, .long r342), (15, .int r327), (14, .int x14_2), (0, .ref (ad 0)), (1, .int p2), (3, .ref (aa 1)), (5, .ref (aa 2)), (7, .ref (aa 4))]) hx hb dL_keys_435 hl (by decide) rfl (fun ls hl => ?_)
                                obtain ⟨z_437, hq_437, hm⟩ := ob hm
                                have K_437 : ∀ (x22_2 : Int32), z_437 = x22_2 → ∀ (ls : Array Slot), lv_has ls 24 [(22, .int x22_2), (16, .long r342), (0, .ref (ad 0)), (1, .int p2)] → W p l e (headSpec wsL_keys ({ frames := 9, cells := 4, slots := 24, locals := 183 } : Room)).room s m ([.ref (ad 0), .int p2, .int p3, .ref (aa 1), .ref (aa 0), .ref (aa 2), .ref (aa 3), .ref (aa 4)] : List Value).toArray below meth c H locs 4 24 (MQ below (zQi (dC, dI) (wQ cI aa ad vm vr vh vl vq u_zk u_zm u_zb u_zs u_zr u_zu u_zt u_zf u_zg u_zbd u_zro u_zmc u_zmg u_zsp u_zjn) [(cI, .int)] A r) ([.ref (ad 0), .int p2, .int p3, .ref (aa 1), .ref (aa 0), .ref (aa 2), .ref (aa 3), .ref (aa 4)] : List Value).toArray s 4 24 A) (F0 m 486 ls []) := by
                                  intro x22_2 ez ls hl
                                  rw [ez] at hm
                                  refine lv_aload_n hx hb dL_keys_486 rfl (lv_at hl 2 rfl) ?_
                                  refine lv_iload_n hx hb dL_keys_487 rfl (lv_at hl 3 rfl) ?_
                                  obtain ⟨r488, h_488, hm⟩ := ob hm
                                  have h_488 := nz_e h_488
                                  refine z_callWl (wc := (wL cI ad zkj253 zmj253 zbj253 zsj253 zrj253 zuj253 ztj253 zfj253 zgj253 zbdj253 zroj253 zmcj253 zmgj253 zspj253 zjnj253)) (w1 := (wL cI ad zkj253 zmj253 zbj253 zsj253 zrj253 zuj253 ztj253 zfj253 zgj253 zbdj253 zroj253 zmcj253 zmgj253 zspj253 zjnj253)) (ws := (wQ cI aa ad vm vr vh vl vq zkj253 zmj253 zbj253 zsj253 zrj253 zuj253 ztj253 zfj253 zgj253 zbdj253 zroj253 zmcj253 zmgj253 zspj253 zjnj253)) (ws' := (wQ cI aa ad vm vr vh vl vq zkj253 zmj253 zbj253 zsj253 zrj253 zuj253 ztj253 zfj253 zgj253 zbdj253 zroj253 zmcj253 zmgj253 zspj253 zjnj253)) (As := [.int p2]) (rest := []) (ci := 2) (q := (RX2, TX2, 15)) ⟨hx, hb, hml, hown, hts⟩ (n_X2_guess l dC dI cI ad zkj253 zmj253 zbj253 zsj253 zrj253 zuj253 ztj253 zfj253 zgj253 zbdj253 zroj253 zmcj253 zmgj253 zspj253 zjnj253 F p2 H.size r488 h_488) (cwV 1 hts gL_keys_X2_guess rfl rfl rfl kv_X2_guess ⟨Nat.le_of_ble_eq_true rfl, Nat.le_of_ble_eq_true rfl⟩) hK hP hD hS hA (pjQ_L cI aa ad vm vr vh vl vq zkj253 zmj253 zbj253 zsj253 zrj253 zuj253 ztj253 zfj253 zgj253 zbdj253 zroj253 zmcj253 zmgj253 zspj253 zjnj253 zkj253 zmj253 zbj253 zsj253 zrj253 zuj253 ztj253 zfj253 zgj253 zbdj253 zroj253 zmcj253 zmgj253 zspj253 zjnj253) ((paL cI ad zkj253 zmj253 zbj253 zsj253 zrj253 zuj253 ztj253 zfj253 zgj253 zbdj253 zroj253 zmcj253 zmgj253 zspj253 zjnj253).trans (paL cI ad zkj253 zmj253 zbj253 zsj253 zrj253 zuj253 ztj253 zfj253 zgj253 zbdj253 zroj253 zmcj253 zmgj253 zspj253 zjnj253).symm) rfl rfl rfl rfl hl.1 rfl (Nat.le_of_ble_eq_true rfl) dL_keys_488 ⟨Nat.le_of_ble_eq_true rfl, Nat.le_of_ble_eq_true rfl⟩ (fun H locs hP hD hS => ?_)
                                  refine lv_lload hx hb dL_keys_491 (lv_at hl 1 rfl) ?_
                                  refine W.lcmp hx hb dL_keys_493 ?_
                                  refine lv_if_ne (tgt := 511) hx hb dL_keys_494 (by decide) (fun c_494 => ?_) (fun c_494 => ?_)
                                  · have c_494 : ¬ (r488 = r342) := fun h => c_494 ((lg_cmp_eq _ _).mpr h)
                                    have hm := it_f hm c_494
                                    refine lv_iconst (v := 0) hx hb dL_keys_511 (by decide) ?_
                                    cases o2 hm
                                    refine W.widen (k := 4) (n := 24) (Nat.le_of_ble_eq_true rfl) (Nat.le_of_ble_eq_true rfl) ?_
                                    exact W.zret hx hb hr rfl (fun t ht hW => ⟨⟨_, (), rfl, rfl, by rw [ht]; exact hP, va_K.moved hW.alike hK, hD⟩, hS.F ht⟩) hS.2.2 dL_keys_512
                                  · have c_494 : r488 = r342 := (lg_cmp_eq _ _).mp c_494
                                    have hm := it_t hm c_494
                                    refine lv_aload_n hx hb dL_keys_497 rfl (lv_at hl 2 rfl) ?_
                                    refine lv_iload_n hx hb dL_keys_498 rfl (lv_at hl 3 rfl) ?_
                                    obtain ⟨r499, h_499, hm⟩ := ob hm
                                    have h_499 := nz_e h_499
                                    refine z_callWi (wc := (wL cI ad zkj253 zmj253 zbj253 zsj253 zrj253 zuj253 ztj253 zfj253 zgj253 zbdj253 zroj253 zmcj253 zmgj253 zspj253 zjnj253)) (w1 := (wL cI ad zkj253 zmj253 zbj253 zsj253 zrj253 zuj253 ztj253 zfj253 zgj253 zbdj253 zroj253 zmcj253 zmgj253 zspj253 zjnj253)) (ws := (wQ cI aa ad vm vr vh vl vq zkj253 zmj253 zbj253 zsj253 zrj253 zuj253 ztj253 zfj253 zgj253 zbdj253 zroj253 zmcj253 zmgj253 zspj253 zjnj253)) (ws' := (wQ cI aa ad vm vr vh vl vq zkj253 zmj253 zbj253 zsj253 zrj253 zuj253 ztj253 zfj253 zgj253 zbdj253 zroj253 zmcj253 zmgj253 zspj253 zjnj253)) (As := [.int p2]) (rest := []) (ci := 2) (q := (RX2, TX2, 15)) ⟨hx, hb, hml, hown, hts⟩ (n_X2_looks l dC dI cI ad zkj253 zmj253 zbj253 zsj253 zrj253 zuj253 ztj253 zfj253 zgj253 zbdj253 zroj253 zmcj253 zmgj253 zspj253 zjnj253 F p2 H.size r499 h_499) (cwV 1 hts gL_keys_X2_looks rfl rfl rfl kv_X2_looks ⟨Nat.le_of_ble_eq_true rfl, Nat.le_of_ble_eq_true rfl⟩) hK hP hD hS hA (pjQ_L cI aa ad vm vr vh vl vq zkj253 zmj253 zbj253 zsj253 zrj253 zuj253 ztj253 zfj253 zgj253 zbdj253 zroj253 zmcj253 zmgj253 zspj253 zjnj253 zkj253 zmj253 zbj253 zsj253 zrj253 zuj253 ztj253 zfj253 zgj253 zbdj253 zroj253 zmcj253 zmgj253 zspj253 zjnj253) ((paL cI ad zkj253 zmj253 zbj253 zsj253 zrj253 zuj253 ztj253 zfj253 zgj253 zbdj253 zroj253 zmcj253 zmgj253 zspj253 zjnj253).trans (paL cI ad zkj253 zmj253 zbj253 zsj253 zrj253 zuj253 ztj253 zfj253 zgj253 zbdj253 zroj253 zmcj253 zmgj253 zspj253 zjnj253).symm) rfl rfl rfl rfl hl.1 rfl (Nat.le_of_ble_eq_true rfl) dL_keys_499 ⟨Nat.le_of_ble_eq_true rfl, Nat.le_of_ble_eq_true rfl⟩ (fun H locs hP hD hS => ?_)
                                    refine lv_iload hx hb dL_keys_502 (lv_at hl 0 rfl) ?_
                                    refine lv_icmp_ne (tgt := 511) hx hb dL_keys_504 (by decide) (fun c_504 => ?_) (fun c_504 => ?_)
                                    · have hm := it_f hm c_504
                                      refine lv_iconst (v := 0) hx hb dL_keys_511 (by decide) ?_
                                      cases o2 hm
                                      refine W.widen (k := 4) (n := 24) (Nat.le_of_ble_eq_true rfl) (Nat.le_of_ble_eq_true rfl) ?_
                                      exact W.zret hx hb hr rfl (fun t ht hW => ⟨⟨_, (), rfl, rfl, by rw [ht]; exact hP, va_K.moved hW.alike hK, hD⟩, hS.F ht⟩) hS.2.2 dL_keys_512
                                    · have hm := it_t hm c_504
                                      refine lv_iconst (v := 1) hx hb dL_keys_507 (by decide) ?_
                                      refine lv_goto (tgt := 512) hx hb dL_keys_508 (by decide) ?_
                                      cases o2 hm
                                      refine W.widen (k := 4) (n := 24) (Nat.le_of_ble_eq_true rfl) (Nat.le_of_ble_eq_true rfl) ?_
                                      exact W.zret hx hb hr rfl (fun t ht hW => ⟨⟨_, (), rfl, rfl, by rw [ht]; exact hP, va_K.moved hW.alike hK, hD⟩, hS.F ht⟩) hS.2.2 dL_keys_512
                                have L_437 : ∀ (n : Nat) (x22 : Int32) (x20 : Int64) (x18 : Int64), L_keys_L437 p2 vr n x22 x20 x18 = some z_437 → ∀ (ls : Array Slot), lv_has ls 24 [(22, .int x22), (20, .long x20), (18, .long x18), (16, .long r342), (0, .ref (ad 0)), (1, .int p2), (3, .ref (aa 1))] → W p l e (headSpec wsL_keys ({ frames := 9, cells := 4, slots := 24, locals := 183 } : Room)).room s m ([.ref (ad 0), .int p2, .int p3, .ref (aa 1), .ref (aa 0), .ref (aa 2), .ref (aa 3), .ref (aa 4)] : List Value).toArray below meth c H locs 4 24 (MQ below (zQi (dC, dI) (wQ cI aa ad vm vr vh vl vq u_zk u_zm u_zb u_zs u_zr u_zu u_zt u_zf u_zg u_zbd u_zro u_zmc u_zmg u_zsp u_zjn) [(cI, .int)] A r) ([.ref (ad 0), .int p2, .int p3, .ref (aa 1), .ref (aa 0), .ref (aa 2), .ref (aa 3), .ref (aa 4)] : List Value).toArray s 4 24 A) (F0 m 437 ls []) := by
                                  intro n
                                  induction n with
                                  | zero => intro x22 x20 x18 hm; cases hm
                                  | succ n ih_437 =>
                                    intro x22 x20 x18 hm ls hl
                                    refine lv_lload hx hb dL_keys_437 (lv_at hl 2 rfl) ?_
                                    refine lv_lload hx hb dL_keys_439 (lv_at hl 1 rfl) ?_
                                    refine W.lcmp hx hb dL_keys_441 ?_
                                    refine lv_if_ge (tgt := 486) hx hb dL_keys_442 (by decide) (fun c_442 => ?_) (fun c_442 => ?_)
                                    · have c_442 : x20 ≤ x18 := (lg_cmp_ge _ _).mp c_442
                                      have hm := it_t hm c_442
                                      exact K_437 x22 (o2 hm) _ (lv_sub hl [0, 3, 4, 5] rfl)
                                    · have c_442 : ¬ (x20 ≤ x18) := fun h => c_442 ((lg_cmp_ge _ _).mpr h)
                                      have hm := it_f hm c_442
                                      refine lv_lload hx hb dL_keys_445 (lv_at hl 2 rfl) ?_
                                      refine lv_lload hx hb dL_keys_447 (lv_at hl 1 rfl) ?_
                                      refine lv_ladd hx hb dL_keys_449 ?_
                                      refine lv_ldc2 hx hb hown zw1 dL_keys_450 ?_
                                      refine lv_ldiv hx hb dL_keys_453 (by decide) ?_
                                      refine lv_l2i hx hb dL_keys_454 rfl ?_
                                      refine lv_topi (fun x23 e_x23 => ?_)
                                      have hm := bnd_e hm e_x23
                                      refine lv_istore (lv' := [(23, .int x23), (22, .int x22), (20, .long x20), (18, .long x18), (16, .long r342), (0, .ref (ad 0)), (1, .int p2), (3, .ref (aa 1))]) hx hb dL_keys_455 hl (by decide) rfl (fun ls hl => ?_)
                                      obtain ⟨x22_1, e_x22_1⟩ : ∃ y : Int32, y = x22 + 1 := ⟨_, rfl⟩
                                      have hm := bnd_e hm e_x22_1
                                      refine lv_iinc (v := x22_1) (lv' := [(22, .int x22_1), (23, .int x23), (20, .long x20), (18, .long x18), (16, .long r342), (0, .ref (ad 0)), (1, .int p2), (3, .ref (aa 1))]) hx hb dL_keys_457 hl (k := 1) rfl (by rw [e_x22_1]; rfl) (by decide) rfl (fun ls hl => ?_)
                                      refine lv_aload_n hx hb dL_keys_460 rfl (lv_at hl 7 rfl) ?_
                                      refine lv_iload hx hb dL_keys_461 (lv_at hl 1 rfl) ?_
                                      obtain ⟨c_463, hm⟩ := ck hm
                                      refine va_iald hx hb hK hP 1 0 rfl rfl c_463 dL_keys_463 ?_
                                      refine lv_iload_n hx hb dL_keys_464 rfl (lv_at hl 6 rfl) ?_
                                      refine lv_icmp_ge (tgt := 478) hx hb dL_keys_465 (by decide) (fun c_465 => ?_) (fun c_465 => ?_)
                                      · have hm := it_t hm c_465
                                        refine lv_iload hx hb dL_keys_478 (lv_at hl 1 rfl) ?_
                                        refine lv_i2l hx hb dL_keys_480 rfl ?_
                                        refine lv_topl (fun x20_1 e_x20_1 => ?_)
                                        have hm := bnd_e hm e_x20_1
                                        refine lv_lstore (lv' := [(20, .long x20_1), (22, .int x22_1), (23, .int x23), (18, .long x18), (16, .long r342), (0, .ref (ad 0)), (1, .int p2), (3, .ref (aa 1))]) hx hb dL_keys_481 hl (by decide) rfl (fun ls hl => ?_)
                                        refine lv_goto (tgt := 437) hx hb dL_keys_483 (by decide) ?_
                                        exact ih_437 x22_1 x20_1 x18 hm _ (lv_sub hl [1, 0, 3, 4, 5, 6, 7] rfl)
                                      · have hm := it_f hm c_465
                                        refine lv_iload hx hb dL_keys_468 (lv_at hl 1 rfl) ?_
                                        refine lv_iconst (v := 1) hx hb dL_keys_470 (by decide) ?_
                                        refine lv_iadd hx hb dL_keys_471 ?_
                                        refine lv_i2l hx hb dL_keys_472 rfl ?_
                                        refine lv_topl (fun x18_1 e_x18_1 => ?_)
                                        have hm := bnd_e hm e_x18_1
                                        refine lv_lstore (lv' := [(18, .long x18_1), (22, .int x22_1), (23, .int x23), (20, .long x20), (16, .long r342), (0, .ref (ad 0)), (1, .int p2), (3, .ref (aa 1))]) hx hb dL_keys_473 hl (by decide) rfl (fun ls hl => ?_)
                                        refine lv_goto (tgt := 483) hx hb dL_keys_475 (by decide) ?_
                                        refine lv_goto (tgt := 437) hx hb dL_keys_483 (by decide) ?_
                                        exact ih_437 x22_1 x20 x18_1 hm _ (lv_sub hl [1, 3, 0, 4, 5, 6, 7] rfl)
                                exact L_437 F 0 y432 y397 hq_437 _ (lv_sub hl [0, 1, 2, 3, 6, 7, 8] rfl)
                              have hm := hq_432
                              refine lv_if_ge (tgt := 429) hx hb dL_keys_413 (by decide) (fun c_413 => ?_) (fun c_413 => ?_)
                              · have c_413 : (Int32.toInt64 r327) ≤ ((r342 + (Int32.toInt64 (vq (Int32.toNatClampNeg 2)))) + 1) := (lg_cmp_ge _ _).mp c_413
                                have hm := it_t hm c_413
                                refine lv_iload hx hb dL_keys_429 (lv_at hl 2 rfl) ?_
                                refine lv_i2l hx hb dL_keys_431 rfl ?_
                                exact J_432 (Int32.toInt64 r327) (o2 hm)
                              · have c_413 : ¬ ((Int32.toInt64 r327) ≤ ((r342 + (Int32.toInt64 (vq (Int32.toNatClampNeg 2)))) + 1)) := fun h => c_413 ((lg_cmp_ge _ _).mpr h)
                                have hm := it_f hm c_413
                                refine lv_lload hx hb dL_keys_416 (lv_at hl 1 rfl) ?_
                                refine lv_aload hx hb dL_keys_418 (lv_at hl 8 rfl) ?_
                                refine lv_iconst (v := 2) hx hb dL_keys_420 (by decide) ?_
                                obtain ⟨c_421, hm⟩ := ck hm
                                refine va_iald hx hb hK hP 4 0 rfl rfl c_421 dL_keys_421 ?_
                                refine lv_i2l hx hb dL_keys_422 rfl ?_
                                refine lv_ladd hx hb dL_keys_423 ?_
                                refine lv_lconst (v := 1) hx hb dL_keys_424 (by decide) ?_
                                refine lv_ladd hx hb dL_keys_425 ?_
                                refine lv_goto (tgt := 432) hx hb dL_keys_426 (by decide) ?_
                                exact J_432 ((r342 + (Int32.toInt64 (vq (Int32.toNatClampNeg 2)))) + 1) (o2 hm)
                            have hm := hq_397
                            refine lv_if_ge (tgt := 368) hx hb dL_keys_359 (by decide) (fun c_359 => ?_) (fun c_359 => ?_)
                            · have c_359 : (Int32.toInt64 x14_2) ≤ (r342 - (Int32.toInt64 (vq (Int32.toNatClampNeg 2)))) := (lg_cmp_ge _ _).mp c_359
                              have hm := it_t hm c_359
                              refine lv_lload hx hb dL_keys_368 (lv_at hl 0 rfl) ?_
                              refine lv_aload hx hb dL_keys_370 (lv_at hl 7 rfl) ?_
                              refine lv_iconst (v := 2) hx hb dL_keys_372 (by decide) ?_
                              obtain ⟨c_373, hm⟩ := ck hm
                              refine va_iald hx hb hK hP 4 0 rfl rfl c_373 dL_keys_373 ?_
                              refine lv_i2l hx hb dL_keys_374 rfl ?_
                              refine lv_lsub hx hb dL_keys_375 ?_
                              refine lv_iload hx hb dL_keys_376 (lv_at hl 1 rfl) ?_
                              refine lv_i2l hx hb dL_keys_378 rfl ?_
                              refine W.lcmp hx hb dL_keys_379 ?_
                              refine lv_if_le (tgt := 389) hx hb dL_keys_380 (by decide) (fun c_380 => ?_) (fun c_380 => ?_)
                              · have c_380 : (r342 - (Int32.toInt64 (vq (Int32.toNatClampNeg 2)))) ≤ (Int32.toInt64 r327) := (lg_cmp_le _ _).mp c_380
                                have hm := it_t hm c_380
                                refine lv_lload hx hb dL_keys_389 (lv_at hl 0 rfl) ?_
                                refine lv_aload hx hb dL_keys_391 (lv_at hl 7 rfl) ?_
                                refine lv_iconst (v := 2) hx hb dL_keys_393 (by decide) ?_
                                obtain ⟨c_394, hm⟩ := ck hm
                                refine va_iald hx hb hK hP 4 0 rfl rfl c_394 dL_keys_394 ?_
                                refine lv_i2l hx hb dL_keys_395 rfl ?_
                                refine lv_lsub hx hb dL_keys_396 ?_
                                exact J_397 (r342 - (Int32.toInt64 (vq (Int32.toNatClampNeg 2)))) (o2 hm)
                              · have c_380 : ¬ ((r342 - (Int32.toInt64 (vq (Int32.toNatClampNeg 2)))) ≤ (Int32.toInt64 r327)) := fun h => c_380 ((lg_cmp_le _ _).mpr h)
                                have hm := it_f hm c_380
                                refine lv_iload hx hb dL_keys_383 (lv_at hl 1 rfl) ?_
                                refine lv_i2l hx hb dL_keys_385 rfl ?_
                                refine lv_goto (tgt := 397) hx hb dL_keys_386 (by decide) ?_
                                exact J_397 (Int32.toInt64 r327) (o2 hm)
                            · have c_359 : ¬ ((Int32.toInt64 x14_2) ≤ (r342 - (Int32.toInt64 (vq (Int32.toNatClampNeg 2))))) := fun h => c_359 ((lg_cmp_ge _ _).mpr h)
                              have hm := it_f hm c_359
                              refine lv_iload hx hb dL_keys_362 (lv_at hl 2 rfl) ?_
                              refine lv_i2l hx hb dL_keys_364 rfl ?_
                              refine lv_goto (tgt := 397) hx hb dL_keys_365 (by decide) ?_
                              exact J_397 (Int32.toInt64 x14_2) (o2 hm)
                          · have hm := it_f hm c_290
                            refine lv_aload_n hx hb dL_keys_293 rfl (lv_at hl 1 rfl) ?_
                            refine lv_iload_n hx hb dL_keys_294 rfl (lv_at hl 2 rfl) ?_
                            obtain ⟨r295, h_295, hm⟩ := ob hm
                            have h_295 := nz_e h_295
                            refine z_callWl (wc := (wL cI ad zkj253 zmj253 zbj253 zsj253 zrj253 zuj253 ztj253 zfj253 zgj253 zbdj253 zroj253 zmcj253 zmgj253 zspj253 zjnj253)) (w1 := (wL cI ad zkj253 zmj253 zbj253 zsj253 zrj253 zuj253 ztj253 zfj253 zgj253 zbdj253 zroj253 zmcj253 zmgj253 zspj253 zjnj253)) (ws := (wQ cI aa ad vm vr vh vl vq zkj253 zmj253 zbj253 zsj253 zrj253 zuj253 ztj253 zfj253 zgj253 zbdj253 zroj253 zmcj253 zmgj253 zspj253 zjnj253)) (ws' := (wQ cI aa ad vm vr vh vl vq zkj253 zmj253 zbj253 zsj253 zrj253 zuj253 ztj253 zfj253 zgj253 zbdj253 zroj253 zmcj253 zmgj253 zspj253 zjnj253)) (As := [.int p2]) (rest := []) (ci := 2) (q := (RX2, TX2, 15)) ⟨hx, hb, hml, hown, hts⟩ (n_X2_guess l dC dI cI ad zkj253 zmj253 zbj253 zsj253 zrj253 zuj253 ztj253 zfj253 zgj253 zbdj253 zroj253 zmcj253 zmgj253 zspj253 zjnj253 F p2 H.size r295 h_295) (cwV 1 hts gL_keys_X2_guess rfl rfl rfl kv_X2_guess ⟨Nat.le_of_ble_eq_true rfl, Nat.le_of_ble_eq_true rfl⟩) hK hP hD hS hA (pjQ_L cI aa ad vm vr vh vl vq zkj253 zmj253 zbj253 zsj253 zrj253 zuj253 ztj253 zfj253 zgj253 zbdj253 zroj253 zmcj253 zmgj253 zspj253 zjnj253 zkj253 zmj253 zbj253 zsj253 zrj253 zuj253 ztj253 zfj253 zgj253 zbdj253 zroj253 zmcj253 zmgj253 zspj253 zjnj253) ((paL cI ad zkj253 zmj253 zbj253 zsj253 zrj253 zuj253 ztj253 zfj253 zgj253 zbdj253 zroj253 zmcj253 zmgj253 zspj253 zjnj253).trans (paL cI ad zkj253 zmj253 zbj253 zsj253 zrj253 zuj253 ztj253 zfj253 zgj253 zbdj253 zroj253 zmcj253 zmgj253 zspj253 zjnj253).symm) rfl rfl rfl rfl hl.1 rfl (Nat.le_of_ble_eq_true rfl) dL_keys_295 ⟨Nat.le_of_ble_eq_true rfl, Nat.le_of_ble_eq_true rfl⟩ (fun H locs hP hD hS => ?_)
                            refine lv_ldc2 hx hb hown zw2 dL_keys_298 ?_
                            refine W.lcmp hx hb dL_keys_301 ?_
                            refine lv_if_ne (tgt := 317) hx hb dL_keys_302 (by decide) (fun c_302 => ?_) (fun c_302 => ?_)
                            · have c_302 : ¬ (r295 = (-1)) := fun h => c_302 ((lg_cmp_eq _ _).mpr h)
                              have hm := it_f hm c_302
                              refine lv_iconst (v := 0) hx hb dL_keys_317 (by decide) ?_
                              cases o2 hm
                              refine W.widen (k := 4) (n := 24) (Nat.le_of_ble_eq_true rfl) (Nat.le_of_ble_eq_true rfl) ?_
                              exact W.zret hx hb hr rfl (fun t ht hW => ⟨⟨_, (), rfl, rfl, by rw [ht]; exact hP, va_K.moved hW.alike hK, hD⟩, hS.F ht⟩) hS.2.2 dL_keys_318
                            · have c_302 : r295 = (-1) := (lg_cmp_eq _ _).mp c_302
                              have hm := it_t hm c_302
                              refine lv_aload_n hx hb dL_keys_305 rfl (lv_at hl 1 rfl) ?_
                              refine lv_iload_n hx hb dL_keys_306 rfl (lv_at hl 2 rfl) ?_
                              obtain ⟨r307, h_307, hm⟩ := ob hm
                              have h_307 := nz_e h_307
                              refine z_callWi (wc := (wL cI ad zkj253 zmj253 zbj253 zsj253 zrj253 zuj253 ztj253 zfj253 zgj253 zbdj253 zroj253 zmcj253 zmgj253 zspj253 zjnj253)) (w1 := (wL cI ad zkj253 zmj253 zbj253 zsj253 zrj253 zuj253 ztj253 zfj253 zgj253 zbdj253 zroj253 zmcj253 zmgj253 zspj253 zjnj253)) (ws := (wQ cI aa ad vm vr vh vl vq zkj253 zmj253 zbj253 zsj253 zrj253 zuj253 ztj253 zfj253 zgj253 zbdj253 zroj253 zmcj253 zmgj253 zspj253 zjnj253)) (ws' := (wQ cI aa ad vm vr vh vl vq zkj253 zmj253 zbj253 zsj253 zrj253 zuj253 ztj253 zfj253 zgj253 zbdj253 zroj253 zmcj253 zmgj253 zspj253 zjnj253)) (As := [.int p2]) (rest := []) (ci := 2) (q := (RX2, TX2, 15)) ⟨hx, hb, hml, hown, hts⟩ (n_X2_looks l dC dI cI ad zkj253 zmj253 zbj253 zsj253 zrj253 zuj253 ztj253 zfj253 zgj253 zbdj253 zroj253 zmcj253 zmgj253 zspj253 zjnj253 F p2 H.size r307 h_307) (cwV 1 hts gL_keys_X2_looks rfl rfl rfl kv_X2_looks ⟨Nat.le_of_ble_eq_true rfl, Nat.le_of_ble_eq_true rfl⟩) hK hP hD hS hA (pjQ_L cI aa ad vm vr vh vl vq zkj253 zmj253 zbj253 zsj253 zrj253 zuj253 ztj253 zfj253 zgj253 zbdj253 zroj253 zmcj253 zmgj253 zspj253 zjnj253 zkj253 zmj253 zbj253 zsj253 zrj253 zuj253 ztj253 zfj253 zgj253 zbdj253 zroj253 zmcj253 zmgj253 zspj253 zjnj253) ((paL cI ad zkj253 zmj253 zbj253 zsj253 zrj253 zuj253 ztj253 zfj253 zgj253 zbdj253 zroj253 zmcj253 zmgj253 zspj253 zjnj253).trans (paL cI ad zkj253 zmj253 zbj253 zsj253 zrj253 zuj253 ztj253 zfj253 zgj253 zbdj253 zroj253 zmcj253 zmgj253 zspj253 zjnj253).symm) rfl rfl rfl rfl hl.1 rfl (Nat.le_of_ble_eq_true rfl) dL_keys_307 ⟨Nat.le_of_ble_eq_true rfl, Nat.le_of_ble_eq_true rfl⟩ (fun H locs hP hD hS => ?_)
                              refine lv_if_ne (tgt := 317) hx hb dL_keys_310 (by decide) (fun c_310 => ?_) (fun c_310 => ?_)
                              · have hm := it_f hm c_310
                                refine lv_iconst (v := 0) hx hb dL_keys_317 (by decide) ?_
                                cases o2 hm
                                refine W.widen (k := 4) (n := 24) (Nat.le_of_ble_eq_true rfl) (Nat.le_of_ble_eq_true rfl) ?_
                                exact W.zret hx hb hr rfl (fun t ht hW => ⟨⟨_, (), rfl, rfl, by rw [ht]; exact hP, va_K.moved hW.alike hK, hD⟩, hS.F ht⟩) hS.2.2 dL_keys_318
                              · have hm := it_t hm c_310
                                refine lv_iconst (v := 1) hx hb dL_keys_313 (by decide) ?_
                                refine lv_goto (tgt := 318) hx hb dL_keys_314 (by decide) ?_
                                cases o2 hm
                                refine W.widen (k := 4) (n := 24) (Nat.le_of_ble_eq_true rfl) (Nat.le_of_ble_eq_true rfl) ?_
                                exact W.zret hx hb hr rfl (fun t ht hW => ⟨⟨_, (), rfl, rfl, by rw [ht]; exact hP, va_K.moved hW.alike hK, hD⟩, hS.F ht⟩) hS.2.2 dL_keys_318
                        have L_269 : ∀ (n : Nat) (x14 : Int32), L_keys_L269 vh n x14 = some z_269 → ∀ (ls : Array Slot), lv_has ls 24 [(14, .int x14), (0, .ref (ad 0)), (1, .int p2), (3, .ref (aa 1)), (5, .ref (aa 2)), (7, .ref (aa 4))] → W p l e (headSpec wsL_keys ({ frames := 9, cells := 4, slots := 24, locals := 183 } : Room)).room s m ([.ref (ad 0), .int p2, .int p3, .ref (aa 1), .ref (aa 0), .ref (aa 2), .ref (aa 3), .ref (aa 4)] : List Value).toArray below meth c H locs 4 24 (MQ below (zQi (dC, dI) (wQ cI aa ad vm vr vh vl vq u_zk u_zm u_zb u_zs u_zr u_zu u_zt u_zf u_zg u_zbd u_zro u_zmc u_zmg u_zsp u_zjn) [(cI, .int)] A r) ([.ref (ad 0), .int p2, .int p3, .ref (aa 1), .ref (aa 0), .ref (aa 2), .ref (aa 3), .ref (aa 4)] : List Value).toArray s 4 24 A) (F0 m 269 ls []) := by
                          intro n
                          induction n with
                          | zero => intro x14 hm; cases hm
                          | succ n ih_269 =>
                            intro x14 hm ls hl
                            refine lv_iload hx hb dL_keys_269 (lv_at hl 0 rfl) ?_
                            refine lv_if_lt (tgt := 288) hx hb dL_keys_271 (by decide) (fun c_271 => ?_) (fun c_271 => ?_)
                            · have hm := it_t hm c_271
                              exact K_269 x14 (o2 hm) _ (lv_sub hl [0, 1, 2, 3, 4, 5] rfl)
                            · have hm := it_f hm c_271
                              refine lv_aload hx hb dL_keys_274 (lv_at hl 4 rfl) ?_
                              refine lv_iload hx hb dL_keys_276 (lv_at hl 0 rfl) ?_
                              obtain ⟨c_278, hm⟩ := ck hm
                              refine va_iald hx hb hK hP 2 0 rfl rfl c_278 dL_keys_278 ?_
                              refine lv_if_ne (tgt := 288) hx hb dL_keys_279 (by decide) (fun c_279 => ?_) (fun c_279 => ?_)
                              · have hm := it_f hm c_279
                                exact K_269 x14 (o2 hm) _ (lv_sub hl [0, 1, 2, 3, 4, 5] rfl)
                              · have hm := it_t hm c_279
                                obtain ⟨x14_1, e_x14_1⟩ : ∃ y : Int32, y = x14 + (-1) := ⟨_, rfl⟩
                                have hm := bnd_e hm e_x14_1
                                refine lv_iinc (v := x14_1) (lv' := [(14, .int x14_1), (0, .ref (ad 0)), (1, .int p2), (3, .ref (aa 1)), (5, .ref (aa 2)), (7, .ref (aa 4))]) hx hb dL_keys_282 hl (k := 0) rfl (by rw [e_x14_1]; rfl) (by decide) rfl (fun ls hl => ?_)
                                refine lv_goto (tgt := 269) hx hb dL_keys_285 (by decide) ?_
                                exact ih_269 x14_1 hm _ (lv_sub hl [0, 1, 2, 3, 4, 5] rfl)
                        exact L_269 F y267 hq_269 _ (lv_sub hl [0, 7, 8, 10, 12, 14] rfl)
                      refine lv_if_lt (tgt := 263) hx hb dL_keys_255 (by decide) (fun c_255 => ?_) (fun c_255 => ?_)
                      · refine lv_iload hx hb dL_keys_263 (lv_at hl 2 rfl) ?_
                        refine lv_iconst (v := 1) hx hb dL_keys_265 (by decide) ?_
                        refine lv_isub hx hb dL_keys_266 ?_
                        have e9 : y267 = (x11_2 - 1) := by rw [e_y267, if_pos c_255]
                        rw [e9] at J_267
                        exact J_267
                      · refine lv_iload hx hb dL_keys_258 (lv_at hl 2 rfl) ?_
                        refine lv_goto (tgt := 267) hx hb dL_keys_260 (by decide) ?_
                        have e9 : y267 = x11_2 := by rw [e_y267, if_neg c_255]
                        rw [e9] at J_267
                        exact J_267
                    refine lv_icmp_ne (tgt := 212) hx hb dL_keys_195 (by decide) (fun c_195 => ?_) (fun c_195 => ?_)
                    · have hm := it_f hm c_195
                      refine lv_aload_n hx hb dL_keys_212 rfl (lv_at hl 6 rfl) ?_
                      refine lv_iload_n hx hb dL_keys_213 rfl (lv_at hl 7 rfl) ?_
                      obtain ⟨⟨r214, zf214⟩, h_214, hm⟩ := ob hm
                      have h_214 := nz_e h_214
                      refine z_callWi (wc := (wL cI ad zk182 zm182 zb182 zs182 zr182 zu182 zt182 zf182 zg182 zbd182 zro182 zmc182 zmg182 zsp182 zjn182)) (w1 := (wL cI ad zk182 zm182 zb182 zs182 zr182 zu182 zt182 zf214 zg182 zbd182 zro182 zmc182 zmg182 zsp182 zjn182)) (ws := (wQ cI aa ad vm vr vh vl vq zk182 zm182 zb182 zs182 zr182 zu182 zt182 zf182 zg182 zbd182 zro182 zmc182 zmg182 zsp182 zjn182)) (ws' := (wQ cI aa ad vm vr vh vl vq zk182 zm182 zb182 zs182 zr182 zu182 zt182 zf214 zg182 zbd182 zro182 zmc182 zmg182 zsp182 zjn182)) (As := [.int p2]) (rest := []) (ci := 2) (q := (RX2, TX2, 15)) ⟨hx, hb, hml, hown, hts⟩ (n_X2_ceiling l dC dI cI ad zk182 zm182 zb182 zs182 zr182 zu182 zt182 zf182 zg182 zbd182 zro182 zmc182 zmg182 zsp182 zjn182 F p2 H.size r214 zf214 h_214) (cwV 1 hts gL_keys_X2_ceiling rfl rfl rfl kv_X2_ceiling ⟨Nat.le_of_ble_eq_true rfl, Nat.le_of_ble_eq_true rfl⟩) hK hP hD hS hA (pjQ_L cI aa ad vm vr vh vl vq zk182 zm182 zb182 zs182 zr182 zu182 zt182 zf182 zg182 zbd182 zro182 zmc182 zmg182 zsp182 zjn182 zk182 zm182 zb182 zs182 zr182 zu182 zt182 zf214 zg182 zbd182 zro182 zmc182 zmg182 zsp182 zjn182) ((paL cI ad zk182 zm182 zb182 zs182 zr182 zu182 zt182 zf214 zg182 zbd182 zro182 zmc182 zmg182 zsp182 zjn182).trans (paL cI ad zk182 zm182 zb182 zs182 zr182 zu182 zt182 zf182 zg182 zbd182 zro182 zmc182 zmg182 zsp182 zjn182).symm) rfl rfl rfl rfl hl.1 rfl (Nat.le_of_ble_eq_true rfl) dL_keys_214 ⟨Nat.le_of_ble_eq_true rfl, Nat.le_of_ble_eq_true rfl⟩ (fun H locs hP hD hS => ?_)
                      refine lv_aload_n hx hb dL_keys_217 rfl (lv_at hl 6 rfl) ?_
                      refine lv_iload hx hb dL_keys_218 (lv_at hl 4 rfl) ?_
                      obtain ⟨⟨r220, zf220⟩, h_220, hm⟩ := ob hm
                      have h_220 := nz_e h_220
                      refine z_callWi (wc := (wL cI ad zk182 zm182 zb182 zs182 zr182 zu182 zt182 zf214 zg182 zbd182 zro182 zmc182 zmg182 zsp182 zjn182)) (w1 := (wL cI ad zk182 zm182 zb182 zs182 zr182 zu182 zt182 zf220 zg182 zbd182 zro182 zmc182 zmg182 zsp182 zjn182)) (ws := (wQ cI aa ad vm vr vh vl vq zk182 zm182 zb182 zs182 zr182 zu182 zt182 zf214 zg182 zbd182 zro182 zmc182 zmg182 zsp182 zjn182)) (ws' := (wQ cI aa ad vm vr vh vl vq zk182 zm182 zb182 zs182 zr182 zu182 zt182 zf220 zg182 zbd182 zro182 zmc182 zmg182 zsp182 zjn182)) (As := [.int r24]) (rest := [.int r214]) (ci := 2) (q := (RX2, TX2, 15)) ⟨hx, hb, hml, hown, hts⟩ (n_X2_select l dC dI cI ad zk182 zm182 zb182 zs182 zr182 zu182 zt182 zf214 zg182 zbd182 zro182 zmc182 zmg182 zsp182 zjn182 F r24 H.size r220 zf220 h_220) (cwV 1 hts gL_keys_X2_select rfl rfl rfl kv_X2_select ⟨Nat.le_of_ble_eq_true rfl, Nat.le_of_ble_eq_true rfl⟩) hK hP hD hS hA (pjQ_L cI aa ad vm vr vh vl vq zk182 zm182 zb182 zs182 zr182 zu182 zt182 zf214 zg182 zbd182 zro182 zmc182 zmg182 zsp182 zjn182 zk182 zm182 zb182 zs182 zr182 zu182 zt182 zf220 zg182 zbd182 zro182 zmc182 zmg182 zsp182 zjn182) ((paL cI ad zk182 zm182 zb182 zs182 zr182 zu182 zt182 zf220 zg182 zbd182 zro182 zmc182 zmg182 zsp182 zjn182).trans (paL cI ad zk182 zm182 zb182 zs182 zr182 zu182 zt182 zf214 zg182 zbd182 zro182 zmc182 zmg182 zsp182 zjn182).symm) rfl rfl rfl rfl hl.1 rfl (Nat.le_of_ble_eq_true rfl) dL_keys_220 ⟨Nat.le_of_ble_eq_true rfl, Nat.le_of_ble_eq_true rfl⟩ (fun H locs hP hD hS => ?_)
                      refine lv_icmp_ne (tgt := 251) hx hb dL_keys_223 (by decide) (fun c_223 => ?_) (fun c_223 => ?_)
                      · have hm := it_f hm c_223
                        refine lv_iconst (v := 0) hx hb dL_keys_251 (by decide) ?_
                        cases o2 hm
                        refine W.widen (k := 4) (n := 24) (Nat.le_of_ble_eq_true rfl) (Nat.le_of_ble_eq_true rfl) ?_
                        exact W.zret hx hb hr rfl (fun t ht hW => ⟨⟨_, (), rfl, rfl, by rw [ht]; exact hP, va_K.moved hW.alike hK, hD⟩, hS.F ht⟩) hS.2.2 dL_keys_252
                      · have hm := it_t hm c_223
                        refine lv_aload_n hx hb dL_keys_226 rfl (lv_at hl 6 rfl) ?_
                        refine lv_iload hx hb dL_keys_227 (lv_at hl 4 rfl) ?_
                        obtain ⟨⟨r229, zf229⟩, h_229, hm⟩ := ob hm
                        have h_229 := nz_e h_229
                        refine z_callWi (wc := (wL cI ad zk182 zm182 zb182 zs182 zr182 zu182 zt182 zf220 zg182 zbd182 zro182 zmc182 zmg182 zsp182 zjn182)) (w1 := (wL cI ad zk182 zm182 zb182 zs182 zr182 zu182 zt182 zf229 zg182 zbd182 zro182 zmc182 zmg182 zsp182 zjn182)) (ws := (wQ cI aa ad vm vr vh vl vq zk182 zm182 zb182 zs182 zr182 zu182 zt182 zf220 zg182 zbd182 zro182 zmc182 zmg182 zsp182 zjn182)) (ws' := (wQ cI aa ad vm vr vh vl vq zk182 zm182 zb182 zs182 zr182 zu182 zt182 zf229 zg182 zbd182 zro182 zmc182 zmg182 zsp182 zjn182)) (As := [.int r24]) (rest := []) (ci := 2) (q := (RX2, TX2, 15)) ⟨hx, hb, hml, hown, hts⟩ (n_X2_select l dC dI cI ad zk182 zm182 zb182 zs182 zr182 zu182 zt182 zf220 zg182 zbd182 zro182 zmc182 zmg182 zsp182 zjn182 F r24 H.size r229 zf229 h_229) (cwV 1 hts gL_keys_X2_select rfl rfl rfl kv_X2_select ⟨Nat.le_of_ble_eq_true rfl, Nat.le_of_ble_eq_true rfl⟩) hK hP hD hS hA (pjQ_L cI aa ad vm vr vh vl vq zk182 zm182 zb182 zs182 zr182 zu182 zt182 zf220 zg182 zbd182 zro182 zmc182 zmg182 zsp182 zjn182 zk182 zm182 zb182 zs182 zr182 zu182 zt182 zf229 zg182 zbd182 zro182 zmc182 zmg182 zsp182 zjn182) ((paL cI ad zk182 zm182 zb182 zs182 zr182 zu182 zt182 zf229 zg182 zbd182 zro182 zmc182 zmg182 zsp182 zjn182).trans (paL cI ad zk182 zm182 zb182 zs182 zr182 zu182 zt182 zf220 zg182 zbd182 zro182 zmc182 zmg182 zsp182 zjn182).symm) rfl rfl rfl rfl hl.1 rfl (Nat.le_of_ble_eq_true rfl) dL_keys_229 ⟨Nat.le_of_ble_eq_true rfl, Nat.le_of_ble_eq_true rfl⟩ (fun H locs hP hD hS => ?_)
                        refine lv_iload_n hx hb dL_keys_232 rfl (lv_at hl 7 rfl) ?_
                        refine lv_icmp_lt (tgt := 251) hx hb dL_keys_233 (by decide) (fun c_233 => ?_) (fun c_233 => ?_)
                        · have hm := it_t hm c_233
                          refine lv_iconst (v := 0) hx hb dL_keys_251 (by decide) ?_
                          cases o2 hm
                          refine W.widen (k := 4) (n := 24) (Nat.le_of_ble_eq_true rfl) (Nat.le_of_ble_eq_true rfl) ?_
                          exact W.zret hx hb hr rfl (fun t ht hW => ⟨⟨_, (), rfl, rfl, by rw [ht]; exact hP, va_K.moved hW.alike hK, hD⟩, hS.F ht⟩) hS.2.2 dL_keys_252
                        · have hm := it_f hm c_233
                          refine lv_aload_n hx hb dL_keys_236 rfl (lv_at hl 6 rfl) ?_
                          refine lv_aload_n hx hb dL_keys_237 rfl (lv_at hl 6 rfl) ?_
                          refine lv_iload hx hb dL_keys_238 (lv_at hl 4 rfl) ?_
                          obtain ⟨⟨r240, zf240⟩, h_240, hm⟩ := ob hm
                          have h_240 := nz_e h_240
                          refine z_callWi (wc := (wL cI ad zk182 zm182 zb182 zs182 zr182 zu182 zt182 zf229 zg182 zbd182 zro182 zmc182 zmg182 zsp182 zjn182)) (w1 := (wL cI ad zk182 zm182 zb182 zs182 zr182 zu182 zt182 zf240 zg182 zbd182 zro182 zmc182 zmg182 zsp182 zjn182)) (ws := (wQ cI aa ad vm vr vh vl vq zk182 zm182 zb182 zs182 zr182 zu182 zt182 zf229 zg182 zbd182 zro182 zmc182 zmg182 zsp182 zjn182)) (ws' := (wQ cI aa ad vm vr vh vl vq zk182 zm182 zb182 zs182 zr182 zu182 zt182 zf240 zg182 zbd182 zro182 zmc182 zmg182 zsp182 zjn182)) (As := [.int r24]) (rest := [.ref (ad 0)]) (ci := 2) (q := (RX2, TX2, 15)) ⟨hx, hb, hml, hown, hts⟩ (n_X2_select l dC dI cI ad zk182 zm182 zb182 zs182 zr182 zu182 zt182 zf229 zg182 zbd182 zro182 zmc182 zmg182 zsp182 zjn182 F r24 H.size r240 zf240 h_240) (cwV 1 hts gL_keys_X2_select rfl rfl rfl kv_X2_select ⟨Nat.le_of_ble_eq_true rfl, Nat.le_of_ble_eq_true rfl⟩) hK hP hD hS hA (pjQ_L cI aa ad vm vr vh vl vq zk182 zm182 zb182 zs182 zr182 zu182 zt182 zf229 zg182 zbd182 zro182 zmc182 zmg182 zsp182 zjn182 zk182 zm182 zb182 zs182 zr182 zu182 zt182 zf240 zg182 zbd182 zro182 zmc182 zmg182 zsp182 zjn182) ((paL cI ad zk182 zm182 zb182 zs182 zr182 zu182 zt182 zf240 zg182 zbd182 zro182 zmc182 zmg182 zsp182 zjn182).trans (paL cI ad zk182 zm182 zb182 zs182 zr182 zu182 zt182 zf229 zg182 zbd182 zro182 zmc182 zmg182 zsp182 zjn182).symm) rfl rfl rfl rfl hl.1 rfl (Nat.le_of_ble_eq_true rfl) dL_keys_240 ⟨Nat.le_of_ble_eq_true rfl, Nat.le_of_ble_eq_true rfl⟩ (fun H locs hP hD hS => ?_)
                          obtain ⟨r243, h_243, hm⟩ := ob hm
                          refine z_callRi (As := [.int r240]) (rest := []) (ci := 2) (q := (RX2, TX2, 15)) ⟨hx, hb, hml, hown, hts⟩ (c_X2_rank l dC dI cI ad zk182 zm182 zb182 zs182 zr182 zu182 zt182 zf240 zg182 zbd182 zro182 zmc182 zmg182 zsp182 zjn182 F r240 r243 h_243) (cwV 1 hts gL_keys_X2_rank rfl rfl rfl kv_X2_rank ⟨Nat.le_of_ble_eq_true rfl, Nat.le_of_ble_eq_true rfl⟩) hK (z_mid (pjQ_L cI aa ad vm vr vh vl vq zk182 zm182 zb182 zs182 zr182 zu182 zt182 zf240 zg182 zbd182 zro182 zmc182 zmg182 zsp182 zjn182 zk182 zm182 zb182 zs182 zr182 zu182 zt182 zf240 zg182 zbd182 zro182 zmc182 zmg182 zsp182 zjn182) hP) rfl rfl rfl rfl hl.1 rfl (Nat.le_of_ble_eq_true rfl) dL_keys_243 ⟨Nat.le_of_ble_eq_true rfl, Nat.le_of_ble_eq_true rfl⟩ ?_
                          refine lv_iload hx hb dL_keys_246 (lv_at hl 4 rfl) ?_
                          refine lv_icmp_eq (tgt := 253) hx hb dL_keys_248 (by decide) (fun c_248 => ?_) (fun c_248 => ?_)
                          · have hm := it_t hm c_248
                            refine W.widen (k := 4) (n := 24) (Nat.le_of_ble_eq_true rfl) (Nat.le_of_ble_eq_true rfl) ?_
                            exact J_253 zk182 zm182 zb182 zs182 zr182 zu182 zt182 zf240 zg182 zbd182 zro182 zmc182 zmg182 zsp182 zjn182 hm _ _ hP hD hS
                          · have hm := it_f hm c_248
                            refine lv_iconst (v := 0) hx hb dL_keys_251 (by decide) ?_
                            cases o2 hm
                            refine W.widen (k := 4) (n := 24) (Nat.le_of_ble_eq_true rfl) (Nat.le_of_ble_eq_true rfl) ?_
                            exact W.zret hx hb hr rfl (fun t ht hW => ⟨⟨_, (), rfl, rfl, by rw [ht]; exact hP, va_K.moved hW.alike hK, hD⟩, hS.F ht⟩) hS.2.2 dL_keys_252
                    · have hm := it_t hm c_195
                      refine lv_aload_n hx hb dL_keys_198 rfl (lv_at hl 6 rfl) ?_
                      refine lv_iconst (v := 4) hx hb dL_keys_199 (by decide) ?_
                      refine lv_iload_n hx hb dL_keys_200 rfl (lv_at hl 7 rfl) ?_
                      refine lv_iconst (v := 0) hx hb dL_keys_201 (by decide) ?_
                      obtain ⟨⟨r202, zk202, zm202, zb202, zs202, zr202, zu202, zt202, zf202, zg202, zbd202, zro202, zmc202, zmg202, zsp202, zjn202⟩, h_202, hm⟩ := ob hm
                      refine z_hSi (wc := (wL cI ad zk182 zm182 zb182 zs182 zr182 zu182 zt182 zf182 zg182 zbd182 zro182 zmc182 zmg182 zsp182 zjn182)) (w1 := (wL cI ad zk202 zm202 zb202 zs202 zr202 zu202 zt202 zf202 zg202 zbd202 zro202 zmc202 zmg202 zsp202 zjn202)) (ws := (wQ cI aa ad vm vr vh vl vq zk182 zm182 zb182 zs182 zr182 zu182 zt182 zf182 zg182 zbd182 zro182 zmc182 zmg182 zsp182 zjn182)) (ws' := (wQ cI aa ad vm vr vh vl vq zk202 zm202 zb202 zs202 zr202 zu202 zt202 zf202 zg202 zbd202 zro202 zmc202 zmg202 zsp202 zjn202)) (As := [.ref (ad 0), .int 4, .int p2, .int 0]) (rest := []) ⟨hx, hb, hml, hown, hts⟩ (c_L_refused l dC dI cI ad zk182 zm182 zb182 zs182 zr182 zu182 zt182 zf182 zg182 zbd182 zro182 zmc182 zmg182 zsp182 zjn182 F 4 p2 0 H.size sa hl9 r202 zk202 zm202 zb202 zs202 zr202 zu202 zt202 zf202 zg202 zbd202 zro202 zmc202 zmg202 zsp202 zjn202 h_202) (vx_cwSW 4 hts gL_keys_L_refused rfl rfl rfl (by decide +kernel) ⟨Nat.le_of_ble_eq_true rfl, Nat.le_of_ble_eq_true rfl⟩) hV hNc hK hP hD hS hA (pjQ_L cI aa ad vm vr vh vl vq zk182 zm182 zb182 zs182 zr182 zu182 zt182 zf182 zg182 zbd182 zro182 zmc182 zmg182 zsp182 zjn182 zk202 zm202 zb202 zs202 zr202 zu202 zt202 zf202 zg202 zbd202 zro202 zmc202 zmg202 zsp202 zjn202) ((paL cI ad zk202 zm202 zb202 zs202 zr202 zu202 zt202 zf202 zg202 zbd202 zro202 zmc202 zmg202 zsp202 zjn202).trans (paL cI ad zk182 zm182 zb182 zs182 zr182 zu182 zt182 zf182 zg182 zbd182 zro182 zmc182 zmg182 zsp182 zjn182).symm) rfl hl.1 rfl (Nat.le_of_ble_eq_true rfl) dL_keys_202 ⟨Nat.le_of_ble_eq_true rfl, Nat.le_of_ble_eq_true rfl⟩ (fun H locs hP hD hS => ?_)
                      refine lv_iconst (v := 3) hx hb dL_keys_205 (by decide) ?_
                      refine lv_icmp_eq (tgt := 253) hx hb dL_keys_206 (by decide) (fun c_206 => ?_) (fun c_206 => ?_)
                      · have hm := it_t hm c_206
                        exact J_253 zk202 zm202 zb202 zs202 zr202 zu202 zt202 zf202 zg202 zbd202 zro202 zmc202 zmg202 zsp202 zjn202 hm _ _ hP hD hS
                      · have hm := it_f hm c_206
                        refine lv_goto (tgt := 251) hx hb dL_keys_209 (by decide) ?_
                        refine lv_iconst (v := 0) hx hb dL_keys_251 (by decide) ?_
                        cases o2 hm
                        refine W.widen (k := 4) (n := 24) (Nat.le_of_ble_eq_true rfl) (Nat.le_of_ble_eq_true rfl) ?_
                        exact W.zret hx hb hr rfl (fun t ht hW => ⟨⟨_, (), rfl, rfl, by rw [ht]; exact hP, va_K.moved hW.alike hK, hD⟩, hS.F ht⟩) hS.2.2 dL_keys_252
                  · have hm := it_f hm c_186
                    refine lv_iconst (v := 0) hx hb dL_keys_189 (by decide) ?_
                    cases o2 hm
                    refine W.widen (k := 4) (n := 24) (Nat.le_of_ble_eq_true rfl) (Nat.le_of_ble_eq_true rfl) ?_
                    exact W.zret hx hb hr rfl (fun t ht hW => ⟨⟨_, (), rfl, rfl, by rw [ht]; exact hP, va_K.moved hW.alike hK, hD⟩, hS.F ht⟩) hS.2.2 dL_keys_190
      have hm := hq_125
      refine lv_icmp_le (tgt := 108) hx hb dL_keys_101 (by decide) (fun c_101 => ?_) (fun c_101 => ?_)
      · have hm := it_t hm c_101
        refine lv_aload_n hx hb dL_keys_108 rfl (lv_at hl 8 rfl) ?_
        refine lv_aload hx hb dL_keys_109 (lv_at hl 9 rfl) ?_
        refine lv_aload hx hb dL_keys_111 (lv_at hl 11 rfl) ?_
        refine lv_aload hx hb dL_keys_113 (lv_at hl 12 rfl) ?_
        refine lv_iload_n hx hb dL_keys_115 rfl (lv_at hl 7 rfl) ?_
        refine lv_i2l hx hb dL_keys_116 rfl ?_
        refine lv_lconst (v := 1) hx hb dL_keys_117 (by decide) ?_
        refine lv_ladd hx hb dL_keys_118 ?_
        obtain ⟨r119, h_119, hm⟩ := ob hm
        refine z_callSi (As := [.ref (aa 1), .ref (aa 0), .ref (aa 3), .ref (aa 4), .long ((Int32.toInt64 p3) + 1)]) (rest := []) ⟨hx, hb, hml, hown, hts⟩ (c_L_below l dC dI cI aa vm vr vh vl vq F ((Int32.toInt64 p3) + 1) r119 h_119) (va_cwS 5 hts gL_keys_L_below rfl rfl rfl ks_L_below ⟨Nat.le_of_ble_eq_true rfl, Nat.le_of_ble_eq_true rfl⟩) hK (z_mid (pjQ_5 cI aa ad vm vr vh vl vq zk zm zb zs zr zu zt zf zg zbd zro zmc zmg zsp zjn vm vr vh vl vq) hP) rfl hl.1 rfl (Nat.le_of_ble_eq_true rfl) dL_keys_119 ⟨Nat.zero_le _, Nat.zero_le _⟩ ?_
        refine lv_iload hx hb dL_keys_122 (lv_at hl 3 rfl) ?_
        refine lv_isub hx hb dL_keys_124 ?_
        exact J_125 (r119 - r24) (o2 hm)
      · have hm := it_f hm c_101
        refine lv_iconst (v := 0) hx hb dL_keys_104 (by decide) ?_
        refine lv_goto (tgt := 125) hx hb dL_keys_105 (by decide) ?_
        exact J_125 0 (o2 hm)
    have hm := hq_97
    refine lv_if_lt (tgt := 79) hx hb dL_keys_68 (by decide) (fun c_68 => ?_) (fun c_68 => ?_)
    · have hm := it_t hm c_68
      refine lv_aload hx hb dL_keys_79 (lv_at hl 10 rfl) ?_
      refine lv_aload hx hb dL_keys_81 (lv_at hl 11 rfl) ?_
      refine lv_iconst (v := 1) hx hb dL_keys_83 (by decide) ?_
      obtain ⟨c_84, hm⟩ := ck hm
      refine va_iald hx hb hK hP 4 0 rfl rfl c_84 dL_keys_84 ?_
      refine lv_iload_n hx hb dL_keys_85 rfl (lv_at hl 5 rfl) ?_
      obtain ⟨r86, h_86, hm⟩ := ob hm
      refine z_callSi (As := [.ref (aa 3), .int (vq (Int32.toNatClampNeg 1)), .int p2]) (rest := []) ⟨hx, hb, hml, hown, hts⟩ (c_L_find l dC dI cI (aa 3) 16 vl F (vq (Int32.toNatClampNeg 1)) p2 r86 h_86) (va_cwS 3 hts gL_keys_L_find rfl rfl rfl ks_L_find ⟨Nat.le_of_ble_eq_true rfl, Nat.le_of_ble_eq_true rfl⟩) hK (z_mid (pjQ_1vl cI aa ad vm vr vh vl vq zk zm zb zs zr zu zt zf zg zbd zro zmc zmg zsp zjn vl) hP) rfl hl.1 rfl (Nat.le_of_ble_eq_true rfl) dL_keys_86 ⟨Nat.zero_le _, Nat.zero_le _⟩ ?_
      refine lv_if_lt (tgt := 96) hx hb dL_keys_89 (by decide) (fun c_89 => ?_) (fun c_89 => ?_)
      · have hm := it_t hm c_89
        refine lv_iconst (v := 0) hx hb dL_keys_96 (by decide) ?_
        exact J_97 0 (o2 hm)
      · have hm := it_f hm c_89
        refine lv_iconst (v := 1) hx hb dL_keys_92 (by decide) ?_
        refine lv_goto (tgt := 97) hx hb dL_keys_93 (by decide) ?_
        exact J_97 1 (o2 hm)
    · have hm := it_f hm c_68
      refine lv_aload hx hb dL_keys_71 (lv_at hl 8 rfl) ?_
      refine lv_iload hx hb dL_keys_73 (lv_at hl 1 rfl) ?_
      obtain ⟨c_75, hm⟩ := ck hm
      refine va_iald hx hb hK hP 0 0 rfl rfl c_75 dL_keys_75 ?_
      refine lv_if_eq (tgt := 92) hx hb dL_keys_76 (by decide) (fun c_76 => ?_) (fun c_76 => ?_)
      · have hm := it_t hm c_76
        refine lv_iconst (v := 1) hx hb dL_keys_92 (by decide) ?_
        refine lv_goto (tgt := 97) hx hb dL_keys_93 (by decide) ?_
        exact J_97 1 (o2 hm)
      · have hm := it_f hm c_76
        refine lv_aload hx hb dL_keys_79 (lv_at hl 10 rfl) ?_
        refine lv_aload hx hb dL_keys_81 (lv_at hl 11 rfl) ?_
        refine lv_iconst (v := 1) hx hb dL_keys_83 (by decide) ?_
        obtain ⟨c_84, hm⟩ := ck hm
        refine va_iald hx hb hK hP 4 0 rfl rfl c_84 dL_keys_84 ?_
        refine lv_iload_n hx hb dL_keys_85 rfl (lv_at hl 5 rfl) ?_
        obtain ⟨r86_1, h_86, hm⟩ := ob hm
        refine z_callSi (As := [.ref (aa 3), .int (vq (Int32.toNatClampNeg 1)), .int p2]) (rest := []) ⟨hx, hb, hml, hown, hts⟩ (c_L_find l dC dI cI (aa 3) 16 vl F (vq (Int32.toNatClampNeg 1)) p2 r86_1 h_86) (va_cwS 3 hts gL_keys_L_find rfl rfl rfl ks_L_find ⟨Nat.le_of_ble_eq_true rfl, Nat.le_of_ble_eq_true rfl⟩) hK (z_mid (pjQ_1vl cI aa ad vm vr vh vl vq zk zm zb zs zr zu zt zf zg zbd zro zmc zmg zsp zjn vl) hP) rfl hl.1 rfl (Nat.le_of_ble_eq_true rfl) dL_keys_86 ⟨Nat.zero_le _, Nat.zero_le _⟩ ?_
        refine lv_if_lt (tgt := 96) hx hb dL_keys_89 (by decide) (fun c_89 => ?_) (fun c_89 => ?_)
        · have hm := it_t hm c_89
          refine lv_iconst (v := 0) hx hb dL_keys_96 (by decide) ?_
          exact J_97 0 (o2 hm)
        · have hm := it_f hm c_89
          refine lv_iconst (v := 1) hx hb dL_keys_92 (by decide) ?_
          refine lv_goto (tgt := 97) hx hb dL_keys_93 (by decide) ?_
          exact J_97 1 (o2 hm)
  have L_43 : ∀ (n : Nat) (x11 : Int32), L_keys_L43 p2 vr vq n x11 = some z_43 → ∀ (ls : Array Slot), lv_has ls 24 [(11, .int x11), (10, .int r35), (9, .int r24), (8, .int r10), (0, .ref (ad 0)), (1, .int p2), (2, .int p3), (3, .ref (aa 1)), (4, .ref (aa 0)), (5, .ref (aa 2)), (6, .ref (aa 3)), (7, .ref (aa 4))] → W p l e (headSpec wsL_keys ({ frames := 9, cells := 4, slots := 24, locals := 183 } : Room)).room s m ([.ref (ad 0), .int p2, .int p3, .ref (aa 1), .ref (aa 0), .ref (aa 2), .ref (aa 3), .ref (aa 4)] : List Value).toArray below meth c H locs 0 0 (MQ below (zQi (dC, dI) (wQ cI aa ad vm vr vh vl vq u_zk u_zm u_zb u_zs u_zr u_zu u_zt u_zf u_zg u_zbd u_zro u_zmc u_zmg u_zsp u_zjn) [(cI, .int)] A r) ([.ref (ad 0), .int p2, .int p3, .ref (aa 1), .ref (aa 0), .ref (aa 2), .ref (aa 3), .ref (aa 4)] : List Value).toArray s 4 24 A) (F0 m 43 ls []) := by
    intro n
    induction n with
    | zero => intro x11 hm; cases hm
    | succ n ih_43 =>
      intro x11 hm ls hl
      refine lv_iload hx hb dL_keys_43 (lv_at hl 0 rfl) ?_
      refine lv_aload hx hb dL_keys_45 (lv_at hl 11 rfl) ?_
      refine lv_iconst (v := 0) hx hb dL_keys_47 (by decide) ?_
      obtain ⟨c_48, hm⟩ := ck hm
      refine va_iald hx hb hK hP 4 0 rfl rfl c_48 dL_keys_48 ?_
      refine lv_icmp_ge (tgt := 66) hx hb dL_keys_49 (by decide) (fun c_49 => ?_) (fun c_49 => ?_)
      · have hm := it_t hm c_49
        exact K_43 x11 (o2 hm) _ (lv_sub hl [0, 1, 2, 3, 4, 5, 6, 7, 8, 9, 10, 11] rfl)
      · have hm := it_f hm c_49
        refine lv_aload_n hx hb dL_keys_52 rfl (lv_at hl 7 rfl) ?_
        refine lv_iload hx hb dL_keys_53 (lv_at hl 0 rfl) ?_
        obtain ⟨c_55, hm⟩ := ck hm
        refine va_iald hx hb hK hP 1 0 rfl rfl c_55 dL_keys_55 ?_
        refine lv_iload_n hx hb dL_keys_56 rfl (lv_at hl 5 rfl) ?_
        refine lv_icmp_ge (tgt := 66) hx hb dL_keys_57 (by decide) (fun c_57 => ?_) (fun c_57 => ?_)
        · have hm := it_t hm c_57
          exact K_43 x11 (o2 hm) _ (lv_sub hl [0, 1, 2, 3, 4, 5, 6, 7, 8, 9, 10, 11] rfl)
        · have hm := it_f hm c_57
          obtain ⟨x11_1, e_x11_1⟩ : ∃ y : Int32, y = x11 + 1 := ⟨_, rfl⟩
          have hm := bnd_e hm e_x11_1
          refine lv_iinc (v := x11_1) (lv' := [(11, .int x11_1), (10, .int r35), (9, .int r24), (8, .int r10), (0, .ref (ad 0)), (1, .int p2), (2, .int p3), (3, .ref (aa 1)), (4, .ref (aa 0)), (5, .ref (aa 2)), (6, .ref (aa 3)), (7, .ref (aa 4))]) hx hb dL_keys_60 hl (k := 0) rfl (by rw [e_x11_1]; rfl) (by decide) rfl (fun ls hl => ?_)
          refine lv_goto (tgt := 43) hx hb dL_keys_63 (by decide) ?_
          exact ih_43 x11_1 hm _ (lv_sub hl [0, 1, 2, 3, 4, 5, 6, 7, 8, 9, 10, 11] rfl)
  exact L_43 F 0 hq_43 _ (lv_sub hl [0, 1, 2, 3, 4, 5, 6, 7, 8, 9, 10, 11] rfl)
