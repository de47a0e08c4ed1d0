set_option maxHeartbeats 8000000 in
set_option maxRecDepth 100000 in
theorem s_L_seg78 {p : Program} {l : Launch} {e : Env} {s : State} {m : MethodId} {below : List Frame} {meth : Method} {c : Code} {b L : Nat} {xs : Nat → Int32} (C0 : lw_At p s m meth c b L xs) (hl9 : l.stackTraces = false) {dC : Nat → ClassId} {dI : Nat → Nat → Nat} (cI : ClassId) (aa : Nat → Nat) (ad : Nat → Nat) {sa : Nat → Nat} {A : Nat → Prop} (hA : ∀ q : Nat, s.heap.size ≤ q → A q) (hK : va_K (dC, dI) vwCl [(cI, .int)] s) (hV : zV sa A s s.heap) (hNc : zNcs s) (vm : Nat → Int32) (vr : Nat → Int32) (vh : Nat → Int32) (vl : Nat → Int32) (vq : Nat → Int32) (zk : zN) (zm : zN) (zb : zN) (zs : zN) (zr : zN) (zu : zN) (zt : zT) (zf : zN) (zg : zN) (zbd : Int32) (zro : Int32) (zmc : Int32) (zmg : Int32) (zsp : Int32) (zjn : Int32) (F : Nat) (x7 : Int32) (x8 : Int32) (x9 : Int32) (z : Int32 ⊕ (Int32 × Int32 × Int32)) (hm : L_seg78 F vr vl vq x7 x8 x9 = some z) (hz : ∀ v, z ≠ Sum.inl v) {cells slots : Nat} (hcc : cells + 0 ≤ room_1.cells) (hss : slots + 0 ≤ room_1.slots) {H : Heap} {locs : List Loc} {ls : Array Slot} (hP : va_P (dC, dI) vwCl (wQ cI aa ad vm vr vh vl vq zk zm zb zs zr zu zt zf zg zbd zro zmc zmg zsp zjn) H) (hD : va_D A (wQ cI aa ad vm vr vh vl vq zk zm zb zs zr zu zt zf zg zbd zro zmc zmg zsp zjn)) (hS : va_S A s.heap H locs) (hl : lv_has ls 19 [(0, .ref b), (1, .ref (ad 0)), (2, .ref (aa 1)), (3, .ref (aa 0)), (4, .ref (aa 2)), (5, .ref (aa 3)), (6, .ref (aa 4)), (7, .int x7), (8, .int x8), (9, .int x9)]) (K_203 : ∀ (y10 : Int32), ∀ (y11 : Int32), ∀ (y12 : Int32), z = Sum.inr (y10, y11, y12) → ∀ (H : Heap) (locs : List Loc), va_P (dC, dI) vwCl (wQ cI aa ad vm vr vh vl vq zk zm zb zs zr zu zt zf zg zbd zro zmc zmg zsp zjn) H → va_D A (wQ cI aa ad vm vr vh vl vq zk zm zb zs zr zu zt zf zg zbd zro zmc zmg zsp zjn) → va_S A s.heap H locs → ∀ (ls : Array Slot), lv_has ls 19 [(0, .ref b), (1, .ref (ad 0)), (2, .ref (aa 1)), (3, .ref (aa 0)), (4, .ref (aa 2)), (5, .ref (aa 3)), (6, .ref (aa 4)), (7, .int x7), (8, .int x8), (9, .int x9), (10, .int y10), (11, .int y11), (12, .int y12)] → W p l e room_1 s m #[Value.ref b] below meth c H locs (cells + 0) (slots + 0) (lw_Z below #[Value.ref b] s) (F0 m 203 ls [])) : W p l e room_1 s m #[Value.ref b] below meth c H locs (cells + 0) (slots + 0) (lw_Z below #[Value.ref b] s) (F0 m 78 ls []) := by
  obtain ⟨hx, hb, hr, hml, hown, hts, hX, hbl, hlocks, hgv⟩ := id C0
  have hown : s.vm.findClass RL = some m.cls := hown
  have htw : ∀ w ∈ wsL_law, w.before #[Value.ref b] s = true := fun w h => hts w (wsL_law_in w h)
  refine lv_iload hx hb dL_law_78 (lv_at hl 7 rfl) ?_
  refine lv_iconst (v := 2) hx hb dL_law_80 (by decide) ?_
  obtain ⟨z_100, hq_100, hm⟩ := ob hm
  have J_100 : ∀ (y100 : Int32), z_100 = y100 → W p l e room_1 s m #[Value.ref b] below meth c H locs (cells + 0) (slots + 0) (lw_Z below #[Value.ref b] s) (F0 m 100 ls [.int y100]) := by
    intro y100 ez
    rw [ez] at hm
    refine lv_istore (lv' := [(10, .int y100), (0, .ref b), (1, .ref (ad 0)), (2, .ref (aa 1)), (3, .ref (aa 0)), (4, .ref (aa 2)), (5, .ref (aa 3)), (6, .ref (aa 4)), (7, .int x7), (8, .int x8), (9, .int x9)]) hx hb dL_law_100 hl (by decide) rfl (fun ls hl => ?_)
    refine lv_aload hx hb dL_law_102 (lv_at hl 7 rfl) ?_
    refine lv_iconst (v := 0) hx hb dL_law_104 (by decide) ?_
    obtain ⟨c_105, hm⟩ := ck hm
    refine va_iald hx hb hK hP 4 0 rfl rfl c_105 dL_law_105 ?_
    obtain ⟨z_122, hq_122, hm⟩ := ob hm
    have J_122 : ∀ (y122 : Int32), z_122 = y122 → W p l e room_1 s m #[Value.ref b] below meth c H locs (cells + 0) (slots + 0) (lw_Z below #[Value.ref b] s) (F0 m 122 ls [.int y122]) := by
      intro y122 ez
      rw [ez] at hm
      refine lv_istore (lv' := [(11, .int y122), (10, .int y100), (0, .ref b), (1, .ref (ad 0)), (2, .ref (aa 1)), (3, .ref (aa 0)), (4, .ref (aa 2)), (5, .ref (aa 3)), (6, .ref (aa 4)), (7, .int x7), (8, .int x8), (9, .int x9)]) hx hb dL_law_122 hl (by decide) rfl (fun ls hl => ?_)
      refine lv_iconst (v := 0) hx hb dL_law_124 (by decide) ?_
      refine lv_istore (lv' := [(12, .int 0), (11, .int y122), (10, .int y100), (0, .ref b), (1, .ref (ad 0)), (2, .ref (aa 1)), (3, .ref (aa 0)), (4, .ref (aa 2)), (5, .ref (aa 3)), (6, .ref (aa 4)), (7, .int x7), (8, .int x8), (9, .int x9)]) hx hb dL_law_125 hl (by decide) rfl (fun ls hl => ?_)
      obtain ⟨z_127, hq_127, hm⟩ := ob hm
      have K_127 : ∀ (x11_2 : Int32), z_127 = x11_2 → ∀ (ls : Array Slot), lv_has ls 19 [(11, .int x11_2), (10, .int y100), (0, .ref b), (1, .ref (ad 0)), (2, .ref (aa 1)), (3, .ref (aa 0)), (4, .ref (aa 2)), (5, .ref (aa 3)), (6, .ref (aa 4)), (7, .int x7), (8, .int x8), (9, .int x9)] → W p l e room_1 s m #[Value.ref b] below meth c H locs (cells + 0) (slots + 0) (lw_Z below #[Value.ref b] s) (F0 m 164 ls []) := by
        intro x11_2 ez ls hl
        rw [ez] at hm
        refine lv_iload hx hb dL_law_164 (lv_at hl 11 rfl) ?_
        refine lv_iconst (v := 3) hx hb dL_law_166 (by decide) ?_
        obtain ⟨r167, h_167, hm⟩ := ob hm
        refine z_callSi (As := [.int x9, .int 3]) (rest := []) ⟨hx, hb, hml, hown, htw⟩ (c_L_low l dC dI F x9 3 r167 h_167) (va_cwS 2 htw gL_law_L_low rfl rfl rfl ks_L_low ⟨Nat.le_of_ble_eq_true rfl, Nat.le_of_ble_eq_true rfl⟩) (hK.sub (tys' := []) [] rfl) z_P0 rfl hl.1 rfl (Nat.le_of_ble_eq_true rfl) dL_law_167 ⟨Nat.le_trans (show cells + 0 + 0 ≤ cells + 0 by omega) hcc, Nat.le_trans (show slots + 0 + 0 ≤ slots + 0 by omega) hss⟩ ?_
        refine lv_if_ne (tgt := 189) hx hb dL_law_170 (by decide) (fun c_170 => ?_) (fun c_170 => ?_)
        · have hm := it_f hm c_170
          refine lv_iload hx hb dL_law_189 (lv_at hl 0 rfl) ?_
          refine lv_iload hx hb dL_law_191 (lv_at hl 11 rfl) ?_
          refine lv_iconst (v := 2) hx hb dL_law_193 (by decide) ?_
          refine lv_ishr hx hb dL_law_194 ?_
          refine lv_bipush (v := 60) hx hb dL_law_195 (by decide) ?_
          obtain ⟨r197, h_197, hm⟩ := ob hm
          refine z_callSi (As := [.int (x9 >>> (2 &&& 31)), .int 60]) (rest := [.int x11_2]) ⟨hx, hb, hml, hown, htw⟩ (c_L_low l dC dI F (x9 >>> (2 &&& 31)) 60 r197 h_197) (va_cwS 2 htw gL_law_L_low rfl rfl rfl ks_L_low ⟨Nat.le_of_ble_eq_true rfl, Nat.le_of_ble_eq_true rfl⟩) (hK.sub (tys' := []) [] rfl) z_P0 rfl hl.1 rfl (Nat.le_of_ble_eq_true rfl) dL_law_197 ⟨Nat.le_trans (show cells + 0 + 0 ≤ cells + 0 by omega) hcc, Nat.le_trans (show slots + 0 + 0 ≤ slots + 0 by omega) hss⟩ ?_
          refine lv_isub hx hb dL_law_200 ?_
          refine lv_topi (fun x12_3 e_x12_3 => ?_)
          have hm := bnd_e hm e_x12_3
          refine lv_istore (lv' := [(12, .int x12_3), (11, .int x11_2), (10, .int y100), (0, .ref b), (1, .ref (ad 0)), (2, .ref (aa 1)), (3, .ref (aa 0)), (4, .ref (aa 2)), (5, .ref (aa 3)), (6, .ref (aa 4)), (7, .int x7), (8, .int x8), (9, .int x9)]) hx hb dL_law_201 hl (by decide) rfl (fun ls hl => ?_)
          exact K_203 y100 x11_2 x12_3 (o2 hm) _ _ hP hD hS _ (lv_sub hl [3, 4, 5, 6, 7, 8, 9, 10, 11, 12, 2, 1, 0] rfl)
        · have hm := it_t hm c_170
          refine lv_iload hx hb dL_law_173 (lv_at hl 11 rfl) ?_
          refine lv_iconst (v := 2) hx hb dL_law_175 (by decide) ?_
          refine lv_ishr hx hb dL_law_176 ?_
          refine lv_sipush (v := 300) hx hb dL_law_177 (by decide) ?_
          obtain ⟨r180, h_180, hm⟩ := ob hm
          refine z_callSi (As := [.int (x9 >>> (2 &&& 31)), .int 300]) (rest := []) ⟨hx, hb, hml, hown, htw⟩ (c_L_low l dC dI F (x9 >>> (2 &&& 31)) 300 r180 h_180) (va_cwS 2 htw gL_law_L_low rfl rfl rfl ks_L_low ⟨Nat.le_of_ble_eq_true rfl, Nat.le_of_ble_eq_true rfl⟩) (hK.sub (tys' := []) [] rfl) z_P0 rfl hl.1 rfl (Nat.le_of_ble_eq_true rfl) dL_law_180 ⟨Nat.le_trans (show cells + 0 + 0 ≤ cells + 0 by omega) hcc, Nat.le_trans (show slots + 0 + 0 ≤ slots + 0 by omega) hss⟩ ?_
          refine lv_bipush (v := 100) hx hb dL_law_183 (by decide) ?_
          refine lv_isub hx hb dL_law_185 ?_
          refine lv_goto (tgt := 201) hx hb dL_law_186 (by decide) ?_
          refine lv_topi (fun x12_4 e_x12_4 => ?_)
          have hm := bnd_e hm e_x12_4
          refine lv_istore (lv' := [(12, .int x12_4), (11, .int x11_2), (10, .int y100), (0, .ref b), (1, .ref (ad 0)), (2, .ref (aa 1)), (3, .ref (aa 0)), (4, .ref (aa 2)), (5, .ref (aa 3)), (6, .ref (aa 4)), (7, .int x7), (8, .int x8), (9, .int x9)]) hx hb dL_law_201 hl (by decide) rfl (fun ls hl => ?_)
          exact K_203 y100 x11_2 x12_4 (o2 hm) _ _ hP hD hS _ (lv_sub hl [3, 4, 5, 6, 7, 8, 9, 10, 11, 12, 2, 1, 0] rfl)
      have L_127 : ∀ (n : Nat) (x12 : Int32) (x11 : Int32), L_seg78_L127 vl vq n x12 x11 = some z_127 → ∀ (ls : Array Slot), lv_has ls 19 [(12, .int x12), (11, .int x11), (10, .int y100), (0, .ref b), (1, .ref (ad 0)), (2, .ref (aa 1)), (3, .ref (aa 0)), (4, .ref (aa 2)), (5, .ref (aa 3)), (6, .ref (aa 4)), (7, .int x7), (8, .int x8), (9, .int x9)] → W p l e room_1 s m #[Value.ref b] below meth c H locs (cells + 0) (slots + 0) (lw_Z below #[Value.ref b] s) (F0 m 127 ls []) := by
        intro n
        induction n with
        | zero => intro x12 x11 hm; cases hm
        | succ n ih_127 =>
          intro x12 x11 hm ls hl
          refine lv_iload hx hb dL_law_127 (lv_at hl 0 rfl) ?_
          refine lv_aload hx hb dL_law_129 (lv_at hl 9 rfl) ?_
          refine lv_iconst (v := 1) hx hb dL_law_131 (by decide) ?_
          obtain ⟨c_132, hm⟩ := ck hm
          refine va_iald hx hb hK hP 4 0 rfl rfl c_132 dL_law_132 ?_
          refine lv_icmp_ge (tgt := 164) hx hb dL_law_133 (by decide) (fun c_133 => ?_) (fun c_133 => ?_)
          · have hm := it_t hm c_133
            exact K_127 x11 (o2 hm) _ (lv_sub hl [1, 2, 3, 4, 5, 6, 7, 8, 9, 10, 11, 12] rfl)
          · have hm := it_f hm c_133
            refine lv_aload hx hb dL_law_136 (lv_at hl 8 rfl) ?_
            refine lv_iload hx hb dL_law_138 (lv_at hl 0 rfl) ?_
            obtain ⟨c_140, hm⟩ := ck hm
            refine va_iald hx hb hK hP 3 0 rfl rfl c_140 dL_law_140 ?_
            refine lv_iload hx hb dL_law_141 (lv_at hl 1 rfl) ?_
            refine lv_icmp_le (tgt := 154) hx hb dL_law_143 (by decide) (fun c_143 => ?_) (fun c_143 => ?_)
            · have hm := it_t hm c_143
              refine lv_iload hx hb dL_law_154 (lv_at hl 1 rfl) ?_
              refine lv_istore (lv' := [(11, .int x11), (12, .int x12), (10, .int y100), (0, .ref b), (1, .ref (ad 0)), (2, .ref (aa 1)), (3, .ref (aa 0)), (4, .ref (aa 2)), (5, .ref (aa 3)), (6, .ref (aa 4)), (7, .int x7), (8, .int x8), (9, .int x9)]) hx hb dL_law_156 hl (by decide) rfl (fun ls hl => ?_)
              obtain ⟨x12_1, e_x12_1⟩ : ∃ y : Int32, y = x12 + 1 := ⟨_, rfl⟩
              have hm := bnd_e hm e_x12_1
              refine lv_iinc (v := x12_1) (lv' := [(12, .int x12_1), (11, .int x11), (10, .int y100), (0, .ref b), (1, .ref (ad 0)), (2, .ref (aa 1)), (3, .ref (aa 0)), (4, .ref (aa 2)), (5, .ref (aa 3)), (6, .ref (aa 4)), (7, .int x7), (8, .int x8), (9, .int x9)]) hx hb dL_law_158 hl (k := 1) rfl (by rw [e_x12_1]; rfl) (by decide) rfl (fun ls hl => ?_)
              refine lv_goto (tgt := 127) hx hb dL_law_161 (by decide) ?_
              exact ih_127 x12_1 x11 hm _ (lv_sub hl [0, 1, 2, 3, 4, 5, 6, 7, 8, 9, 10, 11, 12] rfl)
            · have hm := it_f hm c_143
              refine lv_aload hx hb dL_law_146 (lv_at hl 8 rfl) ?_
              refine lv_iload hx hb dL_law_148 (lv_at hl 0 rfl) ?_
              obtain ⟨c_150, hm⟩ := ck hm
              refine va_iald hx hb hK hP 3 0 rfl rfl c_150 dL_law_150 ?_
              refine lv_goto (tgt := 156) hx hb dL_law_151 (by decide) ?_
              refine lv_topi (fun x11_1 e_x11_1 => ?_)
              have hm := bnd_e hm e_x11_1
              refine lv_istore (lv' := [(11, .int x11_1), (12, .int x12), (10, .int y100), (0, .ref b), (1, .ref (ad 0)), (2, .ref (aa 1)), (3, .ref (aa 0)), (4, .ref (aa 2)), (5, .ref (aa 3)), (6, .ref (aa 4)), (7, .int x7), (8, .int x8), (9, .int x9)]) hx hb dL_law_156 hl (by decide) rfl (fun ls hl => ?_)
              obtain ⟨x12_2, e_x12_2⟩ : ∃ y : Int32, y = x12 + 1 := ⟨_, rfl⟩
              have hm := bnd_e hm e_x12_2
              refine lv_iinc (v := x12_2) (lv' := [(12, .int x12_2), (11, .int x11_1), (10, .int y100), (0, .ref b), (1, .ref (ad 0)), (2, .ref (aa 1)), (3, .ref (aa 0)), (4, .ref (aa 2)), (5, .ref (aa 3)), (6, .ref (aa 4)), (7, .int x7), (8, .int x8), (9, .int x9)]) hx hb dL_law_158 hl (k := 1) rfl (by rw [e_x12_2]; rfl) (by decide) rfl (fun ls hl => ?_)
              refine lv_goto (tgt := 127) hx hb dL_law_161 (by decide) ?_
              exact ih_127 x12_2 x11_1 hm _ (lv_sub hl [0, 1, 2, 3, 4, 5, 6, 7, 8, 9, 10, 11, 12] rfl)
      exact L_127 F 0 y122 hq_127 _ (lv_sub hl [0, 1, 2, 3, 4, 5, 6, 7, 8, 9, 10, 11, 12] rfl)
    have hm := hq_122
    refine lv_if_ne (tgt := 114) hx hb dL_law_106 (by decide) (fun c_106 => ?_) (fun c_106 => ?_)
    · have hm := it_f hm c_106
      refine lv_aload_n hx hb dL_law_114 rfl (lv_at hl 3 rfl) ?_
      refine lv_aload hx hb dL_law_115 (lv_at hl 7 rfl) ?_
      refine lv_iconst (v := 0) hx hb dL_law_117 (by decide) ?_
      obtain ⟨c_118, hm⟩ := ck hm
      refine va_iald hx hb hK hP 4 0 rfl rfl c_118 dL_law_118 ?_
      refine lv_iconst (v := 1) hx hb dL_law_119 (by decide) ?_
      refine lv_isub hx hb dL_law_120 ?_
      obtain ⟨c_121, hm⟩ := ck hm
      refine va_iald hx hb hK hP 1 0 rfl rfl c_121 dL_law_121 ?_
      exact J_122 (vr (Int32.toNatClampNeg ((vq (Int32.toNatClampNeg 0)) - 1))) (o2 hm)
    · have hm := it_t hm c_106
      refine lv_bipush (v := (-100)) hx hb dL_law_109 (by decide) ?_
      refine lv_goto (tgt := 122) hx hb dL_law_111 (by decide) ?_
      exact J_122 (-100) (o2 hm)
  have hm := hq_100
  refine lv_icmp_ge (tgt := 93) hx hb dL_law_81 (by decide) (fun c_81 => ?_) (fun c_81 => ?_)
  · have hm := it_t hm c_81
    refine lv_iload hx hb dL_law_93 (lv_at hl 8 rfl) ?_
    refine lv_bipush (v := 12) hx hb dL_law_95 (by decide) ?_
    obtain ⟨r97, h_97, hm⟩ := ob hm
    refine z_callSi (As := [.int x8, .int 12]) (rest := []) ⟨hx, hb, hml, hown, htw⟩ (c_L_low l dC dI F x8 12 r97 h_97) (va_cwS 2 htw gL_law_L_low rfl rfl rfl ks_L_low ⟨Nat.le_of_ble_eq_true rfl, Nat.le_of_ble_eq_true rfl⟩) (hK.sub (tys' := []) [] rfl) z_P0 rfl hl.1 rfl (Nat.le_of_ble_eq_true rfl) dL_law_97 ⟨Nat.le_trans (show cells + 0 + 0 ≤ cells + 0 by omega) hcc, Nat.le_trans (show slots + 0 + 0 ≤ slots + 0 by omega) hss⟩ ?_
    exact J_100 r97 (o2 hm)
  · have hm := it_f hm c_81
    refine lv_iload hx hb dL_law_84 (lv_at hl 8 rfl) ?_
    refine lv_iconst (v := 3) hx hb dL_law_86 (by decide) ?_
    obtain ⟨r87, h_87, hm⟩ := ob hm
    refine z_callSi (As := [.int x8, .int 3]) (rest := []) ⟨hx, hb, hml, hown, htw⟩ (c_L_low l dC dI F x8 3 r87 h_87) (va_cwS 2 htw gL_law_L_low rfl rfl rfl ks_L_low ⟨Nat.le_of_ble_eq_true rfl, Nat.le_of_ble_eq_true rfl⟩) (hK.sub (tys' := []) [] rfl) z_P0 rfl hl.1 rfl (Nat.le_of_ble_eq_true rfl) dL_law_87 ⟨Nat.le_trans (show cells + 0 + 0 ≤ cells + 0 by omega) hcc, Nat.le_trans (show slots + 0 + 0 ≤ slots + 0 by omega) hss⟩ ?_
    refine lv_goto (tgt := 100) hx hb dL_law_90 (by decide) ?_
    exact J_100 r87 (o2 hm)
