/-! the loop of the law -/
theorem ks_L_cell : yL_cell.cls ≠ "java/lang/invoke/MethodHandle" ∧ yL_cell.cls ≠ "java/lang/invoke/VarHandle" ∧ (parseMethodDescriptor yL_cell.desc).map (fun d => d.parameters.length) = some 2 := by decide +kernel
set_option maxHeartbeats 4000000 in
set_option maxRecDepth 100000 in
theorem law_1188 {p : Program} {l : Launch} {e : Env} {s : State} {m : MethodId} {below : List Frame} {meth : Method} {c : Code} {b L : Nat} {xs : Nat → Int32} (hL : L ≤ 260) (C0 : lw_At p s m meth c b L xs) (hl9 : l.stackTraces = false) {dC : Nat → ClassId} {dI : Nat → Nat → Nat} (cI : ClassId) (aa ad : Nat → Nat) {sa : Nat → Nat} (hK : va_K (dC, dI) vwCl [(cI, .int)] s) (hV : zV sa (fun q : Nat => s.heap.size ≤ q) s s.heap) (hNc : zNcs s) (k : Nat) (hk : k < 40) (ih : ∀ (vm : Nat → Int32) (vr : Nat → Int32) (vh : Nat → Int32) (vl : Nat → Int32) (vq : Nat → Int32) (zk : zN) (zm : zN) (zb : zN) (zs : zN) (zr : zN) (zu : zN) (zt : zT) (zf : zN) (zg : zN) (zbd : Int32) (zro : Int32) (zmc : Int32) (zmg : Int32) (zsp : Int32) (zjn : Int32) (H : Heap) (locs : List Loc) (ls : Array Slot), ZS (2000 + 1000 * ((k + 1 : Nat) : Int)) vm vr vh vl vq zk zm zb zs zr zu zt zbd zro zmc zmg zsp zjn → va_P (dC, dI) vwCl (wQ cI aa ad vm vr vh vl vq zk zm zb zs zr zu zt zf zg zbd zro zmc zmg zsp zjn) H → va_D (fun q : Nat => s.heap.size ≤ q) (wQ cI aa ad vm vr vh vl vq zk zm zb zs zr zu zt zf zg zbd zro zmc zmg zsp zjn) → va_S (fun q : Nat => s.heap.size ≤ q) s.heap H locs → lv_has ls 19 [(0, .ref b), (1, .ref (ad 0)), (2, .ref (aa 1)), (3, .ref (aa 0)), (4, .ref (aa 2)), (5, .ref (aa 3)), (6, .ref (aa 4)), (7, .int (J ((k + 1 : Nat) : Int)))] → W p l e room_1 s m #[Value.ref b] below meth c H locs (23 + 16 * (k + 1)) (2301 + 316 * (k + 1)) (lw_Z below #[Value.ref b] s) (F0 m 49 ls [])) (vm : Nat → Int32) (vr : Nat → Int32) (vh : Nat → Int32) (vl : Nat → Int32) (vq : Nat → Int32) (zk : zN) (zm : zN) (zb : zN) (zs : zN) (zr : zN) (zu : zN) (zt : zT) (zf : zN) (zg : zN) (zbd : Int32) (zro : Int32) (zmc : Int32) (zmg : Int32) (zsp : Int32) (zjn : Int32) (H : Heap) (locs : List Loc) (ls : Array Slot) (cells slots : Nat) (hcc : cells ≤ 23 + 16 * k + 16) (hss : slots ≤ 2301 + 316 * k + 316) (hZ : ZS (2000 + 1000 * (k : Int) + 1000) vm vr vh vl vq zk zm zb zs zr zu zt zbd zro zmc zmg zsp zjn) (hP : va_P (dC, dI) vwCl (wQ cI aa ad vm vr vh vl vq zk zm zb zs zr zu zt zf zg zbd zro zmc zmg zsp zjn) H) (hD : va_D (fun q : Nat => s.heap.size ≤ q) (wQ cI aa ad vm vr vh vl vq zk zm zb zs zr zu zt zf zg zbd zro zmc zmg zsp zjn)) (hS : va_S (fun q : Nat => s.heap.size ≤ q) s.heap H locs) (hl : lv_has ls 19 [(0, .ref b), (1, .ref (ad 0)), (2, .ref (aa 1)), (3, .ref (aa 0)), (4, .ref (aa 2)), (5, .ref (aa 3)), (6, .ref (aa 4)), (7, .int (J (k : Int)))]) : W p l e room_1 s m #[Value.ref b] below meth c H locs cells slots (lw_Z below #[Value.ref b] s) (F0 m 1188 ls []) := by
  obtain ⟨hx, hb, hr, hml, hown, hts, hX, hbl, hlocks, hgv⟩ := id C0
  rw [show 2000 + 1000 * (k : Int) + 1000 = 2000 + 1000 * ((k + 1 : Nat) : Int) by omega] at hZ
  refine lv_iinc (v := J ((k + 1 : Nat) : Int)) (lv' := [(7, .int (J ((k + 1 : Nat) : Int))), (0, .ref b), (1, .ref (ad 0)), (2, .ref (aa 1)), (3, .ref (aa 0)), (4, .ref (aa 2)), (5, .ref (aa 3)), (6, .ref (aa 4))]) hx hb dL_law_1188 hl (k := 7) rfl (J_succ k) (by decide) rfl (fun ls hl => ?_)
  refine lv_goto (tgt := 49) hx hb dL_law_1191 (by decide) ?_
  refine W.widen (k := (23 + 16 * (k + 1))) (n := (2301 + 316 * (k + 1))) (by omega) (by omega) ?_
  exact ih vm vr vh vl vq zk zm zb zs zr zu zt zf zg zbd zro zmc zmg zsp zjn H locs ls hZ hP hD hS (lv_sub hl [1, 2, 3, 4, 5, 6, 7, 0] rfl)
set_option maxHeartbeats 4000000 in
set_option maxRecDepth 100000 in
theorem law_1028 {p : Program} {l : Launch} {e : Env} {s : State} {m : MethodId} {below : List Frame} {meth : Method} {c : Code} {b L : Nat} {xs : Nat → Int32} (hL : L ≤ 260) (C0 : lw_At p s m meth c b L xs) (hl9 : l.stackTraces = false) {dC : Nat → ClassId} {dI : Nat → Nat → Nat} (cI : ClassId) (aa ad : Nat → Nat) {sa : Nat → Nat} (hK : va_K (dC, dI) vwCl [(cI, .int)] s) (hV : zV sa (fun q : Nat => s.heap.size ≤ q) s s.heap) (hNc : zNcs s) (k : Nat) (hk : k < 40) (ih : ∀ (vm : Nat → Int32) (vr : Nat → Int32) (vh : Nat → Int32) (vl : Nat → Int32) (vq : Nat → Int32) (zk : zN) (zm : zN) (zb : zN) (zs : zN) (zr : zN) (zu : zN) (zt : zT) (zf : zN) (zg : zN) (zbd : Int32) (zro : Int32) (zmc : Int32) (zmg : Int32) (zsp : Int32) (zjn : Int32) (H : Heap) (locs : List Loc) (ls : Array Slot), ZS (2000 + 1000 * ((k + 1 : Nat) : Int)) vm vr vh vl vq zk zm zb zs zr zu zt zbd zro zmc zmg zsp zjn → va_P (dC, dI) vwCl (wQ cI aa ad vm vr vh vl vq zk zm zb zs zr zu zt zf zg zbd zro zmc zmg zsp zjn) H → va_D (fun q : Nat => s.heap.size ≤ q) (wQ cI aa ad vm vr vh vl vq zk zm zb zs zr zu zt zf zg zbd zro zmc zmg zsp zjn) → va_S (fun q : Nat => s.heap.size ≤ q) s.heap H locs → lv_has ls 19 [(0, .ref b), (1, .ref (ad 0)), (2, .ref (aa 1)), (3, .ref (aa 0)), (4, .ref (aa 2)), (5, .ref (aa 3)), (6, .ref (aa 4)), (7, .int (J ((k + 1 : Nat) : Int)))] → W p l e room_1 s m #[Value.ref b] below meth c H locs (23 + 16 * (k + 1)) (2301 + 316 * (k + 1)) (lw_Z below #[Value.ref b] s) (F0 m 49 ls [])) (vm : Nat → Int32) (vr : Nat → Int32) (vh : Nat → Int32) (vl : Nat → Int32) (vq : Nat → Int32) (zk : zN) (zm : zN) (zb : zN) (zs : zN) (zr : zN) (zu : zN) (zt : zT) (zf : zN) (zg : zN) (zbd : Int32) (zro : Int32) (zmc : Int32) (zmg : Int32) (zsp : Int32) (zjn : Int32) (H : Heap) (locs : List Loc) (ls : Array Slot) (cells slots : Nat) (hcc : cells ≤ 23 + 16 * k + 4) (hss : slots ≤ 2301 + 316 * k + 128) (hZ : ZS (2000 + 1000 * (k : Int) + 1000) vm vr vh vl vq zk zm zb zs zr zu zt zbd zro zmc zmg zsp zjn) (x8 : Int32) (last key : Int) (hlast : -200000 ≤ last ∧ last ≤ 200000) (hkey : -200000 ≤ key ∧ key ≤ 200000) (hP : va_P (dC, dI) vwCl (wQ cI aa ad vm vr vh vl vq zk zm zb zs zr zu zt zf zg zbd zro zmc zmg zsp zjn) H) (hD : va_D (fun q : Nat => s.heap.size ≤ q) (wQ cI aa ad vm vr vh vl vq zk zm zb zs zr zu zt zf zg zbd zro zmc zmg zsp zjn)) (hS : va_S (fun q : Nat => s.heap.size ≤ q) s.heap H locs) (hl : lv_has ls 19 [(0, .ref b), (1, .ref (ad 0)), (2, .ref (aa 1)), (3, .ref (aa 0)), (4, .ref (aa 2)), (5, .ref (aa 3)), (6, .ref (aa 4)), (7, .int (J (k : Int))), (8, .int x8), (11, .int (J last)), (12, .int (J key))]) : W p l e room_1 s m #[Value.ref b] below meth c H locs cells slots (lw_Z below #[Value.ref b] s) (F0 m 1028 ls []) := by
  obtain ⟨zf', hm⟩ := lg1028 (F := 2000) (Nat.le_refl _) (by omega) hZ zf zg x8 hlast hkey
  exact s_L_seg1028 (cells := cells) (slots := slots) C0 hl9 cI aa ad (fun _ h => h) hK hV hNc vm vr vh vl vq zk zm zb zs zr zu zt zf zg zbd zro zmc zmg zsp zjn 2000 (J (k : Int)) x8 (J last) (J key) _ hm (fun v h => by cases h) (by show _ ≤ 600130; omega) (by show _ ≤ 7301080; omega) hP hD hS hl (fun uzk uzm uzb uzs uzr uzu uzt uzf uzg uzbd uzro uzmc uzmg uzsp uzjn e9 H locs hP hD hS ls hl => by
    cases e9
    exact law_1188 hL C0 hl9 cI aa ad hK hV hNc k hk ih _ _ _ _ _ _ _ _ _ _ _ _ _ _ _ _ _ _ _ _ H locs ls _ _ (by omega) (by omega) hZ hP hD hS hl)
set_option maxHeartbeats 4000000 in
set_option maxRecDepth 100000 in
theorem law_203 {p : Program} {l : Launch} {e : Env} {s : State} {m : MethodId} {below : List Frame} {meth : Method} {c : Code} {b L : Nat} {xs : Nat → Int32} (hL : L ≤ 260) (C0 : lw_At p s m meth c b L xs) (hl9 : l.stackTraces = false) {dC : Nat → ClassId} {dI : Nat → Nat → Nat} (cI : ClassId) (aa ad : Nat → Nat) {sa : Nat → Nat} (hK : va_K (dC, dI) vwCl [(cI, .int)] s) (hV : zV sa (fun q : Nat => s.heap.size ≤ q) s s.heap) (hNc : zNcs s) (k : Nat) (hk : k < 40) (ih : ∀ (vm : Nat → Int32) (vr : Nat → Int32) (vh : Nat → Int32) (vl : Nat → Int32) (vq : Nat → Int32) (zk : zN) (zm : zN) (zb : zN) (zs : zN) (zr : zN) (zu : zN) (zt : zT) (zf : zN) (zg : zN) (zbd : Int32) (zro : Int32) (zmc : Int32) (zmg : Int32) (zsp : Int32) (zjn : Int32) (H : Heap) (locs : List Loc) (ls : Array Slot), ZS (2000 + 1000 * ((k + 1 : Nat) : Int)) vm vr vh vl vq zk zm zb zs zr zu zt zbd zro zmc zmg zsp zjn → va_P (dC, dI) vwCl (wQ cI aa ad vm vr vh vl vq zk zm zb zs zr zu zt zf zg zbd zro zmc zmg zsp zjn) H → va_D (fun q : Nat => s.heap.size ≤ q) (wQ cI aa ad vm vr vh vl vq zk zm zb zs zr zu zt zf zg zbd zro zmc zmg zsp zjn) → va_S (fun q : Nat => s.heap.size ≤ q) s.heap H locs → lv_has ls 19 [(0, .ref b), (1, .ref (ad 0)), (2, .ref (aa 1)), (3, .ref (aa 0)), (4, .ref (aa 2)), (5, .ref (aa 3)), (6, .ref (aa 4)), (7, .int (J ((k + 1 : Nat) : Int)))] → W p l e room_1 s m #[Value.ref b] below meth c H locs (23 + 16 * (k + 1)) (2301 + 316 * (k + 1)) (lw_Z below #[Value.ref b] s) (F0 m 49 ls [])) (vm : Nat → Int32) (vr : Nat → Int32) (vh : Nat → Int32) (vl : Nat → Int32) (vq : Nat → Int32) (zk : zN) (zm : zN) (zb : zN) (zs : zN) (zr : zN) (zu : zN) (zt : zT) (zf : zN) (zg : zN) (zbd : Int32) (zro : Int32) (zmc : Int32) (zmg : Int32) (zsp : Int32) (zjn : Int32) (H : Heap) (locs : List Loc) (ls : Array Slot) (cells slots : Nat) (hcc : cells ≤ 23 + 16 * k) (hss : slots ≤ 2301 + 316 * k) (x8 x9 : Int32) (kk last key : Int) (hZT : ZT (2000 + 1000 * (k : Int)) last vm vr vh vl vq zk zm zb zs zr zu zt zbd zro zmc zmg zsp zjn) (hw0 : 2000 ≤ 2000 + 1000 * (k : Int) ∧ 2000 + 1000 * (k : Int) ≤ 100000) (hlw : -(2000 + 1000 * (k : Int)) ≤ last ∧ last ≤ 2000 + 1000 * (k : Int)) (hkw : -(2000 + 1000 * (k : Int)) - 60 ≤ key ∧ key ≤ 2000 + 1000 * (k : Int)) (hP : va_P (dC, dI) vwCl (wQ cI aa ad vm vr vh vl vq zk zm zb zs zr zu zt zf zg zbd zro zmc zmg zsp zjn) H) (hD : va_D (fun q : Nat => s.heap.size ≤ q) (wQ cI aa ad vm vr vh vl vq zk zm zb zs zr zu zt zf zg zbd zro zmc zmg zsp zjn)) (hS : va_S (fun q : Nat => s.heap.size ≤ q) s.heap H locs) (hl : lv_has ls 19 [(0, .ref b), (1, .ref (ad 0)), (2, .ref (aa 1)), (3, .ref (aa 0)), (4, .ref (aa 2)), (5, .ref (aa 3)), (6, .ref (aa 4)), (7, .int (J (k : Int))), (8, .int x8), (9, .int x9), (10, .int (J kk)), (11, .int (J last)), (12, .int (J key))]) : W p l e room_1 s m #[Value.ref b] below meth c H locs cells slots (lw_Z below #[Value.ref b] s) (F0 m 203 ls []) := by
  obtain ⟨hx, hb, hr, hml, hown, hts, hX, hbl, hlocks, hgv⟩ := id C0
  have hlast : -200000 ≤ last ∧ last ≤ 200000 := by omega
  have hkey : -200000 ≤ key ∧ key ≤ 200000 := by omega
  have hZ := ZT_ZS hZT
  refine lv_iload hx hb dL_law_203 (lv_at hl 10 rfl) ?_
  refine lv_iconst (v := 3) hx hb dL_law_205 (by decide) ?_
  refine lv_icmp_ge (tgt := 466) hx hb dL_law_206 (by decide) (fun _ => ?_) (fun _ => ?_)
  · refine lv_iload hx hb dL_law_466 (lv_at hl 10 rfl) ?_
    refine lv_bipush (v := 8) hx hb dL_law_468 (by decide) ?_
    refine lv_icmp_ge (tgt := 617) hx hb dL_law_470 (by decide) (fun _ => ?_) (fun _ => ?_)
    · refine lv_iload hx hb dL_law_617 (lv_at hl 10 rfl) ?_
      refine lv_bipush (v := 10) hx hb dL_law_619 (by decide) ?_
      refine lv_icmp_ge (tgt := 781) hx hb dL_law_621 (by decide) (fun _ => ?_) (fun _ => ?_)
      · refine lv_iload hx hb dL_law_781 (lv_at hl 10 rfl) ?_
        refine lv_bipush (v := 10) hx hb dL_law_783 (by decide) ?_
        refine lv_icmp_ne (tgt := 812) hx hb dL_law_785 (by decide) (fun _ => ?_) (fun _ => ?_)
        · obtain ⟨vm', vr', vh', vq', zk', zm', zb', zs', zr', zu', zt', zf', zg', zbd', zro', zmc', zmg', zsp', zjn', hm, hZ2⟩ := lg812 (F := 2000) (Nat.le_refl _) hw0 hZ zf zg x9
          exact s_L_seg812 (cells := cells) (slots := slots) C0 hl9 cI aa ad (fun _ h => h) hK hV hNc vm vr vh vl vq zk zm zb zs zr zu zt zf zg zbd zro zmc zmg zsp zjn 2000 (J (k : Int)) x8 x9 (J kk) (J last) (J key) _ hm (fun v h => by cases h) (by show _ ≤ 600130; omega) (by show _ ≤ 7301080; omega) hP hD hS hl (fun uvm uvr uvh uvq uzk uzm uzb uzs uzr uzu uzt uzf uzg uzbd uzro uzmc uzmg uzsp uzjn e9 H locs hP hD hS ls hl => by
            cases e9
            exact law_1028 hL C0 hl9 cI aa ad hK hV hNc k hk ih _ _ _ _ _ _ _ _ _ _ _ _ _ _ _ _ _ _ _ _ H locs ls _ _ (by omega) (by omega) hZ2 x8 last key hlast hkey hP hD hS hl)
        · obtain ⟨vm', vr', vh', vq', zk', zm', zb', zs', zr', zu', zt', zf', zg', zmc', zmg', zsp', zjn', hm, hZ2⟩ := lg788 (F := 2000) (Nat.le_refl _) hw0 hZ zf zg
          exact s_L_seg788 (cells := cells) (slots := slots) C0 hl9 cI aa ad (fun _ h => h) hK hV hNc vm vr vh vl vq zk zm zb zs zr zu zt zf zg zbd zro zmc zmg zsp zjn 2000 (J (k : Int)) x8 x9 (J kk) (J last) (J key) _ hm (fun v h => by cases h) (by show _ ≤ 600130; omega) (by show _ ≤ 7301080; omega) hP hD hS hl (fun uvm uvr uvh uvq uzk uzm uzb uzs uzr uzu uzt uzf uzg uzmc uzmg uzsp uzjn e9 H locs hP hD hS ls hl => by
            cases e9
            exact law_1028 hL C0 hl9 cI aa ad hK hV hNc k hk ih _ _ _ _ _ _ _ _ _ _ _ _ _ _ _ _ _ _ _ _ H locs ls _ _ (by omega) (by omega) hZ2 x8 last key hlast hkey hP hD hS hl)
      · obtain ⟨vm', vl', vq', zk', zm', zb', zs', zr', zu', zt', zf', zg', zbd', zro', zmc', zmg', zsp', zjn', h9, hZ2⟩ := lg624 (F := 2000) (Nat.le_refl _) hw0 hZ hkw zf zg x9
        rcases h9 with hm | hm
        · exact s_L_seg624 (cells := cells) (slots := slots) C0 hl9 cI aa ad (fun _ h => h) hK hV hNc vm vr vh vl vq zk zm zb zs zr zu zt zf zg zbd zro zmc zmg zsp zjn 2000 (J (k : Int)) x8 x9 (J kk) (J last) (J key) _ hm (fun v h => by cases h) (by show _ ≤ 600130; omega) (by show _ ≤ 7301080; omega) hP hD hS hl (fun uvm uvl uvq uzk uzm uzb uzs uzr uzu uzt uzf uzg uzbd uzro uzmc uzmg uzsp uzjn e9 H locs hP hD hS ls hl => by
          cases e9
          exact law_1028 hL C0 hl9 cI aa ad hK hV hNc k hk ih _ _ _ _ _ _ _ _ _ _ _ _ _ _ _ _ _ _ _ _ H locs ls _ _ (by omega) (by omega) hZ2 x8 last key hlast hkey hP hD hS hl) (fun uvm uvl uvq uzk uzm uzb uzs uzr uzu uzt uzf uzg uzbd uzro uzmc uzmg uzsp uzjn e9 H locs hP hD hS ls hl => by cases e9)
        · exact s_L_seg624 (cells := cells) (slots := slots) C0 hl9 cI aa ad (fun _ h => h) hK hV hNc vm vr vh vl vq zk zm zb zs zr zu zt zf zg zbd zro zmc zmg zsp zjn 2000 (J (k : Int)) x8 x9 (J kk) (J last) (J key) _ hm (fun v h => by cases h) (by show _ ≤ 600130; omega) (by show _ ≤ 7301080; omega) hP hD hS hl (fun uvm uvl uvq uzk uzm uzb uzs uzr uzu uzt uzf uzg uzbd uzro uzmc uzmg uzsp uzjn e9 H locs hP hD hS ls hl => by cases e9) (fun uvm uvl uvq uzk uzm uzb uzs uzr uzu uzt uzf uzg uzbd uzro uzmc uzmg uzsp uzjn e9 H locs hP hD hS ls hl => by
          cases e9
          exact law_1188 hL C0 hl9 cI aa ad hK hV hNc k hk ih _ _ _ _ _ _ _ _ _ _ _ _ _ _ _ _ _ _ _ _ H locs ls _ _ (by omega) (by omega) hZ2 hP hD hS hl)
    · obtain ⟨vm', vr', vh', vl', vq', zk', zm', zb', zs', zr', zu', zt', zf', zg', zbd', zro', zmc', zmg', zsp', zjn', h9, hZ2⟩ := lg473 (F := 2000) (Nat.le_refl _) hw0 hZ hkw zf zg
      rcases h9 with hm | hm
      · exact s_L_seg473 (cells := cells) (slots := slots) C0 hl9 cI aa ad (fun _ h => h) hK hV hNc vm vr vh vl vq zk zm zb zs zr zu zt zf zg zbd zro zmc zmg zsp zjn 2000 (J (k : Int)) x8 x9 (J kk) (J last) (J key) _ hm (fun v h => by cases h) (by show _ ≤ 600130; omega) (by show _ ≤ 7301080; omega) hP hD hS hl (fun uvm uvr uvh uvl uvq uzk uzm uzb uzs uzr uzu uzt uzf uzg uzbd uzro uzmc uzmg uzsp uzjn e9 H locs hP hD hS ls hl => by
        cases e9
        exact law_1028 hL C0 hl9 cI aa ad hK hV hNc k hk ih _ _ _ _ _ _ _ _ _ _ _ _ _ _ _ _ _ _ _ _ H locs ls _ _ (by omega) (by omega) hZ2 x8 last key hlast hkey hP hD hS hl) (fun uvm uvr uvh uvl uvq uzk uzm uzb uzs uzr uzu uzt uzf uzg uzbd uzro uzmc uzmg uzsp uzjn e9 H locs hP hD hS ls hl => by cases e9)
      · exact s_L_seg473 (cells := cells) (slots := slots) C0 hl9 cI aa ad (fun _ h => h) hK hV hNc vm vr vh vl vq zk zm zb zs zr zu zt zf zg zbd zro zmc zmg zsp zjn 2000 (J (k : Int)) x8 x9 (J kk) (J last) (J key) _ hm (fun v h => by cases h) (by show _ ≤ 600130; omega) (by show _ ≤ 7301080; omega) hP hD hS hl (fun uvm uvr uvh uvl uvq uzk uzm uzb uzs uzr uzu uzt uzf uzg uzbd uzro uzmc uzmg uzsp uzjn e9 H locs hP hD hS ls hl => by cases e9) (fun uvm uvr uvh uvl uvq uzk uzm uzb uzs uzr uzu uzt uzf uzg uzbd uzro uzmc uzmg uzsp uzjn e9 H locs hP hD hS ls hl => by
        cases e9
        exact law_1188 hL C0 hl9 cI aa ad hK hV hNc k hk ih _ _ _ _ _ _ _ _ _ _ _ _ _ _ _ _ _ _ _ _ H locs ls _ _ (by omega) (by omega) hZ2 hP hD hS hl)
  · obtain ⟨vm', vr', vh', vq', zk', zm', zb', zs', zr', zu', zt', zf', zg', zbd', zro', zmc', zmg', zsp', zjn', h9, hZ2⟩ := lg209 (F := 2000) (Nat.le_refl _) hw0 hZT hlw zf zg x8 (J kk)
    rcases h9 with hm | hm
    · exact s_L_seg209 (cells := cells) (slots := slots) C0 hl9 cI aa ad (fun _ h => h) hK hV hNc vm vr vh vl vq zk zm zb zs zr zu zt zf zg zbd zro zmc zmg zsp zjn 2000 (J (k : Int)) x8 x9 (J kk) (J last) (J key) _ hm (fun v h => by cases h) (by show _ ≤ 600130; omega) (by show _ ≤ 7301080; omega) hP hD hS hl (fun uvm uvr uvh uvq uzk uzm uzb uzs uzr uzu uzt uzf uzg uzbd uzro uzmc uzmg uzsp uzjn e9 H locs hP hD hS ls hl => by
      cases e9
      exact law_1028 hL C0 hl9 cI aa ad hK hV hNc k hk ih _ _ _ _ _ _ _ _ _ _ _ _ _ _ _ _ _ _ _ _ H locs ls _ _ (by omega) (by omega) hZ2 x8 last key hlast hkey hP hD hS hl) (fun uvm uvr uvh uvq uzk uzm uzb uzs uzr uzu uzt uzf uzg uzbd uzro uzmc uzmg uzsp uzjn e9 H locs hP hD hS ls hl => by cases e9)
    · exact s_L_seg209 (cells := cells) (slots := slots) C0 hl9 cI aa ad (fun _ h => h) hK hV hNc vm vr vh vl vq zk zm zb zs zr zu zt zf zg zbd zro zmc zmg zsp zjn 2000 (J (k : Int)) x8 x9 (J kk) (J last) (J key) _ hm (fun v h => by cases h) (by show _ ≤ 600130; omega) (by show _ ≤ 7301080; omega) hP hD hS hl (fun uvm uvr uvh uvq uzk uzm uzb uzs uzr uzu uzt uzf uzg uzbd uzro uzmc uzmg uzsp uzjn e9 H locs hP hD hS ls hl => by cases e9) (fun uvm uvr uvh uvq uzk uzm uzb uzs uzr uzu uzt uzf uzg uzbd uzro uzmc uzmg uzsp uzjn e9 H locs hP hD hS ls hl => by
      cases e9
      exact law_1188 hL C0 hl9 cI aa ad hK hV hNc k hk ih _ _ _ _ _ _ _ _ _ _ _ _ _ _ _ _ _ _ _ _ H locs ls _ _ (by omega) (by omega) hZ2 hP hD hS hl)
set_option maxHeartbeats 4000000 in
set_option maxRecDepth 100000 in
theorem law_loop {p : Program} {l : Launch} {e : Env} {s : State} {m : MethodId} {below : List Frame} {meth : Method} {c : Code} {b L : Nat} {xs : Nat → Int32} (hL : L ≤ 260) (C0 : lw_At p s m meth c b L xs) (hl9 : l.stackTraces = false) {dC : Nat → ClassId} {dI : Nat → Nat → Nat} (cI : ClassId) (aa ad : Nat → Nat) {sa : Nat → Nat} (hK : va_K (dC, dI) vwCl [(cI, .int)] s) (hV : zV sa (fun q : Nat => s.heap.size ≤ q) s s.heap) (hNc : zNcs s) : ∀ (n k : Nat), k ≤ 40 → 40 < k + n → ∀ (vm : Nat → Int32) (vr : Nat → Int32) (vh : Nat → Int32) (vl : Nat → Int32) (vq : Nat → Int32) (zk : zN) (zm : zN) (zb : zN) (zs : zN) (zr : zN) (zu : zN) (zt : zT) (zf : zN) (zg : zN) (zbd : Int32) (zro : Int32) (zmc : Int32) (zmg : Int32) (zsp : Int32) (zjn : Int32) (H : Heap) (locs : List Loc) (ls : Array Slot), ZS (2000 + 1000 * (k : Int)) vm vr vh vl vq zk zm zb zs zr zu zt zbd zro zmc zmg zsp zjn → va_P (dC, dI) vwCl (wQ cI aa ad vm vr vh vl vq zk zm zb zs zr zu zt zf zg zbd zro zmc zmg zsp zjn) H → va_D (fun q : Nat => s.heap.size ≤ q) (wQ cI aa ad vm vr vh vl vq zk zm zb zs zr zu zt zf zg zbd zro zmc zmg zsp zjn) → va_S (fun q : Nat => s.heap.size ≤ q) s.heap H locs → lv_has ls 19 [(0, .ref b), (1, .ref (ad 0)), (2, .ref (aa 1)), (3, .ref (aa 0)), (4, .ref (aa 2)), (5, .ref (aa 3)), (6, .ref (aa 4)), (7, .int (J (k : Int)))] → W p l e room_1 s m #[Value.ref b] below meth c H locs (23 + 16 * k) (2301 + 316 * k) (lw_Z below #[Value.ref b] s) (F0 m 49 ls []) := by
  obtain ⟨hx, hb, hr, hml, hown, hts, hX, hbl, hlocks, hgv⟩ := id C0
  have hown : s.vm.findClass RL = some m.cls := hown
  have htw : ∀ w ∈ wsL_law, w.before #[Value.ref b] s = true := fun w h => hts w (wsL_law_in w h)
  have hbA : ¬ (fun q : Nat => s.heap.size ≤ q) b := Nat.not_le.mpr hbl
  intro n
  induction n with
  | zero =>
    intro k h1 h2
    exact absurd h2 (by omega)
  | succ n ih =>
    intro k hk hn vm vr vh vl vq zk zm zb zs zr zu zt zf zg zbd zro zmc zmg zsp zjn H locs ls hZ hP hD hS hl
    refine lv_iload hx hb dL_law_49 (lv_at hl 7 rfl) ?_
    refine lv_bipush (v := 40) hx hb dL_law_51 (by decide) ?_
    refine lv_icmp_ge (tgt := 1194) hx hb dL_law_53 (by decide) (fun c_53 => ?_) (fun c_53 => ?_)
    · refine lv_iconst (v := 1) hx hb dL_law_1194 (by decide) ?_
      refine va_forget (fun q hq => hS.2.2 q hq) ?_
      refine W.widen (k := 600130) (n := 7301080) (by omega) (by omega) ?_
      exact lw_ret hx hb hr hlocks dL_law_1195
    · have hk2 : k < 40 := by
        rw [show (40 : Int32) = J 40 by decide +kernel, J_le (by omega) (by omega)] at c_53
        omega
      have e2 : (2 : Int32) * J (k : Int) = J ((2 * k : Nat) : Int) := by
        rw [J_2, J_mul]
        rfl
      refine lv_aload_n hx hb dL_law_56 rfl (lv_at hl 0 rfl) ?_
      refine lv_iconst (v := 2) hx hb dL_law_57 (by decide) ?_
      refine lv_iload hx hb dL_law_58 (lv_at hl 7 rfl) ?_
      refine lv_imul hx hb dL_law_60 ?_
      rw [e2]
      refine z_cell (As := [.ref b, .int (J ((2 * k : Nat) : Int))]) (rest := []) ⟨hx, hb, hml, hown, htw⟩ (c_L_cell l b L xs (2 * k) (by omega) hL) (va_cwS 2 htw gL_law_L_cell rfl rfl rfl ks_L_cell ⟨(Nat.le_of_ble_eq_true rfl), (Nat.le_of_ble_eq_true rfl)⟩) hX hbl hbA hS rfl hl.1 rfl (Nat.le_of_ble_eq_true rfl) dL_law_61 ⟨by show _ ≤ 600130; omega, by show _ ≤ 7301080; omega⟩ (fun x8 => ?_)
      refine lv_istore (lv' := [(8, .int x8), (0, .ref b), (1, .ref (ad 0)), (2, .ref (aa 1)), (3, .ref (aa 0)), (4, .ref (aa 2)), (5, .ref (aa 3)), (6, .ref (aa 4)), (7, .int (J (k : Int)))]) hx hb dL_law_64 hl (by decide) rfl (fun ls hl => ?_)
      refine lv_aload_n hx hb dL_law_66 rfl (lv_at hl 1 rfl) ?_
      refine lv_iconst (v := 2) hx hb dL_law_67 (by decide) ?_
      refine lv_iload hx hb dL_law_68 (lv_at hl 8 rfl) ?_
      refine lv_imul hx hb dL_law_70 ?_
      refine lv_iconst (v := 1) hx hb dL_law_71 (by decide) ?_
      refine lv_iadd hx hb dL_law_72 ?_
      rw [e2, J_succ]
      refine z_cell (As := [.ref b, .int (J ((2 * k + 1 : Nat) : Int))]) (rest := []) ⟨hx, hb, hml, hown, htw⟩ (c_L_cell l b L xs (2 * k + 1) (by omega) hL) (va_cwS 2 htw gL_law_L_cell rfl rfl rfl ks_L_cell ⟨(Nat.le_of_ble_eq_true rfl), (Nat.le_of_ble_eq_true rfl)⟩) hX hbl hbA hS rfl hl.1 rfl (Nat.le_of_ble_eq_true rfl) dL_law_73 ⟨by show _ ≤ 600130; omega, by show _ ≤ 7301080; omega⟩ (fun x9 => ?_)
      refine lv_istore (lv' := [(9, .int x9), (8, .int x8), (0, .ref b), (1, .ref (ad 0)), (2, .ref (aa 1)), (3, .ref (aa 0)), (4, .ref (aa 2)), (5, .ref (aa 3)), (6, .ref (aa 4)), (7, .int (J (k : Int)))]) hx hb dL_law_76 hl (by decide) rfl (fun ls hl => ?_)
      have hl := lv_sub hl (l' := [(0, .ref b), (1, .ref (ad 0)), (2, .ref (aa 1)), (3, .ref (aa 0)), (4, .ref (aa 2)), (5, .ref (aa 3)), (6, .ref (aa 4)), (7, .int (J (k : Int))), (8, .int x8), (9, .int x9)]) [2, 3, 4, 5, 6, 7, 8, 9, 1, 0] rfl
      have hw0 : 2000 ≤ 2000 + 1000 * (k : Int) ∧ 2000 + 1000 * (k : Int) ≤ 100000 := by omega
      obtain ⟨kk, last, key, hm, _, hlw, hkw, hZT⟩ := lg78 (F := 2000) (Nat.le_refl _) hw0 hZ (J (k : Int)) x8 x9
      exact s_L_seg78 (cells := (23 + 16 * k)) (slots := (2301 + 316 * k)) C0 hl9 cI aa ad (fun _ h => h) hK hV hNc vm vr vh vl vq zk zm zb zs zr zu zt zf zg zbd zro zmc zmg zsp zjn 2000 (J (k : Int)) x8 x9 _ hm (fun v h => by cases h) (by show _ ≤ 600130; omega) (by show _ ≤ 7301080; omega) hP hD hS hl (fun y10 y11 y12 e9 H locs hP hD hS ls hl => by
        cases e9
        exact law_203 hL C0 hl9 cI aa ad hK hV hNc k hk2 (ih (k + 1) (by omega) (by omega)) _ _ _ _ _ _ _ _ _ _ _ _ _ _ _ _ _ _ _ _ H locs ls _ _ (by omega) (by omega) x8 x9 kk last key hZT hw0 hlw hkw hP hD hS hl)
