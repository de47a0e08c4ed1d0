/-! what a throwing method's contract carries, its ends, and calls of throwing methods -/
section ZX
def xN : Nat → String := fun k => match k with
  | 1 => "java/lang/IllegalArgumentException"
  | 2 => "java/lang/IllegalStateException"
  | 3 => "java/lang/IndexOutOfBoundsException"
  | _ => "java/util/NoSuchElementException"
def zNg : List Cond := [.declares (Bundle.initS "java/lang/RuntimeException"), .declares (Bundle.initS "java/lang/Exception"), .declares (Bundle.initS Bundle.tN), .castable (xN 1) (xN 1), .castable (xN 2) (xN 2), .castable (xN 3) (xN 3), .castable (xN 4) (xN 4)]
theorem zNg_ot : ∀ w ∈ zNg, vx_ot w = true := by decide +kernel
theorem zNg_warm {s U : State} (hW : s.WarmedH U.vm) (h : ∀ w ∈ zNg, w.before #[] s = true) : ∀ w ∈ zNg, w.before #[] U = true := by
  intro w hw
  have h1 := h w hw
  simp only [zNg, List.mem_cons, List.not_mem_nil, or_false] at hw
  rcases hw with rfl | rfl | rfl | rfl | rfl | rfl | rfl
  · exact va_Nw.warmD hW h1
  · exact va_Nw.warmD hW h1
  · exact va_Nw.warmD hW h1
  · exact va_Nw.warmC hW h1
  · exact va_Nw.warmC hW h1
  · exact va_Nw.warmC hW h1
  · exact va_Nw.warmC hW h1
def zTxs : List (Nat × String) := [(82, "step or many out of range"), (100, "key is there, or no room"), (111, "key is not there"), (126, "bound or room out of range"), (142, "not so many keys"), (148, "all keys are less"), (190, "key out of range"), (195, "no such piece"), (197, "no room, or a key is not less")]
def zTx (sa : Nat → Nat) (U : State) : Prop := ∀ k ∈ zTxs, vk_R RX2 k.1 k.2 (sa k.1) U
def zV (sa : Nat → Nat) (A : Nat → Prop) (U : State) (H : Heap) : Prop := zTx sa U ∧ (∀ w ∈ zNg, w.before #[] U = true) ∧ vx_Zq Bundle.tN "UNASSIGNED_STACK" Bundle.steD A U H ∧ vx_Zq Bundle.tN "SUPPRESSED_SENTINEL" Bundle.listD A U H
theorem zV_call {sa : Nat → Nat} {A B : Nat → Prop} {s U : State} {H : Heap} {locs : List Loc} (h : zV sa A s s.heap) (hS : va_S A s.heap H locs) (hF : ∀ q, B q → A q) (hU : U.heap = H) (hW : s.WarmedH U.vm) : zV sa B U U.heap := by
  obtain ⟨h1, h2, h3, h4⟩ := h
  rw [hU]
  exact ⟨fun k hk => vk_R.warm hW (h1 k hk), zNg_warm hW h2, vx_Zq.moved hW.alike ((h3.kept hS.2.1).narrow hF), vx_Zq.moved hW.alike ((h4.kept hS.2.1).narrow hF)⟩
theorem zV_ng {sa : Nat → Nat} {A : Nat → Prop} {s : State} {H : Heap} {args : Array Value} (h : zV sa A s H) : ∀ w ∈ zNg, w.before args s = true := fun w hw => vx_ot_at (State.WarmedH.refl s) rfl (zNg_ot w hw) (h.2.1 w hw)
def zX (D : va_G) (ws : va_W) (tys : List (ClassId × FieldType)) (sz : Nat) (sa : Nat → Nat) : State → Prop := fun U => zW D ws tys sz U ∧ zV sa (va_A ws sz) U U.heap
theorem zX_bl {av : List Value} {D : va_G} {ws : va_W} {tys : List (ClassId × FieldType)} {sz : Nat} {sa : Nat → Nat} : FrameBlind (va_Pc av (zX D ws tys sz sa)) := fun a U g mk q => ⟨q.1, (zW_bl a U g mk ⟨q.1, q.2.1⟩).2, fun k hk => vk_R.same (u := U) (U := U.calling g mk a) rfl (q.2.2.1 k hk), fun w hw => vx_ot_at (s := U) (U := U.calling g mk a) (State.WarmedH.refl U) rfl (zNg_ot w hw) (q.2.2.2.1 w hw), vx_Zq.moved (u := U) (U := U.calling g mk a) (Vm.Alike.refl U.vm) q.2.2.2.2.1, vx_Zq.moved (u := U) (U := U.calling g mk a) (Vm.Alike.refl U.vm) q.2.2.2.2.2⟩
def zXC {T : Type} (D : va_G) (ws : va_W) (tys : List (ClassId × FieldType)) (A : Nat → Prop) (z : Nat ⊕ T) : String → State → State → Prop := vx_X (fun k : Nat => z = Sum.inl k) (fun E k t => E = xN k ∧ va_P D vwCl ws t.heap ∧ va_K D vwCl tys t ∧ va_D A ws) A
def zXB {U : Type} (D : va_G) (w1 : U → va_W) (tys : List (ClassId × FieldType)) (A : Nat → Prop) : U → State → Prop := fun u t => va_P D vwCl (w1 u) t.heap ∧ va_K D vwCl tys t ∧ va_D A (w1 u)
def zXi {U : Type} (D : va_G) (w1 : U → va_W) (tys : List (ClassId × FieldType)) (A : Nat → Prop) (post : Int32 → U → Prop) : Array Value → State → Outcome → State → Prop := va_Qi post (zXB D w1 tys A) A
def zXl {U : Type} (D : va_G) (w1 : U → va_W) (tys : List (ClassId × FieldType)) (A : Nat → Prop) (post : Int64 → U → Prop) : Array Value → State → Outcome → State → Prop := va_Ql post (zXB D w1 tys A) A
def zXv {U : Type} (D : va_G) (w1 : U → va_W) (tys : List (ClassId × FieldType)) (A : Nat → Prop) (post : U → Prop) : Array Value → State → Outcome → State → Prop := va_Qv post (zXB D w1 tys A) A
variable {p : Program} {l : Launch} {e : Env} {R : Room} {s : State} {m : MethodId} {args : Array Value} {below : List Frame} {meth : Method} {c : Code} {H : Heap} {locs : List Loc} {cells slots : Nat} {Q : State → Prop} {cc bytes : ByteArray} {pc nL maxL n index ci mc ms : Nat} {ls : Array Slot} {st As rest : List Value} {own C : String} {y : MethodName} {ret : Option FieldType} {wy Ts : List Cond} {rm : Room} {b : Addr} {D : va_G} {tys : List (ClassId × FieldType)} {ws wc : va_W} {A0 : Nat → Prop} {fs : List Value} {q : vw_C} {sa : Nat → Nat}
theorem z_xc {T : Type} {z : Nat ⊕ T} {k : Nat} {A : Nat → Prop} (hz : z = Sum.inl k) (hP : va_P D vwCl ws H) (hK : va_K D vwCl tys s) (hD : va_D A ws) (hS : va_S A s.heap H locs) : ∀ t : State, t.heap = H → s.vm.Alike t.vm → zXC D ws tys A z (xN k) s t := fun t ht hvm => ⟨k, hz, ⟨rfl, by rw [ht]; exact hP, va_K.moved hvm hK, hD⟩, hS.F ht⟩
theorem z_xt {T : Type} {z : Nat ⊕ T} {k : Nat} {A : Nat → Prop} {E : String} (hE : E = xN k) (hz : z = Sum.inl k) (hP : va_P D vwCl ws H) (hK : va_K D vwCl tys s) (hD : va_D A ws) (hS : va_S A s.heap H locs) : ∀ t : State, s.vm.Alike t.vm → H.size ≤ t.heap.size → (∀ q : Nat, q < H.size → t.heap[q]? = H[q]?) → zXC D ws tys A z E s t := fun t hvm hsz hq => ⟨k, hz, ⟨hE, fun i x hx => (hP i x hx).kept (hq x.1 (hP i x hx).lt), va_K.moved hvm hK, hD⟩, ⟨Nat.le_trans hS.1 hsz, fun a h1 h2 => (hq a (Nat.lt_of_lt_of_le h1 hS.1)).trans (hS.2.1 a h1 h2)⟩⟩
theorem z_preXV (hV : zV sa A0 s s.heap) (hS : va_S A0 s.heap H locs) (hF : ∀ q, va_A wc H.size q → A0 q) (hK : va_K D vwCl tys s) (hP : va_P D vwCl wc H) (hD : va_D A0 wc) (hc : vwCl[ci]? = some q) (he : wc[0]? = some (b, .inr (ci, fs))) (hC : q.1 = C) : PreV s H C b (va_Pc (.ref b :: As) (zX D wc tys H.size sa)) As := by
  subst hC
  exact ⟨zX_bl, va_recv hK hP hc he, fun U hU hW => ⟨rfl, ⟨by rw [hU], by rw [hU]; exact hP, va_K.moved hW.alike hK, hD.weaken (fun _ _ _ _ => trivial)⟩, zV_call hV hS hF hU hW⟩⟩
theorem z_preXS (hV : zV sa A0 s s.heap) (hS : va_S A0 s.heap H locs) (hF : ∀ q, va_A wc H.size q → A0 q) (hK : va_K D vwCl tys s) (hP : va_P D vwCl wc H) (hD : va_D A0 wc) : PreS s H (va_Pc As (zX D wc tys H.size sa)) As := ⟨zX_bl, fun U hU hW => ⟨rfl, ⟨by rw [hU], by rw [hU]; exact hP, va_K.moved hW.alike hK, hD.weaken (fun _ _ _ _ => trivial)⟩, zV_call hV hS hF hU hW⟩⟩
theorem z_D0 {A : Nat → Prop} : va_D A [] := ⟨fun i j p q h => by simp at h, fun k q h => by simp at h⟩
theorem z_xVi {T U : Type} {z : Nat ⊕ T} {post : Int32 → U → Prop} {w1 ws' : U → va_W} (S : CallFix p m c cc nL s args Ts own) (hM : vx_Met l y wy rm (va_Pc (.ref b :: As) (zX D wc tys H.size sa)) (zXi D w1 tys (va_A wc H.size) post) (zXC D wc tys (va_A wc H.size) z) mc ms (va_A wc H.size)) (cw : CallW R s args own C index y bytes maxL ret wy rm mc ms n) (hV : zV sa A0 s s.heap) (hK : va_K D vwCl tys s) (hP : va_P D vwCl ws H) (hD : va_D A0 ws) (hS : va_S A0 s.heap H locs) (hA : ∀ q, s.heap.size ≤ q → A0 q) (hsp0 : zSp ws ws wc wc) (hsp : ∀ u, zSp ws (ws' u) wc (w1 u)) (ha : ∀ u, (w1 u).map Prod.fst = wc.map Prod.fst) (hc : vwCl[ci]? = some q) (he : wc[0]? = some (b, .inr (ci, fs))) (hqC : q.1 = C) (hn : As.length = n) (hsize : ls.size = nL) (hst : st = As.reverse ++ .ref b :: rest) (hroom : (rest.map fun v => v.category).sum ≤ 8) (hdg : decode cc pc = .ok (.invokevirtual index, 3)) (hf : cells + mc ≤ R.cells ∧ slots + ms ≤ R.slots) (kx : ∀ (k : Nat) (ce : Cell) (q9 : Addr) (H1 : Heap) (locs1 : List Loc), z = Sum.inl k → va_P D vwCl ws H1 → va_S A0 s.heap H1 locs1 → H1[q9]? = some ce → ce.vm = .none → s.vm.findClass (xN k) = some ce.cls → vx_W p l e R s m args below meth c H1 locs1 (cells + mc) (slots + ms) Q (F0 m pc ls rest) q9) (kk : ∀ (r : Int32) (u : U) (H1 : Heap) (locs1 : List Loc), post r u → va_P D vwCl (ws' u) H1 → va_D A0 (ws' u) → va_S A0 s.heap H1 locs1 → W p l e R s m args below meth c H1 locs1 (cells + mc) (slots + ms) Q (F0 m (pc + 3) ls (.int r :: rest))) : W p l e R s m args below meth c H locs cells slots Q (F0 m pc ls st) := by
  have hF := z_freeM hsp0 hD hS hA
  have hPc := z_mid hsp0 hP
  have hDc := z_midD hsp0 hD
  refine vx_calli (vx_runV (As := As) (rest := rest) S hM cw (z_preXV hV hS hF hK hPc hDc hc he hqC) rfl hn hsize hst (lv_room hroom) hdg hf) hS (fun q _ h => hF q h) hF (fun q _ h => hF q h) (fun E ce q9 k t H1 locs1 ht hvm hz hB hz1 hk1 hS1 hce hcv hcl => ?_) (fun r u t Hn locs1 ht hvm hw hB hz1 hk1 hS1 => ?_)
  · obtain ⟨hE, hP1, hK1, hD1⟩ := hB
    rw [ht] at hP1
    rw [hE] at hcl
    obtain ⟨hP2, hD2⟩ := z_inpl hP hD hsp0 rfl hk1 hP1
    exact kx k ce q9 H1 locs1 hz hP2 hS1 hce hcv hcl
  · obtain ⟨hP1, hK1, hD1⟩ := hB
    rw [ht] at hP1
    obtain ⟨hP2, hD2⟩ := z_inpl hP hD (hsp u) (ha u) hk1 hP1
    exact kk r u Hn locs1 hw hP2 hD2 hS1
theorem z_xVl {T U : Type} {z : Nat ⊕ T} {post : Int64 → U → Prop} {w1 ws' : U → va_W} (S : CallFix p m c cc nL s args Ts own) (hM : vx_Met l y wy rm (va_Pc (.ref b :: As) (zX D wc tys H.size sa)) (zXl D w1 tys (va_A wc H.size) post) (zXC D wc tys (va_A wc H.size) z) mc ms (va_A wc H.size)) (cw : CallW R s args own C index y bytes maxL ret wy rm mc ms n) (hV : zV sa A0 s s.heap) (hK : va_K D vwCl tys s) (hP : va_P D vwCl ws H) (hD : va_D A0 ws) (hS : va_S A0 s.heap H locs) (hA : ∀ q, s.heap.size ≤ q → A0 q) (hsp0 : zSp ws ws wc wc) (hsp : ∀ u, zSp ws (ws' u) wc (w1 u)) (ha : ∀ u, (w1 u).map Prod.fst = wc.map Prod.fst) (hc : vwCl[ci]? = some q) (he : wc[0]? = some (b, .inr (ci, fs))) (hqC : q.1 = C) (hn : As.length = n) (hsize : ls.size = nL) (hst : st = As.reverse ++ .ref b :: rest) (hroom : (rest.map fun v => v.category).sum ≤ 8) (hdg : decode cc pc = .ok (.invokevirtual index, 3)) (hf : cells + mc ≤ R.cells ∧ slots + ms ≤ R.slots) (kx : ∀ (k : Nat) (ce : Cell) (q9 : Addr) (H1 : Heap) (locs1 : List Loc), z = Sum.inl k → va_P D vwCl ws H1 → va_S A0 s.heap H1 locs1 → H1[q9]? = some ce → ce.vm = .none → s.vm.findClass (xN k) = some ce.cls → vx_W p l e R s m args below meth c H1 locs1 (cells + mc) (slots + ms) Q (F0 m pc ls rest) q9) (kk : ∀ (r : Int64) (u : U) (H1 : Heap) (locs1 : List Loc), post r u → va_P D vwCl (ws' u) H1 → va_D A0 (ws' u) → va_S A0 s.heap H1 locs1 → W p l e R s m args below meth c H1 locs1 (cells + mc) (slots + ms) Q (F0 m (pc + 3) ls (.long r :: rest))) : W p l e R s m args below meth c H locs cells slots Q (F0 m pc ls st) := by
  have hF := z_freeM hsp0 hD hS hA
  have hPc := z_mid hsp0 hP
  have hDc := z_midD hsp0 hD
  refine vx_calll (vx_runV (As := As) (rest := rest) S hM cw (z_preXV hV hS hF hK hPc hDc hc he hqC) rfl hn hsize hst (lv_room hroom) hdg hf) hS (fun q _ h => hF q h) hF (fun q _ h => hF q h) (fun E ce q9 k t H1 locs1 ht hvm hz hB hz1 hk1 hS1 hce hcv hcl => ?_) (fun r u t Hn locs1 ht hvm hw hB hz1 hk1 hS1 => ?_)
  · obtain ⟨hE, hP1, hK1, hD1⟩ := hB
    rw [ht] at hP1
    rw [hE] at hcl
    obtain ⟨hP2, hD2⟩ := z_inpl hP hD hsp0 rfl hk1 hP1
    exact kx k ce q9 H1 locs1 hz hP2 hS1 hce hcv hcl
  · obtain ⟨hP1, hK1, hD1⟩ := hB
    rw [ht] at hP1
    obtain ⟨hP2, hD2⟩ := z_inpl hP hD (hsp u) (ha u) hk1 hP1
    exact kk r u Hn locs1 hw hP2 hD2 hS1
theorem z_xVv {T U : Type} {z : Nat ⊕ T} {post : U → Prop} {w1 ws' : U → va_W} (S : CallFix p m c cc nL s args Ts own) (hM : vx_Met l y wy rm (va_Pc (.ref b :: As) (zX D wc tys H.size sa)) (zXv D w1 tys (va_A wc H.size) post) (zXC D wc tys (va_A wc H.size) z) mc ms (va_A wc H.size)) (cw : CallW R s args own C index y bytes maxL ret wy rm mc ms n) (hV : zV sa A0 s s.heap) (hK : va_K D vwCl tys s) (hP : va_P D vwCl ws H) (hD : va_D A0 ws) (hS : va_S A0 s.heap H locs) (hA : ∀ q, s.heap.size ≤ q → A0 q) (hsp0 : zSp ws ws wc wc) (hsp : ∀ u, zSp ws (ws' u) wc (w1 u)) (ha : ∀ u, (w1 u).map Prod.fst = wc.map Prod.fst) (hc : vwCl[ci]? = some q) (he : wc[0]? = some (b, .inr (ci, fs))) (hqC : q.1 = C) (hn : As.length = n) (hsize : ls.size = nL) (hst : st = As.reverse ++ .ref b :: rest) (hroom : (rest.map fun v => v.category).sum ≤ 8) (hdg : decode cc pc = .ok (.invokevirtual index, 3)) (hf : cells + mc ≤ R.cells ∧ slots + ms ≤ R.slots) (kx : ∀ (k : Nat) (ce : Cell) (q9 : Addr) (H1 : Heap) (locs1 : List Loc), z = Sum.inl k → va_P D vwCl ws H1 → va_S A0 s.heap H1 locs1 → H1[q9]? = some ce → ce.vm = .none → s.vm.findClass (xN k) = some ce.cls → vx_W p l e R s m args below meth c H1 locs1 (cells + mc) (slots + ms) Q (F0 m pc ls rest) q9) (kk : ∀ (u : U) (H1 : Heap) (locs1 : List Loc), post u → va_P D vwCl (ws' u) H1 → va_D A0 (ws' u) → va_S A0 s.heap H1 locs1 → W p l e R s m args below meth c H1 locs1 (cells + mc) (slots + ms) Q (F0 m (pc + 3) ls (rest))) : W p l e R s m args below meth c H locs cells slots Q (F0 m pc ls st) := by
  have hF := z_freeM hsp0 hD hS hA
  have hPc := z_mid hsp0 hP
  have hDc := z_midD hsp0 hD
  refine vx_callv (vx_runV (As := As) (rest := rest) S hM cw (z_preXV hV hS hF hK hPc hDc hc he hqC) rfl hn hsize hst (lv_room hroom) hdg hf) hS (fun q _ h => hF q h) hF (fun q _ h => hF q h) (fun E ce q9 k t H1 locs1 ht hvm hz hB hz1 hk1 hS1 hce hcv hcl => ?_) (fun u t Hn locs1 ht hvm hw hB hz1 hk1 hS1 => ?_)
  · obtain ⟨hE, hP1, hK1, hD1⟩ := hB
    rw [ht] at hP1
    rw [hE] at hcl
    obtain ⟨hP2, hD2⟩ := z_inpl hP hD hsp0 rfl hk1 hP1
    exact kx k ce q9 H1 locs1 hz hP2 hS1 hce hcv hcl
  · obtain ⟨hP1, hK1, hD1⟩ := hB
    rw [ht] at hP1
    obtain ⟨hP2, hD2⟩ := z_inpl hP hD (hsp u) (ha u) hk1 hP1
    exact kk u Hn locs1 hw hP2 hD2 hS1
theorem z_xSv {T U : Type} {z : Nat ⊕ T} {post : U → Prop} {w1 ws' : U → va_W} (S : CallFix p m c cc nL s args Ts own) (hM : vx_Met l y wy rm (va_Pc As (zX D wc tys H.size sa)) (zXv D w1 tys (va_A wc H.size) post) (zXC D wc tys (va_A wc H.size) z) mc ms (va_A wc H.size)) (cw : CallB R s args own index y bytes maxL ret wy rm mc ms n ∧ (Cond.static y).before args s = true) (hV : zV sa A0 s s.heap) (hK : va_K D vwCl tys s) (hP : va_P D vwCl ws H) (hD : va_D A0 ws) (hS : va_S A0 s.heap H locs) (hA : ∀ q, s.heap.size ≤ q → A0 q) (hsp0 : zSp ws ws wc wc) (hsp : ∀ u, zSp ws (ws' u) wc (w1 u)) (ha : ∀ u, (w1 u).map Prod.fst = wc.map Prod.fst) (hn : As.length = n) (hsize : ls.size = nL) (hst : st = As.reverse ++ rest) (hroom : (rest.map fun v => v.category).sum ≤ 8) (hdg : decode cc pc = .ok (.invokestatic index, 3)) (hf : cells + mc ≤ R.cells ∧ slots + ms ≤ R.slots) (kx : ∀ (k : Nat) (ce : Cell) (q9 : Addr) (H1 : Heap) (locs1 : List Loc), z = Sum.inl k → va_P D vwCl ws H1 → va_S A0 s.heap H1 locs1 → H1[q9]? = some ce → ce.vm = .none → s.vm.findClass (xN k) = some ce.cls → vx_W p l e R s m args below meth c H1 locs1 (cells + mc) (slots + ms) Q (F0 m pc ls rest) q9) (kk : ∀ (u : U) (H1 : Heap) (locs1 : List Loc), post u → va_P D vwCl (ws' u) H1 → va_D A0 (ws' u) → va_S A0 s.heap H1 locs1 → W p l e R s m args below meth c H1 locs1 (cells + mc) (slots + ms) Q (F0 m (pc + 3) ls (rest))) : W p l e R s m args below meth c H locs cells slots Q (F0 m pc ls st) := by
  have hF := z_freeM hsp0 hD hS hA
  have hPc := z_mid hsp0 hP
  have hDc := z_midD hsp0 hD
  refine vx_callv (vx_runS (As := As) (rest := rest) S hM cw (z_preXS hV hS hF hK hPc hDc) rfl hn hsize hst (lv_room hroom) hdg hf) hS (fun q _ h => hF q h) hF (fun q _ h => hF q h) (fun E ce q9 k t H1 locs1 ht hvm hz hB hz1 hk1 hS1 hce hcv hcl => ?_) (fun u t Hn locs1 ht hvm hw hB hz1 hk1 hS1 => ?_)
  · obtain ⟨hE, hP1, hK1, hD1⟩ := hB
    rw [ht] at hP1
    rw [hE] at hcl
    obtain ⟨hP2, hD2⟩ := z_inpl hP hD hsp0 rfl hk1 hP1
    exact kx k ce q9 H1 locs1 hz hP2 hS1 hce hcv hcl
  · obtain ⟨hP1, hK1, hD1⟩ := hB
    rw [ht] at hP1
    obtain ⟨hP2, hD2⟩ := z_inpl hP hD (hsp u) (ha u) hk1 hP1
    exact kk u Hn locs1 hw hP2 hD2 hS1
end ZX
