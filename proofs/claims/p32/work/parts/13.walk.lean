/-! my own rows over the kit's: calls by a contract whose answer and whose new cells are told -/
section ZW
theorem ob {α β : Type} {x : Option α} {f : α → Option β} {r : β} (h : Option.bind x f = some r) : ∃ a, x = some a ∧ f a = some r := by
  cases x with
  | none => cases h
  | some a => exact ⟨a, rfl, h⟩
def bnd {α β : Type} (x : α) (k : α → Option β) : Option β := k x
theorem bnd_e {α β : Type} {x y : α} {k : α → Option β} {r : Option β} (h : bnd x k = r) (e : y = x) : k y = r := by rw [e]; exact h
theorem bnd_x {α β : Type} {x : α} {k : α → Option β} {r : Option β} (h : bnd x k = r) : ∃ z, z = x ∧ k z = r := ⟨x, rfl, h⟩
theorem it_t {α : Type} {c : Prop} [Decidable c] {A B r : Option α} (hm : (if c then A else B) = r) (h : c) : A = r := (if_pos h).symm.trans hm
theorem it_f {α : Type} {c : Prop} [Decidable c] {A B r : Option α} (hm : (if c then A else B) = r) (h : ¬ c) : B = r := (if_neg h).symm.trans hm
theorem ck {α : Type} {c : Prop} [Decidable c] {A : Option α} {r : α} (hm : (if c then A else none) = some r) : c ∧ A = some r := by
  by_cases h : c
  · exact ⟨h, it_t hm h⟩
  · have h2 := it_f hm h
    cases h2
theorem o2 {α : Type} {a b : α} (h : some a = some b) : b = a := (Option.some.inj h).symm
theorem nar_b {v : Int32} (h : v = 0 ∨ v = 1) : narrow .boolean (.int v) = .int v := by
  rcases h with rfl | rfl <;> rfl
abbrev zN : Type := (Nat → Int32) × Int32
abbrev zT : Type := Int32 × Int32 × Int32 × Int64 × Int64 × Int64 × Int64
def zR (D : va_G) (ws : va_W) (tys : List (ClassId × FieldType)) : State → Prop := fun U => va_P D vwCl ws U.heap ∧ va_K D vwCl tys U
def zW (D : va_G) (ws : va_W) (tys : List (ClassId × FieldType)) (sz : Nat) : State → Prop := fun U => U.heap.size = sz ∧ va_P D vwCl ws U.heap ∧ va_K D vwCl tys U ∧ va_D (fun _ => True) ws
def zB (D : va_G) (w1 : va_W) (tys : List (ClassId × FieldType)) (A : Nat → Prop) : Unit → State → Prop := fun _ t => va_P D vwCl w1 t.heap ∧ va_K D vwCl tys t ∧ va_D A w1
def zQi (D : va_G) (w1 : va_W) (tys : List (ClassId × FieldType)) (A : Nat → Prop) (r : Int32) : Array Value → State → Outcome → State → Prop := va_Qi (fun (r' : Int32) (_ : Unit) => r = r') (zB D w1 tys A) A
def zQl (D : va_G) (w1 : va_W) (tys : List (ClassId × FieldType)) (A : Nat → Prop) (r : Int64) : Array Value → State → Outcome → State → Prop := va_Ql (fun (r' : Int64) (_ : Unit) => r = r') (zB D w1 tys A) A
def zQv (D : va_G) (w1 : va_W) (tys : List (ClassId × FieldType)) (A : Nat → Prop) : Array Value → State → Outcome → State → Prop := va_Qv (fun (_ : Unit) => True) (zB D w1 tys A) A
theorem zR_bl {av : List Value} {D : va_G} {ws : va_W} {tys : List (ClassId × FieldType)} : FrameBlind (va_Pc av (zR D ws tys)) := fun a U g mk q => ⟨q.1, q.2.1, va_K.moved (u := U) (U := U.calling g mk a) (Vm.Alike.refl U.vm) q.2.2⟩
theorem zW_bl {av : List Value} {D : va_G} {ws : va_W} {tys : List (ClassId × FieldType)} {sz : Nat} : FrameBlind (va_Pc av (zW D ws tys sz)) := fun a U g mk q => ⟨q.1, q.2.1, q.2.2.1, va_K.moved (u := U) (U := U.calling g mk a) (Vm.Alike.refl U.vm) q.2.2.2.1, q.2.2.2.2⟩
variable {p : Program} {l : Launch} {e : Env} {R : Room} {s : State} {m : MethodId} {args : Array Value} {below : List Frame} {meth : Method} {c : Code} {H H0 : Heap} {locs : List Loc} {cells slots : Nat} {Q : State → Prop} {cc bytes : ByteArray} {pc nL maxL n index ci : Nat} {ls : Array Slot} {st As rest : List Value} {own C : String} {y : MethodName} {ret : Option FieldType} {wy Ts : List Cond} {rm : Room} {b : Addr} {D : va_G} {tys : List (ClassId × FieldType)} {ws ws' wc w1 : va_W} {A0 : Nat → Prop} {fs : List Value} {q : vw_C}
theorem z_room {rest : List Value} {pc : Nat} {ls : Array Slot} {st : List Value} (h : (rest.map fun v => v.category).sum ≤ 8) : 2 * (F0 m pc ls st).monitorRoom + (rest.map fun v => v.category).sum ≤ 8 := lv_room h
theorem z_preR (hK : va_K D vwCl tys s) (hP : va_P D vwCl wc H) (hc : vwCl[ci]? = some q) (he : wc[0]? = some (b, .inr (ci, fs))) (hC : q.1 = C) : PreV s H C b (va_Pc (.ref b :: As) (zR D wc tys)) As := by
  subst hC
  exact ⟨zR_bl, va_recv hK hP hc he, fun U hU hW => ⟨rfl, by rw [hU]; exact hP, va_K.moved hW.alike hK⟩⟩
theorem z_preW (hK : va_K D vwCl tys s) (hP : va_P D vwCl wc H) (hD : va_D A0 wc) (hc : vwCl[ci]? = some q) (he : wc[0]? = some (b, .inr (ci, fs))) (hC : q.1 = C) : PreV s H C b (va_Pc (.ref b :: As) (zW D wc tys H.size)) As := by
  subst hC
  exact ⟨zW_bl, va_recv hK hP hc he, fun U hU hW => ⟨rfl, by rw [hU], by rw [hU]; exact hP, va_K.moved hW.alike hK, hD.weaken (fun _ _ _ _ => trivial)⟩⟩
/-- a virtual call that only reads -/
theorem z_callRi {r : Int32} (S : CallFix p m c cc nL s args Ts own) (hM : Met l y wy rm (va_Pc (.ref b :: As) (zR D wc tys)) (vp_Si (fun v => v = r)) 0 0 (fun _ => False)) (cw : CallW R s args own C index y bytes maxL ret wy rm 0 0 n) (hK : va_K D vwCl tys s) (hP : va_P D vwCl wc H) (hc : vwCl[ci]? = some q) (he : wc[0]? = some (b, .inr (ci, fs))) (hC : q.1 = C) (hn : As.length = n) (hsize : ls.size = nL) (hst : st = As.reverse ++ .ref b :: rest) (hroom : (rest.map fun v => v.category).sum ≤ 8) (hdg : decode cc pc = .ok (.invokevirtual index, 3)) (hf : cells + 0 ≤ R.cells ∧ slots + 0 ≤ R.slots) (kk : W p l e R s m args below meth c H locs cells slots Q (F0 m (pc + 3) ls (.int r :: rest))) : W p l e R s m args below meth c H locs cells slots Q (F0 m pc ls st) := by
  refine vp_callSi (W.runV (As := As) (rest := rest) S hM cw (z_preR hK hP hc he hC) rfl hn hsize hst (lv_room hroom) hdg hf) (fun r' hw => ?_)
  subst hw
  exact kk
theorem z_callRl {r : Int64} (S : CallFix p m c cc nL s args Ts own) (hM : Met l y wy rm (va_Pc (.ref b :: As) (zR D wc tys)) (vp_Sl (fun v => v = r)) 0 0 (fun _ => False)) (cw : CallW R s args own C index y bytes maxL ret wy rm 0 0 n) (hK : va_K D vwCl tys s) (hP : va_P D vwCl wc H) (hc : vwCl[ci]? = some q) (he : wc[0]? = some (b, .inr (ci, fs))) (hC : q.1 = C) (hn : As.length = n) (hsize : ls.size = nL) (hst : st = As.reverse ++ .ref b :: rest) (hroom : (rest.map fun v => v.category).sum ≤ 8) (hdg : decode cc pc = .ok (.invokevirtual index, 3)) (hf : cells + 0 ≤ R.cells ∧ slots + 0 ≤ R.slots) (kk : W p l e R s m args below meth c H locs cells slots Q (F0 m (pc + 3) ls (.long r :: rest))) : W p l e R s m args below meth c H locs cells slots Q (F0 m pc ls st) := by
  refine vp_callSl (W.runV (As := As) (rest := rest) S hM cw (z_preR hK hP hc he hC) rfl hn hsize hst (lv_room hroom) hdg hf) (fun r' hw => ?_)
  subst hw
  exact kk
/-- a static call that only reads -/
theorem z_preS (hK : va_K D vwCl tys s) (hP : va_P D vwCl wc H) : PreS s H (va_Pc As (zR D wc tys)) As := ⟨zR_bl, fun U hU hW => ⟨rfl, by rw [hU]; exact hP, va_K.moved hW.alike hK⟩⟩
theorem z_P0 : va_P D vwCl [] H := fun k q h => by simp at h
theorem z_callSi {r : Int32} (S : CallFix p m c cc nL s args Ts own) (hM : Met l y wy rm (va_Pc As (zR D wc tys)) (vp_Si (fun v => v = r)) 0 0 (fun _ => False)) (cw : CallB R s args own index y bytes maxL ret wy rm 0 0 n ∧ (Cond.static y).before args s = true) (hK : va_K D vwCl tys s) (hP : va_P D vwCl wc H) (hn : As.length = n) (hsize : ls.size = nL) (hst : st = As.reverse ++ rest) (hroom : (rest.map fun v => v.category).sum ≤ 8) (hdg : decode cc pc = .ok (.invokestatic index, 3)) (hf : cells + 0 ≤ R.cells ∧ slots + 0 ≤ R.slots) (kk : W p l e R s m args below meth c H locs cells slots Q (F0 m (pc + 3) ls (.int r :: rest))) : W p l e R s m args below meth c H locs cells slots Q (F0 m pc ls st) := by
  refine vp_callSi (W.runS (As := As) (rest := rest) S hM cw (z_preS hK hP) rfl hn hsize hst (lv_room hroom) hdg hf) (fun r' hw => ?_)
  subst hw
  exact kk
theorem z_callSl {r : Int64} (S : CallFix p m c cc nL s args Ts own) (hM : Met l y wy rm (va_Pc As (zR D wc tys)) (vp_Sl (fun v => v = r)) 0 0 (fun _ => False)) (cw : CallB R s args own index y bytes maxL ret wy rm 0 0 n ∧ (Cond.static y).before args s = true) (hK : va_K D vwCl tys s) (hP : va_P D vwCl wc H) (hn : As.length = n) (hsize : ls.size = nL) (hst : st = As.reverse ++ rest) (hroom : (rest.map fun v => v.category).sum ≤ 8) (hdg : decode cc pc = .ok (.invokestatic index, 3)) (hf : cells + 0 ≤ R.cells ∧ slots + 0 ≤ R.slots) (kk : W p l e R s m args below meth c H locs cells slots Q (F0 m (pc + 3) ls (.long r :: rest))) : W p l e R s m args below meth c H locs cells slots Q (F0 m pc ls st) := by
  refine vp_callSl (W.runS (As := As) (rest := rest) S hM cw (z_preS hK hP) rfl hn hsize hst (lv_room hroom) hdg hf) (fun r' hw => ?_)
  subst hw
  exact kk
/-- the callee's cells lie side by side in the caller's world: ws and ws' are alike around wc and w1 -/
abbrev zSp (ws ws' wc w1 : va_W) : Prop := ∃ pre post : va_W, ws = pre ++ (wc ++ post) ∧ ws' = pre ++ (w1 ++ post)
theorem z_spAll (ws ws' : va_W) : zSp ws ws' ws ws' := ⟨[], [], by simp, by simp⟩
theorem z_sp0 (ws : va_W) : zSp ws ws [] [] := ⟨[], ws, rfl, rfl⟩
theorem z_mid {ws2 w2 : va_W} (h : zSp ws ws2 wc w2) (hP : va_P D vwCl ws H) : va_P D vwCl wc H := by
  obtain ⟨pre, post, rfl, -⟩ := h
  intro k q hq
  refine hP (pre.length + k) q ?_
  have hk := (List.getElem?_eq_some_iff.mp hq).1
  rw [List.getElem?_append_right (by omega), show pre.length + k - pre.length = k by omega, List.getElem?_append_left hk]
  exact hq
theorem z_midD {ws2 w2 : va_W} {A : Nat → Prop} (h : zSp ws ws2 wc w2) (hD : va_D A ws) : va_D A wc := by
  obtain ⟨pre, post, rfl, -⟩ := h
  have at_ : ∀ (k : Nat) (q : Nat × va_E), wc[k]? = some q → (pre ++ (wc ++ post))[pre.length + k]? = some q := by
    intro k q hq
    have hk := (List.getElem?_eq_some_iff.mp hq).1
    rw [List.getElem?_append_right (by omega), show pre.length + k - pre.length = k by omega, List.getElem?_append_left hk]
    exact hq
  refine ⟨fun i j p q hi hj hpq => ?_, fun k q hq => hD.2 _ q (at_ k q hq)⟩
  have := hD.1 _ _ p q (at_ i p hi) (at_ j q hj) hpq
  omega
theorem z_freeM {ws2 w2 : va_W} (h : zSp ws ws2 wc w2) (hD : va_D A0 ws) (hS : va_S A0 H0 H locs) (hA : ∀ q, H0.size ≤ q → A0 q) : ∀ q, va_A wc H.size q → A0 q := by
  intro q hq
  rcases hq with ⟨k, e, hk⟩ | hq
  · exact (z_midD h hD).2 k (q, e) hk
  · exact hA q (Nat.le_trans hS.1 hq)
/-- cells that came back at their own addresses are put in their places; the rest is as it was -/
theorem z_inpl {H1 : Heap} (hP : va_P D vwCl ws H) (hD : va_D A0 ws) (h : zSp ws ws' wc w1) (ha : w1.map Prod.fst = wc.map Prod.fst) (hk : ∀ q : Nat, q < H.size → ¬ va_A wc H.size q → H1[q]? = H[q]?) (hP1 : va_P D vwCl w1 H1) : va_P D vwCl ws' H1 ∧ va_D A0 ws' := by
  obtain ⟨pre, post, rfl, rfl⟩ := h
  have hlen : w1.length = wc.length := by
    have h := congrArg List.length ha
    simpa using h
  have hfst : ∀ (k : Nat) (q' : Nat × va_E), (pre ++ (w1 ++ post))[k]? = some q' → ∃ q0, (pre ++ (wc ++ post))[k]? = some q0 ∧ q0.1 = q'.1 := by
    intro k q' h
    have hm : (pre ++ (w1 ++ post)).map Prod.fst = (pre ++ (wc ++ post)).map Prod.fst := by simp [ha]
    have h2 : ((pre ++ (w1 ++ post)).map Prod.fst)[k]? = some q'.1 := by rw [List.getElem?_map, h]; rfl
    rw [hm, List.getElem?_map] at h2
    cases hw : (pre ++ (wc ++ post))[k]? with
    | none => rw [hw] at h2; cases h2
    | some q0 => rw [hw] at h2; exact ⟨q0, rfl, Option.some.inj h2⟩
  refine ⟨fun k q' hq => ?_, fun i j p' q' hi hj hpq => ?_, fun k q' hq => ?_⟩
  · have keep : (pre ++ (wc ++ post))[k]? = some q' → (k < pre.length ∨ pre.length + wc.length ≤ k) → va_at D vwCl q' H1 := by
      intro h3 ho
      have h4 := hP k q' h3
      refine h4.kept (hk q'.1 h4.lt (fun hz => ?_))
      rcases hz with ⟨a, e, hae⟩ | hz
      · have hal := (List.getElem?_eq_some_iff.mp hae).1
        have h5 : (pre ++ (wc ++ post))[pre.length + a]? = some (q'.1, e) := by
          rw [List.getElem?_append_right (by omega), show pre.length + a - pre.length = a by omega, List.getElem?_append_left hal]
          exact hae
        have := hD.1 _ _ _ _ h5 h3 rfl
        omega
      · exact absurd h4.lt (Nat.not_lt.mpr hz)
    by_cases c1 : k < pre.length
    · refine keep ?_ (Or.inl c1)
      rw [List.getElem?_append_left c1] at hq ⊢
      exact hq
    · by_cases c2 : k < pre.length + wc.length
      · rw [List.getElem?_append_right (by omega), List.getElem?_append_left (by omega)] at hq
        exact hP1 _ q' hq
      · refine keep ?_ (Or.inr (by omega))
        rw [List.getElem?_append_right (by omega), List.getElem?_append_right (by omega)] at hq ⊢
        rw [hlen] at hq
        exact hq
  · obtain ⟨p0, hp0, ep⟩ := hfst i p' hi
    obtain ⟨q0, hq0, eq0⟩ := hfst j q' hj
    exact hD.1 i j p0 q0 hp0 hq0 (by rw [ep, eq0]; exact hpq)
  · obtain ⟨q0, hq0, eq0⟩ := hfst k q' hq
    rw [← eq0]
    exact hD.2 k q0 hq0
theorem z_callWi {r : Int32} (S : CallFix p m c cc nL s args Ts own) (hM : Met l y wy rm (va_Pc (.ref b :: As) (zW D wc tys H.size)) (zQi D w1 tys (va_A wc H.size) r) 0 0 (va_A wc H.size)) (cw : CallW R s args own C index y bytes maxL ret wy rm 0 0 n) (hK : va_K D vwCl tys s) (hP : va_P D vwCl ws H) (hD : va_D A0 ws) (hS : va_S A0 H0 H locs) (hA : ∀ q, H0.size ≤ q → A0 q) (hsp : zSp ws ws' wc w1) (ha : w1.map Prod.fst = wc.map Prod.fst) (hc : vwCl[ci]? = some q) (he : wc[0]? = some (b, .inr (ci, fs))) (hqC : q.1 = C) (hn : As.length = n) (hsize : ls.size = nL) (hst : st = As.reverse ++ .ref b :: rest) (hroom : (rest.map fun v => v.category).sum ≤ 8) (hdg : decode cc pc = .ok (.invokevirtual index, 3)) (hf : cells + 0 ≤ R.cells ∧ slots + 0 ≤ R.slots) (kk : ∀ (H1 : Heap) (locs1 : List Loc), va_P D vwCl ws' H1 → va_D A0 ws' → va_S A0 H0 H1 locs1 → W p l e R s m args below meth c H1 locs1 cells slots Q (F0 m (pc + 3) ls (.int r :: rest))) : W p l e R s m args below meth c H locs cells slots Q (F0 m pc ls st) := by
  have hF := z_freeM hsp hD hS hA
  have hPc := z_mid hsp hP
  have hDc := z_midD hsp hD
  refine va_calli (va_runV (As := As) (rest := rest) S hM cw (z_preW hK hPc hDc hc he hqC) rfl hn hsize hst (lv_room hroom) hdg hf) hS (fun q _ h => hF q h) hF (fun r' u t Hn locs1 ht hvm hw hB hz1 hk1 hS1 => ?_)
  subst hw
  obtain ⟨hP1, hK1, hD1⟩ := hB
  rw [ht] at hP1
  obtain ⟨hP2, hD2⟩ := z_inpl hP hD hsp ha hk1 hP1
  exact kk Hn locs1 hP2 hD2 hS1
theorem z_callWl {r : Int64} (S : CallFix p m c cc nL s args Ts own) (hM : Met l y wy rm (va_Pc (.ref b :: As) (zW D wc tys H.size)) (zQl D w1 tys (va_A wc H.size) r) 0 0 (va_A wc H.size)) (cw : CallW R s args own C index y bytes maxL ret wy rm 0 0 n) (hK : va_K D vwCl tys s) (hP : va_P D vwCl ws H) (hD : va_D A0 ws) (hS : va_S A0 H0 H locs) (hA : ∀ q, H0.size ≤ q → A0 q) (hsp : zSp ws ws' wc w1) (ha : w1.map Prod.fst = wc.map Prod.fst) (hc : vwCl[ci]? = some q) (he : wc[0]? = some (b, .inr (ci, fs))) (hqC : q.1 = C) (hn : As.length = n) (hsize : ls.size = nL) (hst : st = As.reverse ++ .ref b :: rest) (hroom : (rest.map fun v => v.category).sum ≤ 8) (hdg : decode cc pc = .ok (.invokevirtual index, 3)) (hf : cells + 0 ≤ R.cells ∧ slots + 0 ≤ R.slots) (kk : ∀ (H1 : Heap) (locs1 : List Loc), va_P D vwCl ws' H1 → va_D A0 ws' → va_S A0 H0 H1 locs1 → W p l e R s m args below meth c H1 locs1 cells slots Q (F0 m (pc + 3) ls (.long r :: rest))) : W p l e R s m args below meth c H locs cells slots Q (F0 m pc ls st) := by
  have hF := z_freeM hsp hD hS hA
  have hPc := z_mid hsp hP
  have hDc := z_midD hsp hD
  refine va_calll (va_runV (As := As) (rest := rest) S hM cw (z_preW hK hPc hDc hc he hqC) rfl hn hsize hst (lv_room hroom) hdg hf) hS (fun q _ h => hF q h) hF (fun r' u t Hn locs1 ht hvm hw hB hz1 hk1 hS1 => ?_)
  subst hw
  obtain ⟨hP1, hK1, hD1⟩ := hB
  rw [ht] at hP1
  obtain ⟨hP2, hD2⟩ := z_inpl hP hD hsp ha hk1 hP1
  exact kk Hn locs1 hP2 hD2 hS1
theorem z_callWv (S : CallFix p m c cc nL s args Ts own) (hM : Met l y wy rm (va_Pc (.ref b :: As) (zW D wc tys H.size)) (zQv D w1 tys (va_A wc H.size)) 0 0 (va_A wc H.size)) (cw : CallW R s args own C index y bytes maxL ret wy rm 0 0 n) (hK : va_K D vwCl tys s) (hP : va_P D vwCl ws H) (hD : va_D A0 ws) (hS : va_S A0 H0 H locs) (hA : ∀ q, H0.size ≤ q → A0 q) (hsp : zSp ws ws' wc w1) (ha : w1.map Prod.fst = wc.map Prod.fst) (hc : vwCl[ci]? = some q) (he : wc[0]? = some (b, .inr (ci, fs))) (hqC : q.1 = C) (hn : As.length = n) (hsize : ls.size = nL) (hst : st = As.reverse ++ .ref b :: rest) (hroom : (rest.map fun v => v.category).sum ≤ 8) (hdg : decode cc pc = .ok (.invokevirtual index, 3)) (hf : cells + 0 ≤ R.cells ∧ slots + 0 ≤ R.slots) (kk : ∀ (H1 : Heap) (locs1 : List Loc), va_P D vwCl ws' H1 → va_D A0 ws' → va_S A0 H0 H1 locs1 → W p l e R s m args below meth c H1 locs1 cells slots Q (F0 m (pc + 3) ls rest)) : W p l e R s m args below meth c H locs cells slots Q (F0 m pc ls st) := by
  have hF := z_freeM hsp hD hS hA
  have hPc := z_mid hsp hP
  have hDc := z_midD hsp hD
  refine va_callv (va_runV (As := As) (rest := rest) S hM cw (z_preW hK hPc hDc hc he hqC) rfl hn hsize hst (lv_room hroom) hdg hf) hS (fun q _ h => hF q h) hF (fun u t Hn locs1 ht hvm hw hB hz1 hk1 hS1 => ?_)
  obtain ⟨hP1, hK1, hD1⟩ := hB
  rw [ht] at hP1
  obtain ⟨hP2, hD2⟩ := z_inpl hP hD hsp ha hk1 hP1
  exact kk Hn locs1 hP2 hD2 hS1
theorem z_heap {g : JFrame} {H1 H2 : Heap} (e9 : H1 = H2) (k : W p l e R s m args below meth c H1 locs cells slots Q g) : W p l e R s m args below meth c H2 locs cells slots Q g := e9 ▸ k
/-- a method's contract from its body, where the model has no row of its own for the method's name and descriptor -/
theorem z_ofWF {y : MethodName} {ws ws' : List Cond} {rm : Room} {Pc : Array Value → State → Prop} {Qc : Array Value → State → Outcome → State → Prop} {mc ms : Nat} {free : Addr → Prop} {cc : ByteArray} {maxL : Nat} {ret : Option FieldType} (hy : plainFor y = true) (hw : ws = Cond.code y cc maxL ret :: ws') (body : ∀ p e s m args below meth c s₁, BodyLoose p l y (headSpec ws rm) cc maxL ret e s m args below meth c s₁ → c.maxLocals = maxL → Pc args s → W p l e (headSpec ws rm).room s m args below meth c s.heap [] 0 0 (MQ below Qc args s mc ms free) (entryFrame m args maxL)) : Met l y ws rm Pc Qc mc ms free := by
  refine MetFree.of_bodySF (code := cc) (maxLocals := maxL) (ret := ret) hy ?_ ?_
  · intro args s m h hn
    obtain ⟨meth, c, h1, h2, h3, h4, h5, h6, -, -⟩ := Cond.code_spec hn (atoms_spec (ws := ws) h _ (by rw [hw]; exact List.mem_cons_self))
    exact ⟨meth, c, h1, h2, h3, h4, h5, h6⟩
  · intro p e s m args below meth c s₁ B hml hP _
    obtain ⟨t, a1, o, b1, b2, b3⟩ := body p e s m args below meth c s₁ B hml hP s₁ (by rw [B.state]; rfl) (Stand.of_body B)
    exact ⟨t, o, a1, b1, b2, ⟨b3.1, b3.2⟩⟩
end ZW
