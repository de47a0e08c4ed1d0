/-! more calls: static ones that write, or that make cells, and calls of methods that throw, where they don't -/
section ZY
def zNcs (U : State) : Prop := va_Nc (xN 2) (xN 1) U ∧ va_Nc (xN 4) (xN 1) U ∧ va_Nc (xN 4) (xN 2) U ∧ va_Nc (xN 3) (xN 1) U ∧ va_Nc (xN 3) (xN 2) U ∧ va_Nc (xN 3) (xN 4) U
theorem zNcs_moved {u U : State} (hvm : u.vm.Alike U.vm) (h : zNcs u) : zNcs U := ⟨va_Nc.moved hvm h.1, va_Nc.moved hvm h.2.1, va_Nc.moved hvm h.2.2.1, va_Nc.moved hvm h.2.2.2.1, va_Nc.moved hvm h.2.2.2.2.1, va_Nc.moved hvm h.2.2.2.2.2⟩
def zH (D : va_G) (ws : va_W) (tys : List (ClassId × FieldType)) (sz : Nat) (sa : Nat → Nat) : State → Prop := fun U => zX D ws tys sz sa U ∧ zNcs U
def nz {α : Type} : Option (Nat ⊕ α) → Option α
  | some (Sum.inr r) => some r
  | _ => none
theorem nz_e {α : Type} {x : Option (Nat ⊕ α)} {r : α} (h : nz x = some r) : x = some (Sum.inr r) := by
  match x, h with
  | some (Sum.inr _), h => cases h; rfl
  | some (Sum.inl _), h => cases h
  | none, h => cases h
theorem nz_i {α : Type} {x : Option (Nat ⊕ α)} {r : α} (h : x = some (Sum.inr r)) : nz x = some r := by rw [h]; rfl
theorem zno {α : Type} {e : Nat} {r : α} {P : Prop} (h : (some (Sum.inl e) : Option (Nat ⊕ α)) = some (Sum.inr r)) : P := by cases h
variable {cl : List vw_C} {p : Program} {l : Launch} {e : Env} {R : Room} {s : State} {m : MethodId} {args : Array Value} {below : List Frame} {meth : Method} {c : Code} {H H0 : Heap} {locs : List Loc} {cells slots : Nat} {Q : State → Prop} {cc bytes : ByteArray} {pc nL maxL n index mc ms : Nat} {ls : Array Slot} {st As rest : List Value} {own : String} {y : MethodName} {ret : Option FieldType} {wy Ts : List Cond} {rm : Room} {D : va_G} {tys : List (ClassId × FieldType)} {ws ws' wc w1 : va_W} {A0 : Nat → Prop} {sa : Nat → Nat} {hh : List (Nat × Nat × Nat × Nat)}
theorem z_arrEq {c1 c2 : ClassId} (h : va_K D cl tys s) (i j : Nat) (h1 : tys[i]? = some (c1, .int)) (h2 : tys[j]? = some (c2, .int)) : c2 = c1 := Option.some.inj ((va_nm_int (h.2 j _ h2).2).symm.trans (va_nm_int (h.2 i _ h1).2))
theorem z_arrEq2 {c1 c2 : ClassId} (h : va_K D cl [(c1, .int)] s) (h9 : va_K D cl [(c2, .int)] s) : c2 = c1 := Option.some.inj ((va_nm_int (h9.2 0 _ rfl).2).symm.trans (va_nm_int (h.2 0 _ rfl).2))
theorem z_preI (hK : va_K D vwCl tys s) (hP : va_P D vwCl wc H) (hD : va_D A0 wc) : PreS s H (va_Pc As (zW D wc tys H.size)) As := ⟨zW_bl, fun U hU hW => ⟨rfl, by rw [hU], by rw [hU]; exact hP, va_K.moved hW.alike hK, hD.weaken (fun _ _ _ _ => trivial)⟩⟩
theorem z_callSWi {r : Int32} (S : CallFix p m c cc nL s args Ts own) (hM : Met l y wy rm (va_Pc As (zW D wc tys H.size)) (zQi D w1 tys (va_A wc H.size) r) mc ms (va_A wc H.size)) (cw : CallB R s args own index y bytes maxL ret wy rm mc ms n ∧ (Cond.static y).before args s = true) (hK : va_K D vwCl tys s) (hP : va_P D vwCl ws H) (hD : va_D A0 ws) (hS : va_S A0 H0 H locs) (hA : ∀ q, H0.size ≤ q → A0 q) (hsp : zSp ws ws' wc w1) (ha : w1.map Prod.fst = wc.map Prod.fst) (hn : As.length = n) (hsize : ls.size = nL) (hst : st = As.reverse ++ rest) (hroom : (rest.map fun v => v.category).sum ≤ 8) (hdg : decode cc pc = .ok (.invokestatic index, 3)) (hf : cells + mc ≤ R.cells ∧ slots + ms ≤ R.slots) (kk : ∀ (H1 : Heap) (locs1 : List Loc), va_P D vwCl ws' H1 → va_D A0 ws' → va_S A0 H0 H1 locs1 → W p l e R s m args below meth c H1 locs1 (cells + mc) (slots + ms) Q (F0 m (pc + 3) ls (.int r :: rest))) : W p l e R s m args below meth c H locs cells slots Q (F0 m pc ls st) := by
  have hF := z_freeM hsp hD hS hA
  have hPc := z_mid hsp hP
  have hDc := z_midD hsp hD
  refine va_calli (va_runS (As := As) (rest := rest) S hM cw (z_preI hK hPc hDc) rfl hn hsize hst (lv_room hroom) hdg hf) hS (fun q _ h => hF q h) hF (fun r' u t Hn locs1 ht hvm hw hB hz1 hk1 hS1 => ?_)
  subst hw
  obtain ⟨hP1, hK1, hD1⟩ := hB
  rw [ht] at hP1
  obtain ⟨hP2, hD2⟩ := z_inpl hP hD hsp ha hk1 hP1
  exact kk Hn locs1 hP2 hD2 hS1
theorem z_callSWv (S : CallFix p m c cc nL s args Ts own) (hM : Met l y wy rm (va_Pc As (zW D wc tys H.size)) (zQv D w1 tys (va_A wc H.size)) mc ms (va_A wc H.size)) (cw : CallB R s args own index y bytes maxL ret wy rm mc ms n ∧ (Cond.static y).before args s = true) (hK : va_K D vwCl tys s) (hP : va_P D vwCl ws H) (hD : va_D A0 ws) (hS : va_S A0 H0 H locs) (hA : ∀ q, H0.size ≤ q → A0 q) (hsp : zSp ws ws' wc w1) (ha : w1.map Prod.fst = wc.map Prod.fst) (hn : As.length = n) (hsize : ls.size = nL) (hst : st = As.reverse ++ rest) (hroom : (rest.map fun v => v.category).sum ≤ 8) (hdg : decode cc pc = .ok (.invokestatic index, 3)) (hf : cells + mc ≤ R.cells ∧ slots + ms ≤ R.slots) (kk : ∀ (H1 : Heap) (locs1 : List Loc), va_P D vwCl ws' H1 → va_D A0 ws' → va_S A0 H0 H1 locs1 → W p l e R s m args below meth c H1 locs1 (cells + mc) (slots + ms) Q (F0 m (pc + 3) ls rest)) : W p l e R s m args below meth c H locs cells slots Q (F0 m pc ls st) := by
  have hF := z_freeM hsp hD hS hA
  have hPc := z_mid hsp hP
  have hDc := z_midD hsp hD
  refine va_callv (va_runS (As := As) (rest := rest) S hM cw (z_preI hK hPc hDc) rfl hn hsize hst (lv_room hroom) hdg hf) hS (fun q _ h => hF q h) hF (fun u t Hn locs1 ht hvm hw hB hz1 hk1 hS1 => ?_)
  obtain ⟨hP1, hK1, hD1⟩ := hB
  rw [ht] at hP1
  obtain ⟨hP2, hD2⟩ := z_inpl hP hD hsp ha hk1 hP1
  exact kk Hn locs1 hP2 hD2 hS1
theorem z_preH (hV : zV sa A0 s s.heap) (hNc : zNcs s) (hS : va_S A0 s.heap H locs) (hF : ∀ q, va_A wc H.size q → A0 q) (hK : va_K D vwCl tys s) (hP : va_P D vwCl wc H) (hD : va_D A0 wc) : PreS s H (va_Pc As (zH D wc tys H.size sa)) As := ⟨fun a U g mk q => ⟨q.1, (zX_bl a U g mk ⟨q.1, q.2.1⟩).2, zNcs_moved (u := U) (U := U.calling g mk a) (Vm.Alike.refl U.vm) q.2.2⟩, fun U hU hW => ⟨rfl, ⟨⟨by rw [hU], by rw [hU]; exact hP, va_K.moved hW.alike hK, hD.weaken (fun _ _ _ _ => trivial)⟩, zV_call hV hS hF hU hW⟩, zNcs_moved hW.alike hNc⟩⟩
theorem z_hSi {r : Int32} (S : CallFix p m c cc nL s args Ts own) (hM : Met l y wy rm (va_Pc As (zH D wc tys H.size sa)) (zQi D w1 tys (va_A wc H.size) r) mc ms (va_A wc H.size)) (cw : vx_CSW R s args own index y bytes maxL ret hh wy rm mc ms n) (hV : zV sa A0 s s.heap) (hNc : zNcs s) (hK : va_K D vwCl tys s) (hP : va_P D vwCl ws H) (hD : va_D A0 ws) (hS : va_S A0 s.heap H locs) (hA : ∀ q, s.heap.size ≤ q → A0 q) (hsp : zSp ws ws' wc w1) (ha : w1.map Prod.fst = wc.map Prod.fst) (hn : As.length = n) (hsize : ls.size = nL) (hst : st = As.reverse ++ rest) (hroom : (rest.map fun v => v.category).sum ≤ 8) (hdg : decode cc pc = .ok (.invokestatic index, 3)) (hf : cells + mc ≤ R.cells ∧ slots + ms ≤ R.slots) (kk : ∀ (H1 : Heap) (locs1 : List Loc), va_P D vwCl ws' H1 → va_D A0 ws' → va_S A0 s.heap H1 locs1 → W p l e R s m args below meth c H1 locs1 (cells + mc) (slots + ms) Q (F0 m (pc + 3) ls (.int r :: rest))) : W p l e R s m args below meth c H locs cells slots Q (F0 m pc ls st) := by
  have hF := z_freeM hsp hD hS hA
  have hPc := z_mid hsp hP
  have hDc := z_midD hsp hD
  refine va_calli (vx_runSW (As := As) (rest := rest) S hM cw (z_preH hV hNc hS hF hK hPc hDc) rfl hn hsize hst (lv_room hroom) hdg hf) hS (fun q _ h => hF q h) hF (fun r' u t Hn locs1 ht hvm hw hB hz1 hk1 hS1 => ?_)
  subst hw
  obtain ⟨hP1, hK1, hD1⟩ := hB
  rw [ht] at hP1
  obtain ⟨hP2, hD2⟩ := z_inpl hP hD hsp ha hk1 hP1
  exact kk Hn locs1 hP2 hD2 hS1
theorem z_hPi {r : Int32} (S : CallFix p m c cc nL s args Ts own) (hM : Met l y wy rm (va_Pc As (zH D wc tys H.size sa)) (zQi D w1 tys (va_A wc H.size) r) mc ms (va_A wc H.size)) (cw : CallB R s args own index y bytes maxL ret wy rm mc ms n ∧ (Cond.static y).before args s = true) (hV : zV sa A0 s s.heap) (hNc : zNcs s) (hK : va_K D vwCl tys s) (hP : va_P D vwCl ws H) (hD : va_D A0 ws) (hS : va_S A0 s.heap H locs) (hA : ∀ q, s.heap.size ≤ q → A0 q) (hsp : zSp ws ws' wc w1) (ha : w1.map Prod.fst = wc.map Prod.fst) (hn : As.length = n) (hsize : ls.size = nL) (hst : st = As.reverse ++ rest) (hroom : (rest.map fun v => v.category).sum ≤ 8) (hdg : decode cc pc = .ok (.invokestatic index, 3)) (hf : cells + mc ≤ R.cells ∧ slots + ms ≤ R.slots) (kk : ∀ (H1 : Heap) (locs1 : List Loc), va_P D vwCl ws' H1 → va_D A0 ws' → va_S A0 s.heap H1 locs1 → W p l e R s m args below meth c H1 locs1 (cells + mc) (slots + ms) Q (F0 m (pc + 3) ls (.int r :: rest))) : W p l e R s m args below meth c H locs cells slots Q (F0 m pc ls st) := by
  have hF := z_freeM hsp hD hS hA
  have hPc := z_mid hsp hP
  have hDc := z_midD hsp hD
  refine va_calli (va_runS (As := As) (rest := rest) S hM cw (z_preH hV hNc hS hF hK hPc hDc) rfl hn hsize hst (lv_room hroom) hdg hf) hS (fun q _ h => hF q h) hF (fun r' u t Hn locs1 ht hvm hw hB hz1 hk1 hS1 => ?_)
  subst hw
  obtain ⟨hP1, hK1, hD1⟩ := hB
  rw [ht] at hP1
  obtain ⟨hP2, hD2⟩ := z_inpl hP hD hsp ha hk1 hP1
  exact kk Hn locs1 hP2 hD2 hS1
end ZY
