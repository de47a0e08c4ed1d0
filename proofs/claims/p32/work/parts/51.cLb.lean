set_option maxHeartbeats 4000000 in
set_option maxRecDepth 100000 in
theorem c_L_merge (l : Launch) (dC : Nat → ClassId) (dI : Nat → Nat → Nat) (cI : ClassId) (aa : Nat → Nat) (vm : Nat → Int32) (vr : Nat → Int32) (vh : Nat → Int32) (vl : Nat → Int32) (vq : Nat → Int32) (F : Nat) (sz : Nat) (u_vm : Nat → Int32) (u_vr : Nat → Int32) (u_vh : Nat → Int32) (u_vq : Nat → Int32) (hm : L_merge F vm vr vh vl vq = some (u_vm, u_vr, u_vh, u_vq)) : Met l yL_merge wsL_merge ({ frames := 2, cells := 2, slots := 128, locals := 53 }) (va_Pc [.ref (aa 1), .ref (aa 0), .ref (aa 2), .ref (aa 3), .ref (aa 4)] (zW (dC, dI) (w5 cI aa vm vr vh vl vq) [(cI, .int)] sz)) (zQv (dC, dI) (w5 cI aa u_vm u_vr u_vh vl u_vq) [(cI, .int)] (va_A (w5 cI aa vm vr vh vl vq) sz)) 2 128 (va_A (w5 cI aa vm vr vh vl vq) sz) := by
  refine Met.ofW (cc := cL_merge) (maxL := 13) (ret := none) (by decide) rfl ?_
  intro p e s m args below meth c s₁ B hml hv
  obtain ⟨rfl, hsz, hP, hK, hD0⟩ := hv
  have hx := B.exec
  have hb := B.bytes
  have hr := B.returns
  have hts := atoms_spec (ws := wsL_merge) B.pre
  have hown : s.vm.findClass RL = some m.cls := findClass_of_methodNamed B.named
  have hlocks := B.notSynchronized
  subst hsz
  have hD := hD0.self (sz := s.heap.size)
  generalize hAe : va_A (w5 cI aa vm vr vh vl vq) s.heap.size = A at hD ⊢
  have hA : ∀ q : Nat, s.heap.size ≤ q → A q := fun q h => by rw [← hAe]; exact Or.inr h
  have hS : va_S A s.heap s.heap [] := va_S.rf
  generalize eL : ([] : List Loc) = locs at hS ⊢
  obtain ⟨H, eH⟩ : ∃ z : Heap, z = s.heap := ⟨_, rfl⟩
  have hP : va_P (dC, dI) vwCl (w5 cI aa vm vr vh vl vq) H := by rw [eH]; exact hP
  have hS : va_S A s.heap H locs := by rw [eH]; exact hS
  refine z_heap eH ?_
  have hl := lv_entry ([.ref (aa 1), .ref (aa 0), .ref (aa 2), .ref (aa 3), .ref (aa 4)]) (n := 13) (Nat.le_of_ble_eq_true rfl)
  rw [lg_entry_eq]
  generalize (lg_sl ([.ref (aa 1), .ref (aa 0), .ref (aa 2), .ref (aa 3), .ref (aa 4)]) ++ List.replicate (13 - (lg_sl ([.ref (aa 1), .ref (aa 0), .ref (aa 2), .ref (aa 3), .ref (aa 4)])).length) Slot.unset).toArray = ls at hl ⊢
  have hl : lv_has ls 13 [(0, .ref (aa 1)), (1, .ref (aa 0)), (2, .ref (aa 2)), (3, .ref (aa 3)), (4, .ref (aa 4))] := hl
  have zw0 := hts (.arrayClass .int) (List.mem_cons_of_mem _ (List.mem_of_getElem? (i := 0) rfl))
  refine lv_bipush (v := 64) hx hb dL_merge_0 (by decide) ?_
  refine va_newa (atype := .int) (ty := .int) (N' := 64) (a0 := (64, .inl (fun _ => 0))) hx hb zw0 rfl hK hP hD hS hA (fun _ => rfl) (by decide) (by decide) (Nat.le_of_ble_eq_true rfl) (Nat.le_of_ble_eq_true rfl) (Nat.le_of_ble_eq_true rfl) dL_merge_2 (fun a5 cA0 H hK9 hP hD hS => ?_)
  rw [z_arrEq hK9 0 1 rfl rfl] at hP hD
  have hP : va_P (dC, dI) vwCl ((w5 cI aa vm vr vh vl vq) ++ [(a5, .inl (cI, 64, .inl (fun _ => 0)))]) H := hP
  have hD : va_D A ((w5 cI aa vm vr vh vl vq) ++ [(a5, .inl (cI, 64, .inl (fun _ => 0)))]) := hD
  refine W.widen (k := 1) (n := 64) (Nat.le_of_ble_eq_true rfl) (Nat.le_of_ble_eq_true rfl) ?_
  refine lv_astore (lv' := [(5, .ref a5), (0, .ref (aa 1)), (1, .ref (aa 0)), (2, .ref (aa 2)), (3, .ref (aa 3)), (4, .ref (aa 4))]) hx hb dL_merge_4 hl (by decide) rfl (fun ls hl => ?_)
  refine lv_bipush (v := 64) hx hb dL_merge_6 (by decide) ?_
  refine va_newa (atype := .int) (ty := .int) (N' := 64) (a0 := (64, .inl (fun _ => 0))) hx hb zw0 rfl hK hP hD hS hA (fun _ => rfl) (by decide) (by decide) (Nat.le_of_ble_eq_true rfl) (Nat.le_of_ble_eq_true rfl) (Nat.le_of_ble_eq_true rfl) dL_merge_8 (fun a6 cA1 H hK9 hP hD hS => ?_)
  rw [z_arrEq hK9 0 1 rfl rfl] at hP hD
  have hP : va_P (dC, dI) vwCl ((w5 cI aa vm vr vh vl vq) ++ [(a5, .inl (cI, 64, .inl (fun _ => 0))), (a6, .inl (cI, 64, .inl (fun _ => 0)))]) H := hP
  have hD : va_D A ((w5 cI aa vm vr vh vl vq) ++ [(a5, .inl (cI, 64, .inl (fun _ => 0))), (a6, .inl (cI, 64, .inl (fun _ => 0)))]) := hD
  refine W.widen (k := 2) (n := 128) (Nat.le_of_ble_eq_true rfl) (Nat.le_of_ble_eq_true rfl) ?_
  refine lv_astore (lv' := [(6, .ref a6), (5, .ref a5), (0, .ref (aa 1)), (1, .ref (aa 0)), (2, .ref (aa 2)), (3, .ref (aa 3)), (4, .ref (aa 4))]) hx hb dL_merge_10 hl (by decide) rfl (fun ls hl => ?_)
  have hP : va_P (dC, dI) vwCl (w7 cI aa a5 a6 vm vr vh vl vq (fun _ => 0) (fun _ => 0)) H := hP
  have hD : va_D A (w7 cI aa a5 a6 vm vr vh vl vq (fun _ => 0) (fun _ => 0)) := hD
  refine lv_iconst (v := 0) hx hb dL_merge_12 (by decide) ?_
  refine lv_istore (lv' := [(7, .int 0), (6, .ref a6), (5, .ref a5), (0, .ref (aa 1)), (1, .ref (aa 0)), (2, .ref (aa 2)), (3, .ref (aa 3)), (4, .ref (aa 4))]) hx hb dL_merge_13 hl (by decide) rfl (fun ls hl => ?_)
  refine lv_iconst (v := 0) hx hb dL_merge_15 (by decide) ?_
  refine lv_istore (lv' := [(8, .int 0), (7, .int 0), (6, .ref a6), (5, .ref a5), (0, .ref (aa 1)), (1, .ref (aa 0)), (2, .ref (aa 2)), (3, .ref (aa 3)), (4, .ref (aa 4))]) hx hb dL_merge_16 hl (by decide) rfl (fun ls hl => ?_)
  obtain ⟨z_18, hq_18, hm⟩ := ob hm
  have K_18 : ∀ (x7_28 : Int32), ∀ (vqx18 : Nat → Int32), ∀ (vxx18 : Nat → Int32), ∀ (vyx18 : Nat → Int32), z_18 = (x7_28, vqx18, vxx18, vyx18) → ∀ (H : Heap) (locs : List Loc), va_P (dC, dI) vwCl (w7 cI aa a5 a6 vm vr vh vl vqx18 vxx18 vyx18) H → va_D A (w7 cI aa a5 a6 vm vr vh vl vqx18 vxx18 vyx18) → va_S A s.heap H locs → ∀ (ls : Array Slot), lv_has ls 13 [(7, .int x7_28), (6, .ref a6), (5, .ref a5), (0, .ref (aa 1)), (1, .ref (aa 0)), (2, .ref (aa 2)), (4, .ref (aa 4))] → W p l e (headSpec wsL_merge ({ frames := 2, cells := 2, slots := 128, locals := 53 } : Room)).room s m ([.ref (aa 1), .ref (aa 0), .ref (aa 2), .ref (aa 3), .ref (aa 4)] : List Value).toArray below meth c H locs 2 128 (MQ below (zQv (dC, dI) (w5 cI aa u_vm u_vr u_vh vl u_vq) [(cI, .int)] A) ([.ref (aa 1), .ref (aa 0), .ref (aa 2), .ref (aa 3), .ref (aa 4)] : List Value).toArray s 2 128 A) (F0 m 277 ls []) := by
    intro x7_28 vqx18 vxx18 vyx18 ez H locs hP hD hS ls hl
    rw [ez] at hm
    refine lv_aload hx hb dL_merge_277 (lv_at hl 6 rfl) ?_
    refine lv_iconst (v := 0) hx hb dL_merge_279 (by decide) ?_
    refine lv_iload hx hb dL_merge_280 (lv_at hl 0 rfl) ?_
    obtain ⟨c_282, hm⟩ := ck hm
    refine va_iast hx hb hK hP hD hS 4 0 rfl rfl c_282 dL_merge_282 (fun H locs hP hD hS => ?_)
    have hP : va_P (dC, dI) vwCl (w7 cI aa a5 a6 vm vr vh vl (upd vqx18 (Int32.toNatClampNeg 0) x7_28) vxx18 vyx18) H := hP
    have hD : va_D A (w7 cI aa a5 a6 vm vr vh vl (upd vqx18 (Int32.toNatClampNeg 0) x7_28) vxx18 vyx18) := hD
    refine lv_aload hx hb dL_merge_283 (lv_at hl 6 rfl) ?_
    refine lv_iconst (v := 1) hx hb dL_merge_285 (by decide) ?_
    refine lv_iconst (v := 0) hx hb dL_merge_286 (by decide) ?_
    obtain ⟨c_287, hm⟩ := ck hm
    refine va_iast hx hb hK hP hD hS 4 0 rfl rfl c_287 dL_merge_287 (fun H locs hP hD hS => ?_)
    have hP : va_P (dC, dI) vwCl (w7 cI aa a5 a6 vm vr vh vl (upd (upd vqx18 (Int32.toNatClampNeg 0) x7_28) (Int32.toNatClampNeg 1) 0) vxx18 vyx18) H := hP
    have hD : va_D A (w7 cI aa a5 a6 vm vr vh vl (upd (upd vqx18 (Int32.toNatClampNeg 0) x7_28) (Int32.toNatClampNeg 1) 0) vxx18 vyx18) := hD
    refine lv_iconst (v := 0) hx hb dL_merge_288 (by decide) ?_
    refine lv_istore (lv' := [(8, .int 0), (7, .int x7_28), (6, .ref a6), (5, .ref a5), (0, .ref (aa 1)), (1, .ref (aa 0)), (2, .ref (aa 2)), (4, .ref (aa 4))]) hx hb dL_merge_289 hl (by decide) rfl (fun ls hl => ?_)
    obtain ⟨z_291, hq_291, hm⟩ := ob hm
    have K_291 : ∀ (vmx291 : Nat → Int32), ∀ (vrx291 : Nat → Int32), ∀ (vhx291 : Nat → Int32), z_291 = (vmx291, vrx291, vhx291) → ∀ (H : Heap) (locs : List Loc), va_P (dC, dI) vwCl (w7 cI aa a5 a6 vmx291 vrx291 vhx291 vl (upd (upd vqx18 (Int32.toNatClampNeg 0) x7_28) (Int32.toNatClampNeg 1) 0) vxx18 vyx18) H → va_D A (w7 cI aa a5 a6 vmx291 vrx291 vhx291 vl (upd (upd vqx18 (Int32.toNatClampNeg 0) x7_28) (Int32.toNatClampNeg 1) 0) vxx18 vyx18) → va_S A s.heap H locs → ∀ (ls : Array Slot), lv_has ls 13 [(7, .int x7_28), (0, .ref (aa 1)), (2, .ref (aa 2)), (4, .ref (aa 4))] → W p l e (headSpec wsL_merge ({ frames := 2, cells := 2, slots := 128, locals := 53 } : Room)).room s m ([.ref (aa 1), .ref (aa 0), .ref (aa 2), .ref (aa 3), .ref (aa 4)] : List Value).toArray below meth c H locs 2 128 (MQ below (zQv (dC, dI) (w5 cI aa u_vm u_vr u_vh vl u_vq) [(cI, .int)] A) ([.ref (aa 1), .ref (aa 0), .ref (aa 2), .ref (aa 3), .ref (aa 4)] : List Value).toArray s 2 128 A) (F0 m 327 ls []) := by
      intro vmx291 vrx291 vhx291 ez H locs hP hD hS ls hl
      rw [ez] at hm
      refine lv_iconst (v := 0) hx hb dL_merge_327 (by decide) ?_
      refine lv_istore (lv' := [(8, .int 0), (7, .int x7_28), (0, .ref (aa 1)), (2, .ref (aa 2)), (4, .ref (aa 4))]) hx hb dL_merge_328 hl (by decide) rfl (fun ls hl => ?_)
      obtain ⟨z_330, hq_330, hm⟩ := ob hm
      have K_330 : ∀ (vhx330 : Nat → Int32), ∀ (vqx330 : Nat → Int32), z_330 = (vhx330, vqx330) → ∀ (H : Heap) (locs : List Loc), va_P (dC, dI) vwCl (w7 cI aa a5 a6 vmx291 vrx291 vhx330 vl vqx330 vxx18 vyx18) H → va_D A (w7 cI aa a5 a6 vmx291 vrx291 vhx330 vl vqx330 vxx18 vyx18) → va_S A s.heap H locs → ∀ (ls : Array Slot), lv_has ls 13 [(4, .ref (aa 4))] → W p l e (headSpec wsL_merge ({ frames := 2, cells := 2, slots := 128, locals := 53 } : Room)).room s m ([.ref (aa 1), .ref (aa 0), .ref (aa 2), .ref (aa 3), .ref (aa 4)] : List Value).toArray below meth c H locs 2 128 (MQ below (zQv (dC, dI) (w5 cI aa u_vm u_vr u_vh vl u_vq) [(cI, .int)] A) ([.ref (aa 1), .ref (aa 0), .ref (aa 2), .ref (aa 3), .ref (aa 4)] : List Value).toArray s 2 128 A) (F0 m 405 ls []) := by
        intro vhx330 vqx330 ez H locs hP hD hS ls hl
        rw [ez] at hm
        refine lv_aload hx hb dL_merge_405 (lv_at hl 0 rfl) ?_
        refine lv_iconst (v := 4) hx hb dL_merge_407 (by decide) ?_
        refine lv_dup2_11 hx hb dL_merge_408 rfl rfl ?_
        obtain ⟨c_409, hm⟩ := ck hm
        refine va_iald hx hb hK hP 4 0 rfl rfl c_409 dL_merge_409 ?_
        refine lv_iconst (v := 1) hx hb dL_merge_410 (by decide) ?_
        refine lv_iadd hx hb dL_merge_411 ?_
        obtain ⟨c_412, hm⟩ := ck hm
        refine va_iast hx hb hK hP hD hS 4 0 rfl rfl c_412 dL_merge_412 (fun H locs hP hD hS => ?_)
        have hP : va_P (dC, dI) vwCl (w7 cI aa a5 a6 vmx291 vrx291 vhx330 vl (upd vqx330 (Int32.toNatClampNeg 4) ((vqx330 (Int32.toNatClampNeg 4)) + 1)) vxx18 vyx18) H := hP
        have hD : va_D A (w7 cI aa a5 a6 vmx291 vrx291 vhx330 vl (upd vqx330 (Int32.toNatClampNeg 4) ((vqx330 (Int32.toNatClampNeg 4)) + 1)) vxx18 vyx18) := hD
        have hP := z_mid (pj7_small cI aa a5 a6 vmx291 vrx291 vhx330 vl (upd vqx330 (Int32.toNatClampNeg 4) ((vqx330 (Int32.toNatClampNeg 4)) + 1)) vxx18 vyx18) hP
        have hD := z_midD (pj7_small cI aa a5 a6 vmx291 vrx291 vhx330 vl (upd vqx330 (Int32.toNatClampNeg 4) ((vqx330 (Int32.toNatClampNeg 4)) + 1)) vxx18 vyx18) hD
        cases o2 hm
        exact W.vret hx hb hr (fun t ht hW => ⟨⟨(), rfl, trivial, by rw [ht]; exact hP, va_K.moved hW.alike hK, hD⟩, hS.F ht⟩) hS.2.2 dL_merge_413
      have L_330 : ∀ (n : Nat) (x8_3 : Int32) (vhl330 : Nat → Int32) (vql330 : Nat → Int32), L_merge_L330 F x7_28 vrx291 n x8_3 vhl330 vql330 = some z_330 → ∀ (H : Heap) (locs : List Loc), va_P (dC, dI) vwCl (w7 cI aa a5 a6 vmx291 vrx291 vhl330 vl vql330 vxx18 vyx18) H → va_D A (w7 cI aa a5 a6 vmx291 vrx291 vhl330 vl vql330 vxx18 vyx18) → va_S A s.heap H locs → ∀ (ls : Array Slot), lv_has ls 13 [(8, .int x8_3), (7, .int x7_28), (0, .ref (aa 1)), (2, .ref (aa 2)), (4, .ref (aa 4))] → W p l e (headSpec wsL_merge ({ frames := 2, cells := 2, slots := 128, locals := 53 } : Room)).room s m ([.ref (aa 1), .ref (aa 0), .ref (aa 2), .ref (aa 3), .ref (aa 4)] : List Value).toArray below meth c H locs 2 128 (MQ below (zQv (dC, dI) (w5 cI aa u_vm u_vr u_vh vl u_vq) [(cI, .int)] A) ([.ref (aa 1), .ref (aa 0), .ref (aa 2), .ref (aa 3), .ref (aa 4)] : List Value).toArray s 2 128 A) (F0 m 330 ls []) := by
        intro n
        induction n with
        | zero => intro x8_3 vhl330 vql330 hm; cases hm
        | succ n ih_330 =>
          intro x8_3 vhl330 vql330 hm H locs hP hD hS ls hl
          refine lv_iload hx hb dL_merge_330 (lv_at hl 0 rfl) ?_
          refine lv_iload hx hb dL_merge_332 (lv_at hl 1 rfl) ?_
          refine lv_icmp_ge (tgt := 405) hx hb dL_merge_334 (by decide) (fun c_334 => ?_) (fun c_334 => ?_)
          · have hm := it_t hm c_334
            exact K_330 vhl330 vql330 (o2 hm) _ _ hP hD hS _ (lv_sub hl [4] rfl)
          · have hm := it_f hm c_334
            refine lv_aload_n hx hb dL_merge_337 rfl (lv_at hl 3 rfl) ?_
            refine lv_iload hx hb dL_merge_338 (lv_at hl 0 rfl) ?_
            refine lv_iload hx hb dL_merge_340 (lv_at hl 1 rfl) ?_
            obtain ⟨r342, h_342, hm⟩ := ob hm
            refine z_callSi (As := [.ref (aa 2), .int x8_3, .int x7_28]) (rest := []) ⟨hx, hb, hml, hown, hts⟩ (c_L_behind l dC dI cI (aa 2) 64 vhl330 F x8_3 x7_28 r342 h_342) (va_cwS 3 hts gL_merge_L_behind rfl rfl rfl ks_L_behind ⟨Nat.le_of_ble_eq_true rfl, Nat.le_of_ble_eq_true rfl⟩) hK (z_mid (pj7_1vh cI aa a5 a6 vmx291 vrx291 vhl330 vl vql330 vxx18 vyx18 vhl330) hP) rfl hl.1 rfl (Nat.le_of_ble_eq_true rfl) dL_merge_342 ⟨Nat.le_of_ble_eq_true rfl, Nat.le_of_ble_eq_true rfl⟩ ?_
            refine lv_iload hx hb dL_merge_345 (lv_at hl 1 rfl) ?_
            refine lv_icmp_ge (tgt := 405) hx hb dL_merge_347 (by decide) (fun c_347 => ?_) (fun c_347 => ?_)
            · have hm := it_t hm c_347
              exact K_330 vhl330 vql330 (o2 hm) _ _ hP hD hS _ (lv_sub hl [4] rfl)
            · have hm := it_f hm c_347
              refine lv_aload_n hx hb dL_merge_350 rfl (lv_at hl 3 rfl) ?_
              refine lv_iload hx hb dL_merge_351 (lv_at hl 0 rfl) ?_
              refine lv_iload hx hb dL_merge_353 (lv_at hl 1 rfl) ?_
              obtain ⟨r355, h_355, hm⟩ := ob hm
              refine z_callSi (As := [.ref (aa 2), .int x8_3, .int x7_28]) (rest := []) ⟨hx, hb, hml, hown, hts⟩ (c_L_behind l dC dI cI (aa 2) 64 vhl330 F x8_3 x7_28 r355 h_355) (va_cwS 3 hts gL_merge_L_behind rfl rfl rfl ks_L_behind ⟨Nat.le_of_ble_eq_true rfl, Nat.le_of_ble_eq_true rfl⟩) hK (z_mid (pj7_1vh cI aa a5 a6 vmx291 vrx291 vhl330 vl vql330 vxx18 vyx18 vhl330) hP) rfl hl.1 rfl (Nat.le_of_ble_eq_true rfl) dL_merge_355 ⟨Nat.le_of_ble_eq_true rfl, Nat.le_of_ble_eq_true rfl⟩ ?_
              refine lv_istore (lv' := [(9, .int r355), (8, .int x8_3), (7, .int x7_28), (0, .ref (aa 1)), (2, .ref (aa 2)), (4, .ref (aa 4))]) hx hb dL_merge_358 hl (by decide) rfl (fun ls hl => ?_)
              refine lv_aload_n hx hb dL_merge_360 rfl (lv_at hl 3 rfl) ?_
              refine lv_iload hx hb dL_merge_361 (lv_at hl 1 rfl) ?_
              refine lv_aload_n hx hb dL_merge_363 rfl (lv_at hl 4 rfl) ?_
              refine lv_iload hx hb dL_merge_364 (lv_at hl 0 rfl) ?_
              refine lv_iload hx hb dL_merge_366 (lv_at hl 2 rfl) ?_
              obtain ⟨r368, h_368, hm⟩ := ob hm
              refine z_callSi (As := [.ref (aa 2), .int r355, .int x7_28]) (rest := [.int x8_3, .ref (aa 1)]) ⟨hx, hb, hml, hown, hts⟩ (c_L_behind l dC dI cI (aa 2) 64 vhl330 F r355 x7_28 r368 h_368) (va_cwS 3 hts gL_merge_L_behind rfl rfl rfl ks_L_behind ⟨Nat.le_of_ble_eq_true rfl, Nat.le_of_ble_eq_true rfl⟩) hK (z_mid (pj7_1vh cI aa a5 a6 vmx291 vrx291 vhl330 vl vql330 vxx18 vyx18 vhl330) hP) rfl hl.1 rfl (Nat.le_of_ble_eq_true rfl) dL_merge_368 ⟨Nat.le_of_ble_eq_true rfl, Nat.le_of_ble_eq_true rfl⟩ ?_
              refine lv_aload hx hb dL_merge_371 (lv_at hl 5 rfl) ?_
              refine lv_iconst (v := 2) hx hb dL_merge_373 (by decide) ?_
              obtain ⟨c_374, hm⟩ := ck hm
              refine va_iald hx hb hK hP 4 0 rfl rfl c_374 dL_merge_374 ?_
              obtain ⟨r375, h_375, hm⟩ := ob hm
              refine z_callSi (As := [.ref (aa 1), .int x8_3, .int r368, .int (vql330 (Int32.toNatClampNeg 2))]) (rest := []) ⟨hx, hb, hml, hown, hts⟩ (c_L_fits l dC dI cI (aa 1) 64 vrx291 F x8_3 r368 (vql330 (Int32.toNatClampNeg 2)) r375 h_375) (va_cwS 4 hts gL_merge_L_fits rfl rfl rfl ks_L_fits ⟨Nat.le_of_ble_eq_true rfl, Nat.le_of_ble_eq_true rfl⟩) hK (z_mid (pj7_1vr cI aa a5 a6 vmx291 vrx291 vhl330 vl vql330 vxx18 vyx18 vrx291) hP) rfl hl.1 rfl (Nat.le_of_ble_eq_true rfl) dL_merge_375 ⟨Nat.le_of_ble_eq_true rfl, Nat.le_of_ble_eq_true rfl⟩ ?_
              refine lv_if_eq (tgt := 398) hx hb dL_merge_378 (by decide) (fun c_378 => ?_) (fun c_378 => ?_)
              · have hm := it_t hm c_378
                refine lv_iload hx hb dL_merge_398 (lv_at hl 0 rfl) ?_
                refine lv_istore (lv' := [(8, .int r355), (9, .int r355), (7, .int x7_28), (0, .ref (aa 1)), (2, .ref (aa 2)), (4, .ref (aa 4))]) hx hb dL_merge_400 hl (by decide) rfl (fun ls hl => ?_)
                refine lv_goto (tgt := 330) hx hb dL_merge_402 (by decide) ?_
                exact ih_330 r355 vhl330 vql330 hm _ _ hP hD hS _ (lv_sub hl [0, 2, 3, 4, 5] rfl)
              · have hm := it_f hm c_378
                refine lv_aload_n hx hb dL_merge_381 rfl (lv_at hl 4 rfl) ?_
                refine lv_iload hx hb dL_merge_382 (lv_at hl 0 rfl) ?_
                refine lv_iconst (v := 0) hx hb dL_merge_384 (by decide) ?_
                obtain ⟨c_385, hm⟩ := ck hm
                refine va_iast hx hb hK hP hD hS 2 0 rfl rfl c_385 dL_merge_385 (fun H locs hP hD hS => ?_)
                have hP : va_P (dC, dI) vwCl (w7 cI aa a5 a6 vmx291 vrx291 (upd vhl330 (Int32.toNatClampNeg r355) 0) vl vql330 vxx18 vyx18) H := hP
                have hD : va_D A (w7 cI aa a5 a6 vmx291 vrx291 (upd vhl330 (Int32.toNatClampNeg r355) 0) vl vql330 vxx18 vyx18) := hD
                refine lv_aload hx hb dL_merge_386 (lv_at hl 5 rfl) ?_
                refine lv_bipush (v := 6) hx hb dL_merge_388 (by decide) ?_
                refine lv_dup2_11 hx hb dL_merge_390 rfl rfl ?_
                obtain ⟨c_391, hm⟩ := ck hm
                refine va_iald hx hb hK hP 4 0 rfl rfl c_391 dL_merge_391 ?_
                refine lv_iconst (v := 1) hx hb dL_merge_392 (by decide) ?_
                refine lv_iadd hx hb dL_merge_393 ?_
                obtain ⟨c_394, hm⟩ := ck hm
                refine va_iast hx hb hK hP hD hS 4 0 rfl rfl c_394 dL_merge_394 (fun H locs hP hD hS => ?_)
                have hP : va_P (dC, dI) vwCl (w7 cI aa a5 a6 vmx291 vrx291 (upd vhl330 (Int32.toNatClampNeg r355) 0) vl (upd vql330 (Int32.toNatClampNeg 6) ((vql330 (Int32.toNatClampNeg 6)) + 1)) vxx18 vyx18) H := hP
                have hD : va_D A (w7 cI aa a5 a6 vmx291 vrx291 (upd vhl330 (Int32.toNatClampNeg r355) 0) vl (upd vql330 (Int32.toNatClampNeg 6) ((vql330 (Int32.toNatClampNeg 6)) + 1)) vxx18 vyx18) := hD
                refine lv_goto (tgt := 402) hx hb dL_merge_395 (by decide) ?_
                refine lv_goto (tgt := 330) hx hb dL_merge_402 (by decide) ?_
                exact ih_330 x8_3 (upd vhl330 (Int32.toNatClampNeg r355) 0) (upd vql330 (Int32.toNatClampNeg 6) ((vql330 (Int32.toNatClampNeg 6)) + 1)) hm _ _ hP hD hS _ (lv_sub hl [1, 2, 3, 4, 5] rfl)
      exact L_330 F 0 vhx291 (upd (upd vqx18 (Int32.toNatClampNeg 0) x7_28) (Int32.toNatClampNeg 1) 0) hq_330 _ _ hP hD hS _ (lv_sub hl [0, 1, 2, 3, 4] rfl)
    have L_291 : ∀ (n : Nat) (x8_1 : Int32) (vml291 : Nat → Int32) (vrl291 : Nat → Int32) (vhl291 : Nat → Int32), L_merge_L291 vxx18 vyx18 n x8_1 vml291 vrl291 vhl291 = some z_291 → ∀ (H : Heap) (locs : List Loc), va_P (dC, dI) vwCl (w7 cI aa a5 a6 vml291 vrl291 vhl291 vl (upd (upd vqx18 (Int32.toNatClampNeg 0) x7_28) (Int32.toNatClampNeg 1) 0) vxx18 vyx18) H → va_D A (w7 cI aa a5 a6 vml291 vrl291 vhl291 vl (upd (upd vqx18 (Int32.toNatClampNeg 0) x7_28) (Int32.toNatClampNeg 1) 0) vxx18 vyx18) → va_S A s.heap H locs → ∀ (ls : Array Slot), lv_has ls 13 [(8, .int x8_1), (7, .int x7_28), (6, .ref a6), (5, .ref a5), (0, .ref (aa 1)), (1, .ref (aa 0)), (2, .ref (aa 2)), (4, .ref (aa 4))] → W p l e (headSpec wsL_merge ({ frames := 2, cells := 2, slots := 128, locals := 53 } : Room)).room s m ([.ref (aa 1), .ref (aa 0), .ref (aa 2), .ref (aa 3), .ref (aa 4)] : List Value).toArray below meth c H locs 2 128 (MQ below (zQv (dC, dI) (w5 cI aa u_vm u_vr u_vh vl u_vq) [(cI, .int)] A) ([.ref (aa 1), .ref (aa 0), .ref (aa 2), .ref (aa 3), .ref (aa 4)] : List Value).toArray s 2 128 A) (F0 m 291 ls []) := by
      intro n
      induction n with
      | zero => intro x8_1 vml291 vrl291 vhl291 hm; cases hm
      | succ n ih_291 =>
        intro x8_1 vml291 vrl291 vhl291 hm H locs hP hD hS ls hl
        refine lv_iload hx hb dL_merge_291 (lv_at hl 0 rfl) ?_
        refine lv_bipush (v := 64) hx hb dL_merge_293 (by decide) ?_
        refine lv_icmp_ge (tgt := 327) hx hb dL_merge_295 (by decide) (fun c_295 => ?_) (fun c_295 => ?_)
        · have hm := it_t hm c_295
          exact K_291 vml291 vrl291 vhl291 (o2 hm) _ _ hP hD hS _ (lv_sub hl [1, 4, 6, 7] rfl)
        · have hm := it_f hm c_295
          refine lv_aload_n hx hb dL_merge_298 rfl (lv_at hl 4 rfl) ?_
          refine lv_iload hx hb dL_merge_299 (lv_at hl 0 rfl) ?_
          refine lv_aload hx hb dL_merge_301 (lv_at hl 3 rfl) ?_
          refine lv_iload hx hb dL_merge_303 (lv_at hl 0 rfl) ?_
          obtain ⟨c_305, hm⟩ := ck hm
          refine va_iald hx hb hK hP 5 0 rfl rfl c_305 dL_merge_305 ?_
          obtain ⟨c_306, hm⟩ := ck hm
          refine va_iast hx hb hK hP hD hS 1 0 rfl rfl c_306 dL_merge_306 (fun H locs hP hD hS => ?_)
          have hP : va_P (dC, dI) vwCl (w7 cI aa a5 a6 vml291 (upd vrl291 (Int32.toNatClampNeg x8_1) (vxx18 (Int32.toNatClampNeg x8_1))) vhl291 vl (upd (upd vqx18 (Int32.toNatClampNeg 0) x7_28) (Int32.toNatClampNeg 1) 0) vxx18 vyx18) H := hP
          have hD : va_D A (w7 cI aa a5 a6 vml291 (upd vrl291 (Int32.toNatClampNeg x8_1) (vxx18 (Int32.toNatClampNeg x8_1))) vhl291 vl (upd (upd vqx18 (Int32.toNatClampNeg 0) x7_28) (Int32.toNatClampNeg 1) 0) vxx18 vyx18) := hD
          refine lv_aload_n hx hb dL_merge_307 rfl (lv_at hl 6 rfl) ?_
          refine lv_iload hx hb dL_merge_308 (lv_at hl 0 rfl) ?_
          refine lv_aload hx hb dL_merge_310 (lv_at hl 2 rfl) ?_
          refine lv_iload hx hb dL_merge_312 (lv_at hl 0 rfl) ?_
          obtain ⟨c_314, hm⟩ := ck hm
          refine va_iald hx hb hK hP 6 0 rfl rfl c_314 dL_merge_314 ?_
          obtain ⟨c_315, hm⟩ := ck hm
          refine va_iast hx hb hK hP hD hS 2 0 rfl rfl c_315 dL_merge_315 (fun H locs hP hD hS => ?_)
          have hP : va_P (dC, dI) vwCl (w7 cI aa a5 a6 vml291 (upd vrl291 (Int32.toNatClampNeg x8_1) (vxx18 (Int32.toNatClampNeg x8_1))) (upd vhl291 (Int32.toNatClampNeg x8_1) (vyx18 (Int32.toNatClampNeg x8_1))) vl (upd (upd vqx18 (Int32.toNatClampNeg 0) x7_28) (Int32.toNatClampNeg 1) 0) vxx18 vyx18) H := hP
          have hD : va_D A (w7 cI aa a5 a6 vml291 (upd vrl291 (Int32.toNatClampNeg x8_1) (vxx18 (Int32.toNatClampNeg x8_1))) (upd vhl291 (Int32.toNatClampNeg x8_1) (vyx18 (Int32.toNatClampNeg x8_1))) vl (upd (upd vqx18 (Int32.toNatClampNeg 0) x7_28) (Int32.toNatClampNeg 1) 0) vxx18 vyx18) := hD
          refine lv_aload_n hx hb dL_merge_316 rfl (lv_at hl 5 rfl) ?_
          refine lv_iload hx hb dL_merge_317 (lv_at hl 0 rfl) ?_
          refine lv_iconst (v := 0) hx hb dL_merge_319 (by decide) ?_
          obtain ⟨c_320, hm⟩ := ck hm
          refine va_iast hx hb hK hP hD hS 0 0 rfl rfl c_320 dL_merge_320 (fun H locs hP hD hS => ?_)
          have hP : va_P (dC, dI) vwCl (w7 cI aa a5 a6 (upd vml291 (Int32.toNatClampNeg x8_1) 0) (upd vrl291 (Int32.toNatClampNeg x8_1) (vxx18 (Int32.toNatClampNeg x8_1))) (upd vhl291 (Int32.toNatClampNeg x8_1) (vyx18 (Int32.toNatClampNeg x8_1))) vl (upd (upd vqx18 (Int32.toNatClampNeg 0) x7_28) (Int32.toNatClampNeg 1) 0) vxx18 vyx18) H := hP
          have hD : va_D A (w7 cI aa a5 a6 (upd vml291 (Int32.toNatClampNeg x8_1) 0) (upd vrl291 (Int32.toNatClampNeg x8_1) (vxx18 (Int32.toNatClampNeg x8_1))) (upd vhl291 (Int32.toNatClampNeg x8_1) (vyx18 (Int32.toNatClampNeg x8_1))) vl (upd (upd vqx18 (Int32.toNatClampNeg 0) x7_28) (Int32.toNatClampNeg 1) 0) vxx18 vyx18) := hD
          obtain ⟨x8_2, e_x8_2⟩ : ∃ y : Int32, y = x8_1 + 1 := ⟨_, rfl⟩
          have hm := bnd_e hm e_x8_2
          refine lv_iinc (v := x8_2) (lv' := [(8, .int x8_2), (7, .int x7_28), (6, .ref a6), (5, .ref a5), (0, .ref (aa 1)), (1, .ref (aa 0)), (2, .ref (aa 2)), (4, .ref (aa 4))]) hx hb dL_merge_321 hl (k := 0) rfl (by rw [e_x8_2]; rfl) (by decide) rfl (fun ls hl => ?_)
          refine lv_goto (tgt := 291) hx hb dL_merge_324 (by decide) ?_
          exact ih_291 x8_2 (upd vml291 (Int32.toNatClampNeg x8_1) 0) (upd vrl291 (Int32.toNatClampNeg x8_1) (vxx18 (Int32.toNatClampNeg x8_1))) (upd vhl291 (Int32.toNatClampNeg x8_1) (vyx18 (Int32.toNatClampNeg x8_1))) hm _ _ hP hD hS _ (lv_sub hl [0, 1, 2, 3, 4, 5, 6, 7] rfl)
    exact L_291 F 0 vm vr vh hq_291 _ _ hP hD hS _ (lv_sub hl [0, 1, 2, 3, 4, 5, 6, 7] rfl)
  have L_18 : ∀ (n : Nat) (x8 : Int32) (x7 : Int32) (vql18 : Nat → Int32) (vxl18 : Nat → Int32) (vyl18 : Nat → Int32), L_merge_L18 vm vr vh vl F n x8 x7 vql18 vxl18 vyl18 = some z_18 → ∀ (H : Heap) (locs : List Loc), va_P (dC, dI) vwCl (w7 cI aa a5 a6 vm vr vh vl vql18 vxl18 vyl18) H → va_D A (w7 cI aa a5 a6 vm vr vh vl vql18 vxl18 vyl18) → va_S A s.heap H locs → ∀ (ls : Array Slot), lv_has ls 13 [(8, .int x8), (7, .int x7), (6, .ref a6), (5, .ref a5), (0, .ref (aa 1)), (1, .ref (aa 0)), (2, .ref (aa 2)), (3, .ref (aa 3)), (4, .ref (aa 4))] → W p l e (headSpec wsL_merge ({ frames := 2, cells := 2, slots := 128, locals := 53 } : Room)).room s m ([.ref (aa 1), .ref (aa 0), .ref (aa 2), .ref (aa 3), .ref (aa 4)] : List Value).toArray below meth c H locs 2 128 (MQ below (zQv (dC, dI) (w5 cI aa u_vm u_vr u_vh vl u_vq) [(cI, .int)] A) ([.ref (aa 1), .ref (aa 0), .ref (aa 2), .ref (aa 3), .ref (aa 4)] : List Value).toArray s 2 128 A) (F0 m 18 ls []) := by
    intro n
    induction n with
    | zero => intro x8 x7 vql18 vxl18 vyl18 hm; cases hm
    | succ n ih_18 =>
      intro x8 x7 vql18 vxl18 vyl18 hm H locs hP hD hS ls hl
      refine lv_iload hx hb dL_merge_18 (lv_at hl 0 rfl) ?_
      refine lv_aload hx hb dL_merge_20 (lv_at hl 8 rfl) ?_
      refine lv_iconst (v := 0) hx hb dL_merge_22 (by decide) ?_
      obtain ⟨c_23, hm⟩ := ck hm
      refine va_iald hx hb hK hP 4 0 rfl rfl c_23 dL_merge_23 ?_
      refine lv_icmp_lt (tgt := 32) hx hb dL_merge_24 (by decide) (fun c_24 => ?_) (fun c_24 => ?_)
      · have hm := it_t hm c_24
        refine lv_aload hx hb dL_merge_32 (lv_at hl 8 rfl) ?_
        refine lv_iconst (v := 0) hx hb dL_merge_34 (by decide) ?_
        obtain ⟨c_35, hm⟩ := ck hm
        refine va_iald hx hb hK hP 4 0 rfl rfl c_35 dL_merge_35 ?_
        obtain ⟨z_53, hq_53, hm⟩ := ob hm
        have J_53 : ∀ (y53_1 : Int32), z_53 = y53_1 → W p l e (headSpec wsL_merge ({ frames := 2, cells := 2, slots := 128, locals := 53 } : Room)).room s m ([.ref (aa 1), .ref (aa 0), .ref (aa 2), .ref (aa 3), .ref (aa 4)] : List Value).toArray below meth c H locs 2 128 (MQ below (zQv (dC, dI) (w5 cI aa u_vm u_vr u_vh vl u_vq) [(cI, .int)] A) ([.ref (aa 1), .ref (aa 0), .ref (aa 2), .ref (aa 3), .ref (aa 4)] : List Value).toArray s 2 128 A) (F0 m 53 ls [.int y53_1]) := by
          intro y53_1 ez
          rw [ez] at hm
          refine lv_istore (lv' := [(9, .int y53_1), (8, .int x8), (7, .int x7), (6, .ref a6), (5, .ref a5), (0, .ref (aa 1)), (1, .ref (aa 0)), (2, .ref (aa 2)), (3, .ref (aa 3)), (4, .ref (aa 4))]) hx hb dL_merge_53 hl (by decide) rfl (fun ls hl => ?_)
          refine lv_iload hx hb dL_merge_55 (lv_at hl 2 rfl) ?_
          refine lv_istore (lv' := [(10, .int x7), (9, .int y53_1), (8, .int x8), (7, .int x7), (6, .ref a6), (5, .ref a5), (0, .ref (aa 1)), (1, .ref (aa 0)), (2, .ref (aa 2)), (3, .ref (aa 3)), (4, .ref (aa 4))]) hx hb dL_merge_57 hl (by decide) rfl (fun ls hl => ?_)
          refine lv_iconst (v := 0) hx hb dL_merge_59 (by decide) ?_
          refine lv_istore (lv' := [(11, .int 0), (10, .int x7), (9, .int y53_1), (8, .int x8), (7, .int x7), (6, .ref a6), (5, .ref a5), (0, .ref (aa 1)), (1, .ref (aa 0)), (2, .ref (aa 2)), (3, .ref (aa 3)), (4, .ref (aa 4))]) hx hb dL_merge_60 hl (by decide) rfl (fun ls hl => ?_)
          refine lv_iload hx hb dL_merge_62 (lv_at hl 3 rfl) ?_
          refine lv_istore (lv' := [(12, .int x8), (11, .int 0), (10, .int x7), (9, .int y53_1), (8, .int x8), (7, .int x7), (6, .ref a6), (5, .ref a5), (0, .ref (aa 1)), (1, .ref (aa 0)), (2, .ref (aa 2)), (3, .ref (aa 3)), (4, .ref (aa 4))]) hx hb dL_merge_64 hl (by decide) rfl (fun ls hl => ?_)
          obtain ⟨z_66, hq_66, hm⟩ := ob hm
          have K_66 : ∀ (x11_7 : Int32), ∀ (x7_12 : Int32), ∀ (vxx66_1 : Nat → Int32), z_66 = (x11_7, x7_12, vxx66_1) → ∀ (H : Heap) (locs : List Loc), va_P (dC, dI) vwCl (w7 cI aa a5 a6 vm vr vh vl vql18 vxx66_1 vyl18) H → va_D A (w7 cI aa a5 a6 vm vr vh vl vql18 vxx66_1 vyl18) → va_S A s.heap H locs → ∀ (ls : Array Slot), lv_has ls 13 [(11, .int x11_7), (10, .int x7), (9, .int y53_1), (8, .int x8), (7, .int x7_12), (6, .ref a6), (5, .ref a5), (0, .ref (aa 1)), (1, .ref (aa 0)), (2, .ref (aa 2)), (3, .ref (aa 3)), (4, .ref (aa 4))] → W p l e (headSpec wsL_merge ({ frames := 2, cells := 2, slots := 128, locals := 53 } : Room)).room s m ([.ref (aa 1), .ref (aa 0), .ref (aa 2), .ref (aa 3), .ref (aa 4)] : List Value).toArray below meth c H locs 2 128 (MQ below (zQv (dC, dI) (w5 cI aa u_vm u_vr u_vh vl u_vq) [(cI, .int)] A) ([.ref (aa 1), .ref (aa 0), .ref (aa 2), .ref (aa 3), .ref (aa 4)] : List Value).toArray s 2 128 A) (F0 m 124 ls []) := by
            intro x11_7 x7_12 vxx66_1 ez H locs hP hD hS ls hl
            rw [ez] at hm
            refine lv_iconst (v := 0) hx hb dL_merge_124 (by decide) ?_
            refine lv_istore (lv' := [(12, .int 0), (11, .int x11_7), (10, .int x7), (9, .int y53_1), (8, .int x8), (7, .int x7_12), (6, .ref a6), (5, .ref a5), (0, .ref (aa 1)), (1, .ref (aa 0)), (2, .ref (aa 2)), (3, .ref (aa 3)), (4, .ref (aa 4))]) hx hb dL_merge_125 hl (by decide) rfl (fun ls hl => ?_)
            obtain ⟨z_127, hq_127, hm⟩ := ob hm
            have K_127 : ∀ (x11_9 : Int32), ∀ (x7_18 : Int32), ∀ (vxx127_1 : Nat → Int32), z_127 = (x11_9, x7_18, vxx127_1) → ∀ (H : Heap) (locs : List Loc), va_P (dC, dI) vwCl (w7 cI aa a5 a6 vm vr vh vl vql18 vxx127_1 vyl18) H → va_D A (w7 cI aa a5 a6 vm vr vh vl vql18 vxx127_1 vyl18) → va_S A s.heap H locs → ∀ (ls : Array Slot), lv_has ls 13 [(11, .int x11_9), (10, .int x7), (9, .int y53_1), (7, .int x7_18), (6, .ref a6), (5, .ref a5), (0, .ref (aa 1)), (1, .ref (aa 0)), (2, .ref (aa 2)), (3, .ref (aa 3)), (4, .ref (aa 4))] → W p l e (headSpec wsL_merge ({ frames := 2, cells := 2, slots := 128, locals := 53 } : Room)).room s m ([.ref (aa 1), .ref (aa 0), .ref (aa 2), .ref (aa 3), .ref (aa 4)] : List Value).toArray below meth c H locs 2 128 (MQ below (zQv (dC, dI) (w5 cI aa u_vm u_vr u_vh vl u_vq) [(cI, .int)] A) ([.ref (aa 1), .ref (aa 0), .ref (aa 2), .ref (aa 3), .ref (aa 4)] : List Value).toArray s 2 128 A) (F0 m 200 ls []) := by
              intro x11_9 x7_18 vxx127_1 ez H locs hP hD hS ls hl
              rw [ez] at hm
              refine lv_iload hx hb dL_merge_200 (lv_at hl 0 rfl) ?_
              obtain ⟨z_259, hq_259, hm⟩ := ob hm
              have J_259 : ∀ (vqj259_1 : Nat → Int32), ∀ (vyj259_1 : Nat → Int32), z_259 = (vqj259_1, vyj259_1) → ∀ (H : Heap) (locs : List Loc), va_P (dC, dI) vwCl (w7 cI aa a5 a6 vm vr vh vl vqj259_1 vxx127_1 vyj259_1) H → va_D A (w7 cI aa a5 a6 vm vr vh vl vqj259_1 vxx127_1 vyj259_1) → va_S A s.heap H locs → ∀ (ls : Array Slot), lv_has ls 13 [(9, .int y53_1), (7, .int x7_18), (6, .ref a6), (5, .ref a5), (0, .ref (aa 1)), (1, .ref (aa 0)), (2, .ref (aa 2)), (3, .ref (aa 3)), (4, .ref (aa 4))] → W p l e (headSpec wsL_merge ({ frames := 2, cells := 2, slots := 128, locals := 53 } : Room)).room s m ([.ref (aa 1), .ref (aa 0), .ref (aa 2), .ref (aa 3), .ref (aa 4)] : List Value).toArray below meth c H locs 2 128 (MQ below (zQv (dC, dI) (w5 cI aa u_vm u_vr u_vh vl u_vq) [(cI, .int)] A) ([.ref (aa 1), .ref (aa 0), .ref (aa 2), .ref (aa 3), .ref (aa 4)] : List Value).toArray s 2 128 A) (F0 m 259 ls []) := by
                intro vqj259_1 vyj259_1 ez H locs hP hD hS ls hl
                rw [ez] at hm
                refine lv_aload hx hb dL_merge_259 (lv_at hl 8 rfl) ?_
                refine lv_iconst (v := 0) hx hb dL_merge_261 (by decide) ?_
                obtain ⟨c_262, hm⟩ := ck hm
                refine va_iald hx hb hK hP 4 0 rfl rfl c_262 dL_merge_262 ?_
                refine lv_if_ne (tgt := 270) hx hb dL_merge_263 (by decide) (fun c_263 => ?_) (fun c_263 => ?_)
                · have hm := it_f hm c_263
                  refine lv_iload hx hb dL_merge_270 (lv_at hl 0 rfl) ?_
                  refine lv_istore (lv' := [(8, .int y53_1), (9, .int y53_1), (7, .int x7_18), (6, .ref a6), (5, .ref a5), (0, .ref (aa 1)), (1, .ref (aa 0)), (2, .ref (aa 2)), (3, .ref (aa 3)), (4, .ref (aa 4))]) hx hb dL_merge_272 hl (by decide) rfl (fun ls hl => ?_)
                  refine lv_goto (tgt := 18) hx hb dL_merge_274 (by decide) ?_
                  exact ih_18 y53_1 x7_18 vqj259_1 vxx127_1 vyj259_1 hm _ _ hP hD hS _ (lv_sub hl [0, 2, 3, 4, 5, 6, 7, 8, 9] rfl)
                · have hm := it_t hm c_263
                  refine lv_iconst (v := 1) hx hb dL_merge_266 (by decide) ?_
                  refine lv_goto (tgt := 272) hx hb dL_merge_267 (by decide) ?_
                  refine lv_istore (lv' := [(8, .int 1), (9, .int y53_1), (7, .int x7_18), (6, .ref a6), (5, .ref a5), (0, .ref (aa 1)), (1, .ref (aa 0)), (2, .ref (aa 2)), (3, .ref (aa 3)), (4, .ref (aa 4))]) hx hb dL_merge_272 hl (by decide) rfl (fun ls hl => ?_)
                  refine lv_goto (tgt := 18) hx hb dL_merge_274 (by decide) ?_
                  exact ih_18 1 x7_18 vqj259_1 vxx127_1 vyj259_1 hm _ _ hP hD hS _ (lv_sub hl [0, 2, 3, 4, 5, 6, 7, 8, 9] rfl)
              have hm := hq_259
              refine lv_if_eq (tgt := 246) hx hb dL_merge_202 (by decide) (fun c_202 => ?_) (fun c_202 => ?_)
              · have hm := it_t hm c_202
                refine lv_iload hx hb dL_merge_246 (lv_at hl 3 rfl) ?_
                refine lv_iload hx hb dL_merge_248 (lv_at hl 1 rfl) ?_
                refine lv_icmp_le (tgt := 259) hx hb dL_merge_250 (by decide) (fun c_250 => ?_) (fun c_250 => ?_)
                · have hm := it_t hm c_250
                  exact J_259 vql18 vyl18 (o2 hm) _ _ hP hD hS _ (lv_sub hl [2, 3, 4, 5, 6, 7, 8, 9, 10] rfl)
                · have hm := it_f hm c_250
                  refine lv_aload hx hb dL_merge_253 (lv_at hl 4 rfl) ?_
                  refine lv_iload hx hb dL_merge_255 (lv_at hl 1 rfl) ?_
                  refine lv_iconst (v := 1) hx hb dL_merge_257 (by decide) ?_
                  obtain ⟨c_258, hm⟩ := ck hm
                  refine va_iast hx hb hK hP hD hS 6 0 rfl rfl c_258 dL_merge_258 (fun H locs hP hD hS => ?_)
                  have hP : va_P (dC, dI) vwCl (w7 cI aa a5 a6 vm vr vh vl vql18 vxx127_1 (upd vyl18 (Int32.toNatClampNeg x7) 1)) H := hP
                  have hD : va_D A (w7 cI aa a5 a6 vm vr vh vl vql18 vxx127_1 (upd vyl18 (Int32.toNatClampNeg x7) 1)) := hD
                  exact J_259 vql18 (upd vyl18 (Int32.toNatClampNeg x7) 1) (o2 hm) _ _ hP hD hS _ (lv_sub hl [2, 3, 4, 5, 6, 7, 8, 9, 10] rfl)
              · have hm := it_f hm c_202
                refine lv_aload hx hb dL_merge_205 (lv_at hl 5 rfl) ?_
                refine lv_aload hx hb dL_merge_207 (lv_at hl 4 rfl) ?_
                refine lv_iload hx hb dL_merge_209 (lv_at hl 1 rfl) ?_
                refine lv_iload hx hb dL_merge_211 (lv_at hl 3 rfl) ?_
                refine lv_aload hx hb dL_merge_213 (lv_at hl 10 rfl) ?_
                refine lv_iconst (v := 2) hx hb dL_merge_215 (by decide) ?_
                obtain ⟨c_216, hm⟩ := ck hm
                refine va_iald hx hb hK hP 4 0 rfl rfl c_216 dL_merge_216 ?_
                obtain ⟨⟨r217_1, vy217_1⟩, h_217, hm⟩ := ob hm
                refine z_callSWi (wc := (w2 cI a5 a6 vxx127_1 vyl18)) (w1 := (w2 cI a5 a6 vxx127_1 vy217_1)) (ws := (w7 cI aa a5 a6 vm vr vh vl vql18 vxx127_1 vyl18)) (ws' := (w7 cI aa a5 a6 vm vr vh vl vql18 vxx127_1 vy217_1)) (As := [.ref a5, .ref a6, .int x7, .int x7_18, .int (vql18 (Int32.toNatClampNeg 2))]) (rest := []) ⟨hx, hb, hml, hown, hts⟩ (c_L_cuts l dC dI cI a5 a6 vxx127_1 vyl18 F x7 x7_18 (vql18 (Int32.toNatClampNeg 2)) H.size r217_1 vy217_1 h_217) (va_cwS 5 hts gL_merge_L_cuts rfl rfl rfl ks_L_cuts ⟨Nat.le_of_ble_eq_true rfl, Nat.le_of_ble_eq_true rfl⟩) hK hP hD hS hA (pj7_2vx cI aa a5 a6 vm vr vh vl vql18 vxx127_1 vyl18 vxx127_1 vy217_1) ((pa2 cI a5 a6 vxx127_1 vy217_1).trans (pa2 cI a5 a6 vxx127_1 vyl18).symm) rfl hl.1 rfl (Nat.le_of_ble_eq_true rfl) dL_merge_217 ⟨Nat.le_of_ble_eq_true rfl, Nat.le_of_ble_eq_true rfl⟩ (fun H locs hP hD hS => ?_)
                refine lv_istore (lv' := [(12, .int r217_1), (11, .int x11_9), (10, .int x7), (9, .int y53_1), (7, .int x7_18), (6, .ref a6), (5, .ref a5), (0, .ref (aa 1)), (1, .ref (aa 0)), (2, .ref (aa 2)), (3, .ref (aa 3)), (4, .ref (aa 4))]) hx hb dL_merge_220 hl (by decide) rfl (fun ls hl => ?_)
                refine lv_aload hx hb dL_merge_222 (lv_at hl 11 rfl) ?_
                refine lv_iconst (v := 5) hx hb dL_merge_224 (by decide) ?_
                refine lv_dup2_11 hx hb dL_merge_225 rfl rfl ?_
                obtain ⟨c_226, hm⟩ := ck hm
                refine va_iald hx hb hK hP 4 0 rfl rfl c_226 dL_merge_226 ?_
                refine lv_iload hx hb dL_merge_227 (lv_at hl 0 rfl) ?_
                refine lv_iconst (v := 1) hx hb dL_merge_229 (by decide) ?_
                refine lv_icmp_le (tgt := 240) hx hb dL_merge_230 (by decide) (fun c_230 => ?_) (fun c_230 => ?_)
                · have hm := it_t hm c_230
                  refine lv_iconst (v := 0) hx hb dL_merge_240 (by decide) ?_
                  refine lv_iadd hx hb dL_merge_241 ?_
                  obtain ⟨c_242, hm⟩ := ck hm
                  refine va_iast hx hb hK hP hD hS 4 0 rfl rfl c_242 dL_merge_242 (fun H locs hP hD hS => ?_)
                  have hP : va_P (dC, dI) vwCl (w7 cI aa a5 a6 vm vr vh vl (upd vql18 (Int32.toNatClampNeg 5) ((vql18 (Int32.toNatClampNeg 5)) + 0)) vxx127_1 vy217_1) H := hP
                  have hD : va_D A (w7 cI aa a5 a6 vm vr vh vl (upd vql18 (Int32.toNatClampNeg 5) ((vql18 (Int32.toNatClampNeg 5)) + 0)) vxx127_1 vy217_1) := hD
                  refine lv_goto (tgt := 259) hx hb dL_merge_243 (by decide) ?_
                  exact J_259 (upd vql18 (Int32.toNatClampNeg 5) ((vql18 (Int32.toNatClampNeg 5)) + 0)) vy217_1 (o2 hm) _ _ hP hD hS _ (lv_sub hl [3, 4, 5, 6, 7, 8, 9, 10, 11] rfl)
                · have hm := it_f hm c_230
                  refine lv_iload hx hb dL_merge_233 (lv_at hl 0 rfl) ?_
                  refine lv_iconst (v := 1) hx hb dL_merge_235 (by decide) ?_
                  refine lv_isub hx hb dL_merge_236 ?_
                  refine lv_goto (tgt := 241) hx hb dL_merge_237 (by decide) ?_
                  refine lv_iadd hx hb dL_merge_241 ?_
                  obtain ⟨c_242, hm⟩ := ck hm
                  refine va_iast hx hb hK hP hD hS 4 0 rfl rfl c_242 dL_merge_242 (fun H locs hP hD hS => ?_)
                  have hP : va_P (dC, dI) vwCl (w7 cI aa a5 a6 vm vr vh vl (upd vql18 (Int32.toNatClampNeg 5) ((vql18 (Int32.toNatClampNeg 5)) + (r217_1 - 1))) vxx127_1 vy217_1) H := hP
                  have hD : va_D A (w7 cI aa a5 a6 vm vr vh vl (upd vql18 (Int32.toNatClampNeg 5) ((vql18 (Int32.toNatClampNeg 5)) + (r217_1 - 1))) vxx127_1 vy217_1) := hD
                  refine lv_goto (tgt := 259) hx hb dL_merge_243 (by decide) ?_
                  exact J_259 (upd vql18 (Int32.toNatClampNeg 5) ((vql18 (Int32.toNatClampNeg 5)) + (r217_1 - 1))) vy217_1 (o2 hm) _ _ hP hD hS _ (lv_sub hl [3, 4, 5, 6, 7, 8, 9, 10, 11] rfl)
            have L_127 : ∀ (n : Nat) (x12_12 : Int32) (x11_8 : Int32) (x7_13 : Int32) (vxl127_1 : Nat → Int32), L_merge_L127 vr vl F x8 x7 vql18 y53_1 n x12_12 x11_8 x7_13 vxl127_1 = some z_127 → ∀ (H : Heap) (locs : List Loc), va_P (dC, dI) vwCl (w7 cI aa a5 a6 vm vr vh vl vql18 vxl127_1 vyl18) H → va_D A (w7 cI aa a5 a6 vm vr vh vl vql18 vxl127_1 vyl18) → va_S A s.heap H locs → ∀ (ls : Array Slot), lv_has ls 13 [(12, .int x12_12), (11, .int x11_8), (10, .int x7), (9, .int y53_1), (8, .int x8), (7, .int x7_13), (6, .ref a6), (5, .ref a5), (0, .ref (aa 1)), (1, .ref (aa 0)), (2, .ref (aa 2)), (3, .ref (aa 3)), (4, .ref (aa 4))] → W p l e (headSpec wsL_merge ({ frames := 2, cells := 2, slots := 128, locals := 53 } : Room)).room s m ([.ref (aa 1), .ref (aa 0), .ref (aa 2), .ref (aa 3), .ref (aa 4)] : List Value).toArray below meth c H locs 2 128 (MQ below (zQv (dC, dI) (w5 cI aa u_vm u_vr u_vh vl u_vq) [(cI, .int)] A) ([.ref (aa 1), .ref (aa 0), .ref (aa 2), .ref (aa 3), .ref (aa 4)] : List Value).toArray s 2 128 A) (F0 m 127 ls []) := by
              intro n
              induction n with
              | zero => intro x12_12 x11_8 x7_13 vxl127_1 hm; cases hm
              | succ n ih_127 =>
                intro x12_12 x11_8 x7_13 vxl127_1 hm H locs hP hD hS ls hl
                refine lv_iload hx hb dL_merge_127 (lv_at hl 0 rfl) ?_
                refine lv_aload hx hb dL_merge_129 (lv_at hl 12 rfl) ?_
                refine lv_iconst (v := 1) hx hb dL_merge_131 (by decide) ?_
                obtain ⟨c_132, hm⟩ := ck hm
                refine va_iald hx hb hK hP 4 0 rfl rfl c_132 dL_merge_132 ?_
                refine lv_icmp_ge (tgt := 200) hx hb dL_merge_133 (by decide) (fun c_133 => ?_) (fun c_133 => ?_)
                · have hm := it_t hm c_133
                  exact K_127 x11_8 x7_13 vxl127_1 (o2 hm) _ _ hP hD hS _ (lv_sub hl [1, 2, 3, 5, 6, 7, 8, 9, 10, 11, 12] rfl)
                · have hm := it_f hm c_133
                  refine lv_iload hx hb dL_merge_136 (lv_at hl 4 rfl) ?_
                  refine lv_if_le (tgt := 152) hx hb dL_merge_138 (by decide) (fun c_138 => ?_) (fun c_138 => ?_)
                  · have hm := it_t hm c_138
                    refine lv_iload hx hb dL_merge_152 (lv_at hl 3 rfl) ?_
                    refine lv_aload hx hb dL_merge_154 (lv_at hl 12 rfl) ?_
                    refine lv_iconst (v := 0) hx hb dL_merge_156 (by decide) ?_
                    obtain ⟨c_157, hm⟩ := ck hm
                    refine va_iald hx hb hK hP 4 0 rfl rfl c_157 dL_merge_157 ?_
                    refine lv_icmp_ge (tgt := 175) hx hb dL_merge_158 (by decide) (fun c_158 => ?_) (fun c_158 => ?_)
                    · have hm := it_t hm c_158
                      refine lv_aload hx hb dL_merge_175 (lv_at hl 7 rfl) ?_
                      refine lv_iload hx hb dL_merge_177 (lv_at hl 2 rfl) ?_
                      refine lv_iload hx hb dL_merge_179 (lv_at hl 5 rfl) ?_
                      refine lv_aload_n hx hb dL_merge_181 rfl (lv_at hl 11 rfl) ?_
                      refine lv_iload hx hb dL_merge_182 (lv_at hl 0 rfl) ?_
                      obtain ⟨c_184, hm⟩ := ck hm
                      refine va_iald hx hb hK hP 3 0 rfl rfl c_184 dL_merge_184 ?_
                      obtain ⟨vx185_4, h_185, hm⟩ := ob hm
                      refine z_callSWv (wc := (w1 cI a5 64 vxl127_1)) (w1 := (w1 cI a5 64 vx185_4)) (ws := (w7 cI aa a5 a6 vm vr vh vl vql18 vxl127_1 vyl18)) (ws' := (w7 cI aa a5 a6 vm vr vh vl vql18 vx185_4 vyl18)) (As := [.ref a5, .int x7, .int x7_13, .int (vl (Int32.toNatClampNeg x12_12))]) (rest := []) ⟨hx, hb, hml, hown, hts⟩ (c_L_sorts l dC dI cI a5 64 vxl127_1 F x7 x7_13 (vl (Int32.toNatClampNeg x12_12)) H.size vx185_4 h_185) (va_cwS 4 hts gL_merge_L_sorts rfl rfl rfl ks_L_sorts ⟨Nat.le_of_ble_eq_true rfl, Nat.le_of_ble_eq_true rfl⟩) hK hP hD hS hA (pj7_1vx cI aa a5 a6 vm vr vh vl vql18 vxl127_1 vyl18 vx185_4) ((pa1 cI a5 64 vx185_4).trans (pa1 cI a5 64 vxl127_1).symm) rfl hl.1 rfl (Nat.le_of_ble_eq_true rfl) dL_merge_185 ⟨Nat.le_of_ble_eq_true rfl, Nat.le_of_ble_eq_true rfl⟩ (fun H locs hP hD hS => ?_)
                      obtain ⟨x7_14, e_x7_14⟩ : ∃ y : Int32, y = x7_13 + 1 := ⟨_, rfl⟩
                      have hm := bnd_e hm e_x7_14
                      refine lv_iinc (v := x7_14) (lv' := [(7, .int x7_14), (12, .int x12_12), (11, .int x11_8), (10, .int x7), (9, .int y53_1), (8, .int x8), (6, .ref a6), (5, .ref a5), (0, .ref (aa 1)), (1, .ref (aa 0)), (2, .ref (aa 2)), (3, .ref (aa 3)), (4, .ref (aa 4))]) hx hb dL_merge_188 hl (k := 5) rfl (by rw [e_x7_14]; rfl) (by decide) rfl (fun ls hl => ?_)
                      refine lv_iconst (v := 1) hx hb dL_merge_191 (by decide) ?_
                      refine lv_istore (lv' := [(11, .int 1), (7, .int x7_14), (12, .int x12_12), (10, .int x7), (9, .int y53_1), (8, .int x8), (6, .ref a6), (5, .ref a5), (0, .ref (aa 1)), (1, .ref (aa 0)), (2, .ref (aa 2)), (3, .ref (aa 3)), (4, .ref (aa 4))]) hx hb dL_merge_192 hl (by decide) rfl (fun ls hl => ?_)
                      obtain ⟨x12_13, e_x12_13⟩ : ∃ y : Int32, y = x12_12 + 1 := ⟨_, rfl⟩
                      have hm := bnd_e hm e_x12_13
                      refine lv_iinc (v := x12_13) (lv' := [(12, .int x12_13), (11, .int 1), (7, .int x7_14), (10, .int x7), (9, .int y53_1), (8, .int x8), (6, .ref a6), (5, .ref a5), (0, .ref (aa 1)), (1, .ref (aa 0)), (2, .ref (aa 2)), (3, .ref (aa 3)), (4, .ref (aa 4))]) hx hb dL_merge_194 hl (k := 2) rfl (by rw [e_x12_13]; rfl) (by decide) rfl (fun ls hl => ?_)
                      refine lv_goto (tgt := 127) hx hb dL_merge_197 (by decide) ?_
                      exact ih_127 x12_13 1 x7_14 vx185_4 hm _ _ hP hD hS _ (lv_sub hl [0, 1, 3, 4, 5, 2, 6, 7, 8, 9, 10, 11, 12] rfl)
                    · have hm := it_f hm c_158
                      refine lv_aload_n hx hb dL_merge_161 rfl (lv_at hl 11 rfl) ?_
                      refine lv_iload hx hb dL_merge_162 (lv_at hl 0 rfl) ?_
                      obtain ⟨c_164, hm⟩ := ck hm
                      refine va_iald hx hb hK hP 3 0 rfl rfl c_164 dL_merge_164 ?_
                      refine lv_aload_n hx hb dL_merge_165 rfl (lv_at hl 8 rfl) ?_
                      refine lv_iload hx hb dL_merge_166 (lv_at hl 3 rfl) ?_
                      obtain ⟨c_168, hm⟩ := ck hm
                      refine va_iald hx hb hK hP 1 0 rfl rfl c_168 dL_merge_168 ?_
                      refine lv_icmp_le (tgt := 175) hx hb dL_merge_169 (by decide) (fun c_169 => ?_) (fun c_169 => ?_)
                      · have hm := it_t hm c_169
                        refine lv_aload hx hb dL_merge_175 (lv_at hl 7 rfl) ?_
                        refine lv_iload hx hb dL_merge_177 (lv_at hl 2 rfl) ?_
                        refine lv_iload hx hb dL_merge_179 (lv_at hl 5 rfl) ?_
                        refine lv_aload_n hx hb dL_merge_181 rfl (lv_at hl 11 rfl) ?_
                        refine lv_iload hx hb dL_merge_182 (lv_at hl 0 rfl) ?_
                        obtain ⟨c_184, hm⟩ := ck hm
                        refine va_iald hx hb hK hP 3 0 rfl rfl c_184 dL_merge_184 ?_
                        obtain ⟨vx185_5, h_185, hm⟩ := ob hm
                        refine z_callSWv (wc := (w1 cI a5 64 vxl127_1)) (w1 := (w1 cI a5 64 vx185_5)) (ws := (w7 cI aa a5 a6 vm vr vh vl vql18 vxl127_1 vyl18)) (ws' := (w7 cI aa a5 a6 vm vr vh vl vql18 vx185_5 vyl18)) (As := [.ref a5, .int x7, .int x7_13, .int (vl (Int32.toNatClampNeg x12_12))]) (rest := []) ⟨hx, hb, hml, hown, hts⟩ (c_L_sorts l dC dI cI a5 64 vxl127_1 F x7 x7_13 (vl (Int32.toNatClampNeg x12_12)) H.size vx185_5 h_185) (va_cwS 4 hts gL_merge_L_sorts rfl rfl rfl ks_L_sorts ⟨Nat.le_of_ble_eq_true rfl, Nat.le_of_ble_eq_true rfl⟩) hK hP hD hS hA (pj7_1vx cI aa a5 a6 vm vr vh vl vql18 vxl127_1 vyl18 vx185_5) ((pa1 cI a5 64 vx185_5).trans (pa1 cI a5 64 vxl127_1).symm) rfl hl.1 rfl (Nat.le_of_ble_eq_true rfl) dL_merge_185 ⟨Nat.le_of_ble_eq_true rfl, Nat.le_of_ble_eq_true rfl⟩ (fun H locs hP hD hS => ?_)
                        obtain ⟨x7_15, e_x7_15⟩ : ∃ y : Int32, y = x7_13 + 1 := ⟨_, rfl⟩
                        have hm := bnd_e hm e_x7_15
                        refine lv_iinc (v := x7_15) (lv' := [(7, .int x7_15), (12, .int x12_12), (11, .int x11_8), (10, .int x7), (9, .int y53_1), (8, .int x8), (6, .ref a6), (5, .ref a5), (0, .ref (aa 1)), (1, .ref (aa 0)), (2, .ref (aa 2)), (3, .ref (aa 3)), (4, .ref (aa 4))]) hx hb dL_merge_188 hl (k := 5) rfl (by rw [e_x7_15]; rfl) (by decide) rfl (fun ls hl => ?_)
                        refine lv_iconst (v := 1) hx hb dL_merge_191 (by decide) ?_
                        refine lv_istore (lv' := [(11, .int 1), (7, .int x7_15), (12, .int x12_12), (10, .int x7), (9, .int y53_1), (8, .int x8), (6, .ref a6), (5, .ref a5), (0, .ref (aa 1)), (1, .ref (aa 0)), (2, .ref (aa 2)), (3, .ref (aa 3)), (4, .ref (aa 4))]) hx hb dL_merge_192 hl (by decide) rfl (fun ls hl => ?_)
                        obtain ⟨x12_14, e_x12_14⟩ : ∃ y : Int32, y = x12_12 + 1 := ⟨_, rfl⟩
                        have hm := bnd_e hm e_x12_14
                        refine lv_iinc (v := x12_14) (lv' := [(12, .int x12_14), (11, .int 1), (7, .int x7_15), (10, .int x7), (9, .int y53_1), (8, .int x8), (6, .ref a6), (5, .ref a5), (0, .ref (aa 1)), (1, .ref (aa 0)), (2, .ref (aa 2)), (3, .ref (aa 3)), (4, .ref (aa 4))]) hx hb dL_merge_194 hl (k := 2) rfl (by rw [e_x12_14]; rfl) (by decide) rfl (fun ls hl => ?_)
                        refine lv_goto (tgt := 127) hx hb dL_merge_197 (by decide) ?_
                        exact ih_127 x12_14 1 x7_15 vx185_5 hm _ _ hP hD hS _ (lv_sub hl [0, 1, 3, 4, 5, 2, 6, 7, 8, 9, 10, 11, 12] rfl)
                      · have hm := it_f hm c_169
                        refine lv_goto (tgt := 194) hx hb dL_merge_172 (by decide) ?_
                        obtain ⟨x12_15, e_x12_15⟩ : ∃ y : Int32, y = x12_12 + 1 := ⟨_, rfl⟩
                        have hm := bnd_e hm e_x12_15
                        refine lv_iinc (v := x12_15) (lv' := [(12, .int x12_15), (11, .int x11_8), (10, .int x7), (9, .int y53_1), (8, .int x8), (7, .int x7_13), (6, .ref a6), (5, .ref a5), (0, .ref (aa 1)), (1, .ref (aa 0)), (2, .ref (aa 2)), (3, .ref (aa 3)), (4, .ref (aa 4))]) hx hb dL_merge_194 hl (k := 0) rfl (by rw [e_x12_15]; rfl) (by decide) rfl (fun ls hl => ?_)
                        refine lv_goto (tgt := 127) hx hb dL_merge_197 (by decide) ?_
                        exact ih_127 x12_15 x11_8 x7_13 vxl127_1 hm _ _ hP hD hS _ (lv_sub hl [0, 1, 2, 3, 4, 5, 6, 7, 8, 9, 10, 11, 12] rfl)
                  · have hm := it_f hm c_138
                    refine lv_aload_n hx hb dL_merge_141 rfl (lv_at hl 11 rfl) ?_
                    refine lv_iload hx hb dL_merge_142 (lv_at hl 0 rfl) ?_
                    obtain ⟨c_144, hm⟩ := ck hm
                    refine va_iald hx hb hK hP 3 0 rfl rfl c_144 dL_merge_144 ?_
                    refine lv_aload_n hx hb dL_merge_145 rfl (lv_at hl 8 rfl) ?_
                    refine lv_iload hx hb dL_merge_146 (lv_at hl 4 rfl) ?_
                    obtain ⟨c_148, hm⟩ := ck hm
                    refine va_iald hx hb hK hP 1 0 rfl rfl c_148 dL_merge_148 ?_
                    refine lv_icmp_lt (tgt := 194) hx hb dL_merge_149 (by decide) (fun c_149 => ?_) (fun c_149 => ?_)
                    · have hm := it_t hm c_149
                      obtain ⟨x12_16, e_x12_16⟩ : ∃ y : Int32, y = x12_12 + 1 := ⟨_, rfl⟩
                      have hm := bnd_e hm e_x12_16
                      refine lv_iinc (v := x12_16) (lv' := [(12, .int x12_16), (11, .int x11_8), (10, .int x7), (9, .int y53_1), (8, .int x8), (7, .int x7_13), (6, .ref a6), (5, .ref a5), (0, .ref (aa 1)), (1, .ref (aa 0)), (2, .ref (aa 2)), (3, .ref (aa 3)), (4, .ref (aa 4))]) hx hb dL_merge_194 hl (k := 0) rfl (by rw [e_x12_16]; rfl) (by decide) rfl (fun ls hl => ?_)
                      refine lv_goto (tgt := 127) hx hb dL_merge_197 (by decide) ?_
                      exact ih_127 x12_16 x11_8 x7_13 vxl127_1 hm _ _ hP hD hS _ (lv_sub hl [0, 1, 2, 3, 4, 5, 6, 7, 8, 9, 10, 11, 12] rfl)
                    · have hm := it_f hm c_149
                      refine lv_iload hx hb dL_merge_152 (lv_at hl 3 rfl) ?_
                      refine lv_aload hx hb dL_merge_154 (lv_at hl 12 rfl) ?_
                      refine lv_iconst (v := 0) hx hb dL_merge_156 (by decide) ?_
                      obtain ⟨c_157, hm⟩ := ck hm
                      refine va_iald hx hb hK hP 4 0 rfl rfl c_157 dL_merge_157 ?_
                      refine lv_icmp_ge (tgt := 175) hx hb dL_merge_158 (by decide) (fun c_158 => ?_) (fun c_158 => ?_)
                      · have hm := it_t hm c_158
                        refine lv_aload hx hb dL_merge_175 (lv_at hl 7 rfl) ?_
                        refine lv_iload hx hb dL_merge_177 (lv_at hl 2 rfl) ?_
                        refine lv_iload hx hb dL_merge_179 (lv_at hl 5 rfl) ?_
                        refine lv_aload_n hx hb dL_merge_181 rfl (lv_at hl 11 rfl) ?_
                        refine lv_iload hx hb dL_merge_182 (lv_at hl 0 rfl) ?_
                        obtain ⟨c_184, hm⟩ := ck hm
                        refine va_iald hx hb hK hP 3 0 rfl rfl c_184 dL_merge_184 ?_
                        obtain ⟨vx185_6, h_185, hm⟩ := ob hm
                        refine z_callSWv (wc := (w1 cI a5 64 vxl127_1)) (w1 := (w1 cI a5 64 vx185_6)) (ws := (w7 cI aa a5 a6 vm vr vh vl vql18 vxl127_1 vyl18)) (ws' := (w7 cI aa a5 a6 vm vr vh vl vql18 vx185_6 vyl18)) (As := [.ref a5, .int x7, .int x7_13, .int (vl (Int32.toNatClampNeg x12_12))]) (rest := []) ⟨hx, hb, hml, hown, hts⟩ (c_L_sorts l dC dI cI a5 64 vxl127_1 F x7 x7_13 (vl (Int32.toNatClampNeg x12_12)) H.size vx185_6 h_185) (va_cwS 4 hts gL_merge_L_sorts rfl rfl rfl ks_L_sorts ⟨Nat.le_of_ble_eq_true rfl, Nat.le_of_ble_eq_true rfl⟩) hK hP hD hS hA (pj7_1vx cI aa a5 a6 vm vr vh vl vql18 vxl127_1 vyl18 vx185_6) ((pa1 cI a5 64 vx185_6).trans (pa1 cI a5 64 vxl127_1).symm) rfl hl.1 rfl (Nat.le_of_ble_eq_true rfl) dL_merge_185 ⟨Nat.le_of_ble_eq_true rfl, Nat.le_of_ble_eq_true rfl⟩ (fun H locs hP hD hS => ?_)
                        obtain ⟨x7_16, e_x7_16⟩ : ∃ y : Int32, y = x7_13 + 1 := ⟨_, rfl⟩
                        have hm := bnd_e hm e_x7_16
                        refine lv_iinc (v := x7_16) (lv' := [(7, .int x7_16), (12, .int x12_12), (11, .int x11_8), (10, .int x7), (9, .int y53_1), (8, .int x8), (6, .ref a6), (5, .ref a5), (0, .ref (aa 1)), (1, .ref (aa 0)), (2, .ref (aa 2)), (3, .ref (aa 3)), (4, .ref (aa 4))]) hx hb dL_merge_188 hl (k := 5) rfl (by rw [e_x7_16]; rfl) (by decide) rfl (fun ls hl => ?_)
                        refine lv_iconst (v := 1) hx hb dL_merge_191 (by decide) ?_
                        refine lv_istore (lv' := [(11, .int 1), (7, .int x7_16), (12, .int x12_12), (10, .int x7), (9, .int y53_1), (8, .int x8), (6, .ref a6), (5, .ref a5), (0, .ref (aa 1)), (1, .ref (aa 0)), (2, .ref (aa 2)), (3, .ref (aa 3)), (4, .ref (aa 4))]) hx hb dL_merge_192 hl (by decide) rfl (fun ls hl => ?_)
                        obtain ⟨x12_17, e_x12_17⟩ : ∃ y : Int32, y = x12_12 + 1 := ⟨_, rfl⟩
                        have hm := bnd_e hm e_x12_17
                        refine lv_iinc (v := x12_17) (lv' := [(12, .int x12_17), (11, .int 1), (7, .int x7_16), (10, .int x7), (9, .int y53_1), (8, .int x8), (6, .ref a6), (5, .ref a5), (0, .ref (aa 1)), (1, .ref (aa 0)), (2, .ref (aa 2)), (3, .ref (aa 3)), (4, .ref (aa 4))]) hx hb dL_merge_194 hl (k := 2) rfl (by rw [e_x12_17]; rfl) (by decide) rfl (fun ls hl => ?_)
                        refine lv_goto (tgt := 127) hx hb dL_merge_197 (by decide) ?_
                        exact ih_127 x12_17 1 x7_16 vx185_6 hm _ _ hP hD hS _ (lv_sub hl [0, 1, 3, 4, 5, 2, 6, 7, 8, 9, 10, 11, 12] rfl)
                      · have hm := it_f hm c_158
                        refine lv_aload_n hx hb dL_merge_161 rfl (lv_at hl 11 rfl) ?_
                        refine lv_iload hx hb dL_merge_162 (lv_at hl 0 rfl) ?_
                        obtain ⟨c_164, hm⟩ := ck hm
                        refine va_iald hx hb hK hP 3 0 rfl rfl c_164 dL_merge_164 ?_
                        refine lv_aload_n hx hb dL_merge_165 rfl (lv_at hl 8 rfl) ?_
                        refine lv_iload hx hb dL_merge_166 (lv_at hl 3 rfl) ?_
                        obtain ⟨c_168, hm⟩ := ck hm
                        refine va_iald hx hb hK hP 1 0 rfl rfl c_168 dL_merge_168 ?_
                        refine lv_icmp_le (tgt := 175) hx hb dL_merge_169 (by decide) (fun c_169 => ?_) (fun c_169 => ?_)
                        · have hm := it_t hm c_169
                          refine lv_aload hx hb dL_merge_175 (lv_at hl 7 rfl) ?_
                          refine lv_iload hx hb dL_merge_177 (lv_at hl 2 rfl) ?_
                          refine lv_iload hx hb dL_merge_179 (lv_at hl 5 rfl) ?_
                          refine lv_aload_n hx hb dL_merge_181 rfl (lv_at hl 11 rfl) ?_
                          refine lv_iload hx hb dL_merge_182 (lv_at hl 0 rfl) ?_
                          obtain ⟨c_184, hm⟩ := ck hm
                          refine va_iald hx hb hK hP 3 0 rfl rfl c_184 dL_merge_184 ?_
                          obtain ⟨vx185_7, h_185, hm⟩ := ob hm
                          refine z_callSWv (wc := (w1 cI a5 64 vxl127_1)) (w1 := (w1 cI a5 64 vx185_7)) (ws := (w7 cI aa a5 a6 vm vr vh vl vql18 vxl127_1 vyl18)) (ws' := (w7 cI aa a5 a6 vm vr vh vl vql18 vx185_7 vyl18)) (As := [.ref a5, .int x7, .int x7_13, .int (vl (Int32.toNatClampNeg x12_12))]) (rest := []) ⟨hx, hb, hml, hown, hts⟩ (c_L_sorts l dC dI cI a5 64 vxl127_1 F x7 x7_13 (vl (Int32.toNatClampNeg x12_12)) H.size vx185_7 h_185) (va_cwS 4 hts gL_merge_L_sorts rfl rfl rfl ks_L_sorts ⟨Nat.le_of_ble_eq_true rfl, Nat.le_of_ble_eq_true rfl⟩) hK hP hD hS hA (pj7_1vx cI aa a5 a6 vm vr vh vl vql18 vxl127_1 vyl18 vx185_7) ((pa1 cI a5 64 vx185_7).trans (pa1 cI a5 64 vxl127_1).symm) rfl hl.1 rfl (Nat.le_of_ble_eq_true rfl) dL_merge_185 ⟨Nat.le_of_ble_eq_true rfl, Nat.le_of_ble_eq_true rfl⟩ (fun H locs hP hD hS => ?_)
                          obtain ⟨x7_17, e_x7_17⟩ : ∃ y : Int32, y = x7_13 + 1 := ⟨_, rfl⟩
                          have hm := bnd_e hm e_x7_17
                          refine lv_iinc (v := x7_17) (lv' := [(7, .int x7_17), (12, .int x12_12), (11, .int x11_8), (10, .int x7), (9, .int y53_1), (8, .int x8), (6, .ref a6), (5, .ref a5), (0, .ref (aa 1)), (1, .ref (aa 0)), (2, .ref (aa 2)), (3, .ref (aa 3)), (4, .ref (aa 4))]) hx hb dL_merge_188 hl (k := 5) rfl (by rw [e_x7_17]; rfl) (by decide) rfl (fun ls hl => ?_)
                          refine lv_iconst (v := 1) hx hb dL_merge_191 (by decide) ?_
                          refine lv_istore (lv' := [(11, .int 1), (7, .int x7_17), (12, .int x12_12), (10, .int x7), (9, .int y53_1), (8, .int x8), (6, .ref a6), (5, .ref a5), (0, .ref (aa 1)), (1, .ref (aa 0)), (2, .ref (aa 2)), (3, .ref (aa 3)), (4, .ref (aa 4))]) hx hb dL_merge_192 hl (by decide) rfl (fun ls hl => ?_)
                          obtain ⟨x12_18, e_x12_18⟩ : ∃ y : Int32, y = x12_12 + 1 := ⟨_, rfl⟩
                          have hm := bnd_e hm e_x12_18
                          refine lv_iinc (v := x12_18) (lv' := [(12, .int x12_18), (11, .int 1), (7, .int x7_17), (10, .int x7), (9, .int y53_1), (8, .int x8), (6, .ref a6), (5, .ref a5), (0, .ref (aa 1)), (1, .ref (aa 0)), (2, .ref (aa 2)), (3, .ref (aa 3)), (4, .ref (aa 4))]) hx hb dL_merge_194 hl (k := 2) rfl (by rw [e_x12_18]; rfl) (by decide) rfl (fun ls hl => ?_)
                          refine lv_goto (tgt := 127) hx hb dL_merge_197 (by decide) ?_
                          exact ih_127 x12_18 1 x7_17 vx185_7 hm _ _ hP hD hS _ (lv_sub hl [0, 1, 3, 4, 5, 2, 6, 7, 8, 9, 10, 11, 12] rfl)
                        · have hm := it_f hm c_169
                          refine lv_goto (tgt := 194) hx hb dL_merge_172 (by decide) ?_
                          obtain ⟨x12_19, e_x12_19⟩ : ∃ y : Int32, y = x12_12 + 1 := ⟨_, rfl⟩
                          have hm := bnd_e hm e_x12_19
                          refine lv_iinc (v := x12_19) (lv' := [(12, .int x12_19), (11, .int x11_8), (10, .int x7), (9, .int y53_1), (8, .int x8), (7, .int x7_13), (6, .ref a6), (5, .ref a5), (0, .ref (aa 1)), (1, .ref (aa 0)), (2, .ref (aa 2)), (3, .ref (aa 3)), (4, .ref (aa 4))]) hx hb dL_merge_194 hl (k := 0) rfl (by rw [e_x12_19]; rfl) (by decide) rfl (fun ls hl => ?_)
                          refine lv_goto (tgt := 127) hx hb dL_merge_197 (by decide) ?_
                          exact ih_127 x12_19 x11_8 x7_13 vxl127_1 hm _ _ hP hD hS _ (lv_sub hl [0, 1, 2, 3, 4, 5, 6, 7, 8, 9, 10, 11, 12] rfl)
            exact L_127 F 0 x11_7 x7_12 vxx66_1 hq_127 _ _ hP hD hS _ (lv_sub hl [0, 1, 2, 3, 4, 5, 6, 7, 8, 9, 10, 11, 12] rfl)
          have L_66 : ∀ (n : Nat) (x12_10 : Int32) (x11_5 : Int32) (x7_10 : Int32) (vxl66_1 : Nat → Int32), L_merge_L66 vm vr y53_1 n x12_10 x11_5 x7_10 vxl66_1 = some z_66 → ∀ (H : Heap) (locs : List Loc), va_P (dC, dI) vwCl (w7 cI aa a5 a6 vm vr vh vl vql18 vxl66_1 vyl18) H → va_D A (w7 cI aa a5 a6 vm vr vh vl vql18 vxl66_1 vyl18) → va_S A s.heap H locs → ∀ (ls : Array Slot), lv_has ls 13 [(12, .int x12_10), (11, .int x11_5), (10, .int x7), (9, .int y53_1), (8, .int x8), (7, .int x7_10), (6, .ref a6), (5, .ref a5), (0, .ref (aa 1)), (1, .ref (aa 0)), (2, .ref (aa 2)), (3, .ref (aa 3)), (4, .ref (aa 4))] → W p l e (headSpec wsL_merge ({ frames := 2, cells := 2, slots := 128, locals := 53 } : Room)).room s m ([.ref (aa 1), .ref (aa 0), .ref (aa 2), .ref (aa 3), .ref (aa 4)] : List Value).toArray below meth c H locs 2 128 (MQ below (zQv (dC, dI) (w5 cI aa u_vm u_vr u_vh vl u_vq) [(cI, .int)] A) ([.ref (aa 1), .ref (aa 0), .ref (aa 2), .ref (aa 3), .ref (aa 4)] : List Value).toArray s 2 128 A) (F0 m 66 ls []) := by
            intro n
            induction n with
            | zero => intro x12_10 x11_5 x7_10 vxl66_1 hm; cases hm
            | succ n ih_66 =>
              intro x12_10 x11_5 x7_10 vxl66_1 hm H locs hP hD hS ls hl
              refine lv_iload hx hb dL_merge_66 (lv_at hl 0 rfl) ?_
              refine lv_iload hx hb dL_merge_68 (lv_at hl 3 rfl) ?_
              refine lv_icmp_ge (tgt := 124) hx hb dL_merge_70 (by decide) (fun c_70 => ?_) (fun c_70 => ?_)
              · have hm := it_t hm c_70
                exact K_66 x11_5 x7_10 vxl66_1 (o2 hm) _ _ hP hD hS _ (lv_sub hl [1, 2, 3, 4, 5, 6, 7, 8, 9, 10, 11, 12] rfl)
              · have hm := it_f hm c_70
                refine lv_iload hx hb dL_merge_73 (lv_at hl 1 rfl) ?_
                refine lv_aload_n hx hb dL_merge_75 rfl (lv_at hl 9 rfl) ?_
                refine lv_iload hx hb dL_merge_76 (lv_at hl 0 rfl) ?_
                obtain ⟨c_78, hm⟩ := ck hm
                refine va_iald hx hb hK hP 0 0 rfl rfl c_78 dL_merge_78 ?_
                refine lv_iconst (v := 1) hx hb dL_merge_79 (by decide) ?_
                obtain ⟨y88_1, e_y88_1⟩ : ∃ y : Int32, y = (if (vm (Int32.toNatClampNeg x12_10)) = 1 then 1 else 0) := ⟨_, rfl⟩
                have hm := bnd_e hm e_y88_1
                have J_88 : W p l e (headSpec wsL_merge ({ frames := 2, cells := 2, slots := 128, locals := 53 } : Room)).room s m ([.ref (aa 1), .ref (aa 0), .ref (aa 2), .ref (aa 3), .ref (aa 4)] : List Value).toArray below meth c H locs 2 128 (MQ below (zQv (dC, dI) (w5 cI aa u_vm u_vr u_vh vl u_vq) [(cI, .int)] A) ([.ref (aa 1), .ref (aa 0), .ref (aa 2), .ref (aa 3), .ref (aa 4)] : List Value).toArray s 2 128 A) (F0 m 88 ls [.int y88_1, .int x11_5]) := by
                  refine lv_ior hx hb dL_merge_88 ?_
                  refine lv_topi (fun x11_6 e_x11_6 => ?_)
                  have hm := bnd_e hm e_x11_6
                  refine lv_istore (lv' := [(11, .int x11_6), (12, .int x12_10), (10, .int x7), (9, .int y53_1), (8, .int x8), (7, .int x7_10), (6, .ref a6), (5, .ref a5), (0, .ref (aa 1)), (1, .ref (aa 0)), (2, .ref (aa 2)), (3, .ref (aa 3)), (4, .ref (aa 4))]) hx hb dL_merge_89 hl (by decide) rfl (fun ls hl => ?_)
                  refine lv_aload_n hx hb dL_merge_91 rfl (lv_at hl 9 rfl) ?_
                  refine lv_iload hx hb dL_merge_92 (lv_at hl 1 rfl) ?_
                  obtain ⟨c_94, hm⟩ := ck hm
                  refine va_iald hx hb hK hP 0 0 rfl rfl c_94 dL_merge_94 ?_
                  obtain ⟨z_107, hq_107, hm⟩ := ob hm
                  have J_107 : ∀ (vxj107_1 : Nat → Int32), z_107 = vxj107_1 → ∀ (H : Heap) (locs : List Loc), va_P (dC, dI) vwCl (w7 cI aa a5 a6 vm vr vh vl vql18 vxj107_1 vyl18) H → va_D A (w7 cI aa a5 a6 vm vr vh vl vql18 vxj107_1 vyl18) → va_S A s.heap H locs → W p l e (headSpec wsL_merge ({ frames := 2, cells := 2, slots := 128, locals := 53 } : Room)).room s m ([.ref (aa 1), .ref (aa 0), .ref (aa 2), .ref (aa 3), .ref (aa 4)] : List Value).toArray below meth c H locs 2 128 (MQ below (zQv (dC, dI) (w5 cI aa u_vm u_vr u_vh vl u_vq) [(cI, .int)] A) ([.ref (aa 1), .ref (aa 0), .ref (aa 2), .ref (aa 3), .ref (aa 4)] : List Value).toArray s 2 128 A) (F0 m 107 ls []) := by
                    intro vxj107_1 ez H locs hP hD hS
                    rw [ez] at hm
                    refine lv_iload hx hb dL_merge_107 (lv_at hl 5 rfl) ?_
                    refine lv_iconst (v := 1) hx hb dL_merge_109 (by decide) ?_
                    refine lv_aload_n hx hb dL_merge_110 rfl (lv_at hl 9 rfl) ?_
                    refine lv_iload hx hb dL_merge_111 (lv_at hl 1 rfl) ?_
                    obtain ⟨c_113, hm⟩ := ck hm
                    refine va_iald hx hb hK hP 0 0 rfl rfl c_113 dL_merge_113 ?_
                    refine lv_isub hx hb dL_merge_114 ?_
                    refine lv_iadd hx hb dL_merge_115 ?_
                    refine lv_topi (fun x7_11 e_x7_11 => ?_)
                    have hm := bnd_e hm e_x7_11
                    refine lv_istore (lv' := [(7, .int x7_11), (11, .int x11_6), (12, .int x12_10), (10, .int x7), (9, .int y53_1), (8, .int x8), (6, .ref a6), (5, .ref a5), (0, .ref (aa 1)), (1, .ref (aa 0)), (2, .ref (aa 2)), (3, .ref (aa 3)), (4, .ref (aa 4))]) hx hb dL_merge_116 hl (by decide) rfl (fun ls hl => ?_)
                    obtain ⟨x12_11, e_x12_11⟩ : ∃ y : Int32, y = x12_10 + 1 := ⟨_, rfl⟩
                    have hm := bnd_e hm e_x12_11
                    refine lv_iinc (v := x12_11) (lv' := [(12, .int x12_11), (7, .int x7_11), (11, .int x11_6), (10, .int x7), (9, .int y53_1), (8, .int x8), (6, .ref a6), (5, .ref a5), (0, .ref (aa 1)), (1, .ref (aa 0)), (2, .ref (aa 2)), (3, .ref (aa 3)), (4, .ref (aa 4))]) hx hb dL_merge_118 hl (k := 2) rfl (by rw [e_x12_11]; rfl) (by decide) rfl (fun ls hl => ?_)
                    refine lv_goto (tgt := 66) hx hb dL_merge_121 (by decide) ?_
                    exact ih_66 x12_11 x11_6 x7_11 vxj107_1 hm _ _ hP hD hS _ (lv_sub hl [0, 2, 3, 4, 5, 1, 6, 7, 8, 9, 10, 11, 12] rfl)
                  have hm := hq_107
                  refine lv_if_ne (tgt := 107) hx hb dL_merge_95 (by decide) (fun c_95 => ?_) (fun c_95 => ?_)
                  · have hm := it_f hm c_95
                    exact J_107 vxl66_1 (o2 hm) _ _ hP hD hS
                  · have hm := it_t hm c_95
                    refine lv_aload hx hb dL_merge_98 (lv_at hl 7 rfl) ?_
                    refine lv_iload hx hb dL_merge_100 (lv_at hl 5 rfl) ?_
                    refine lv_aload_n hx hb dL_merge_102 rfl (lv_at hl 8 rfl) ?_
                    refine lv_iload hx hb dL_merge_103 (lv_at hl 1 rfl) ?_
                    obtain ⟨c_105, hm⟩ := ck hm
                    refine va_iald hx hb hK hP 1 0 rfl rfl c_105 dL_merge_105 ?_
                    obtain ⟨c_106, hm⟩ := ck hm
                    refine va_iast hx hb hK hP hD hS 5 0 rfl rfl c_106 dL_merge_106 (fun H locs hP hD hS => ?_)
                    have hP : va_P (dC, dI) vwCl (w7 cI aa a5 a6 vm vr vh vl vql18 (upd vxl66_1 (Int32.toNatClampNeg x7_10) (vr (Int32.toNatClampNeg x12_10))) vyl18) H := hP
                    have hD : va_D A (w7 cI aa a5 a6 vm vr vh vl vql18 (upd vxl66_1 (Int32.toNatClampNeg x7_10) (vr (Int32.toNatClampNeg x12_10))) vyl18) := hD
                    exact J_107 (upd vxl66_1 (Int32.toNatClampNeg x7_10) (vr (Int32.toNatClampNeg x12_10))) (o2 hm) _ _ hP hD hS
                refine lv_icmp_ne (tgt := 87) hx hb dL_merge_80 (by decide) (fun c_80 => ?_) (fun c_80 => ?_)
                · refine lv_iconst (v := 0) hx hb dL_merge_87 (by decide) ?_
                  have e9 : y88_1 = 0 := by rw [e_y88_1, if_neg c_80]
                  rw [e9] at J_88
                  exact J_88
                · refine lv_iconst (v := 1) hx hb dL_merge_83 (by decide) ?_
                  refine lv_goto (tgt := 88) hx hb dL_merge_84 (by decide) ?_
                  have e9 : y88_1 = 1 := by rw [e_y88_1, if_pos c_80]
                  rw [e9] at J_88
                  exact J_88
          exact L_66 F x8 0 x7 vxl18 hq_66 _ _ hP hD hS _ (lv_sub hl [0, 1, 2, 3, 4, 5, 6, 7, 8, 9, 10, 11, 12] rfl)
        have hm := hq_53
        refine lv_if_ne (tgt := 43) hx hb dL_merge_36 (by decide) (fun c_36 => ?_) (fun c_36 => ?_)
        · have hm := it_f hm c_36
          refine lv_aload_n hx hb dL_merge_43 rfl (lv_at hl 6 rfl) ?_
          refine lv_iload hx hb dL_merge_44 (lv_at hl 0 rfl) ?_
          refine lv_aload hx hb dL_merge_46 (lv_at hl 8 rfl) ?_
          refine lv_iconst (v := 0) hx hb dL_merge_48 (by decide) ?_
          obtain ⟨c_49, hm⟩ := ck hm
          refine va_iald hx hb hK hP 4 0 rfl rfl c_49 dL_merge_49 ?_
          obtain ⟨r50_1, h_50, hm⟩ := ob hm
          refine z_callSi (As := [.ref (aa 2), .int x8, .int (vql18 (Int32.toNatClampNeg 0))]) (rest := []) ⟨hx, hb, hml, hown, hts⟩ (c_L_behind l dC dI cI (aa 2) 64 vh F x8 (vql18 (Int32.toNatClampNeg 0)) r50_1 h_50) (va_cwS 3 hts gL_merge_L_behind rfl rfl rfl ks_L_behind ⟨Nat.le_of_ble_eq_true rfl, Nat.le_of_ble_eq_true rfl⟩) hK (z_mid (pj7_1vh cI aa a5 a6 vm vr vh vl vql18 vxl18 vyl18 vh) hP) rfl hl.1 rfl (Nat.le_of_ble_eq_true rfl) dL_merge_50 ⟨Nat.le_of_ble_eq_true rfl, Nat.le_of_ble_eq_true rfl⟩ ?_
          exact J_53 r50_1 (o2 hm)
        · have hm := it_t hm c_36
          refine lv_iconst (v := 0) hx hb dL_merge_39 (by decide) ?_
          refine lv_goto (tgt := 53) hx hb dL_merge_40 (by decide) ?_
          exact J_53 0 (o2 hm)
      · have hm := it_f hm c_24
        refine lv_iload hx hb dL_merge_27 (lv_at hl 0 rfl) ?_
        refine lv_if_ne (tgt := 277) hx hb dL_merge_29 (by decide) (fun c_29 => ?_) (fun c_29 => ?_)
        · have hm := it_f hm c_29
          exact K_18 x7 vql18 vxl18 vyl18 (o2 hm) _ _ hP hD hS _ (lv_sub hl [1, 2, 3, 4, 5, 6, 8] rfl)
        · have hm := it_t hm c_29
          refine lv_aload hx hb dL_merge_32 (lv_at hl 8 rfl) ?_
          refine lv_iconst (v := 0) hx hb dL_merge_34 (by decide) ?_
          obtain ⟨c_35, hm⟩ := ck hm
          refine va_iald hx hb hK hP 4 0 rfl rfl c_35 dL_merge_35 ?_
          obtain ⟨z_53, hq_53, hm⟩ := ob hm
          have J_53 : ∀ (y53_2 : Int32), z_53 = y53_2 → W p l e (headSpec wsL_merge ({ frames := 2, cells := 2, slots := 128, locals := 53 } : Room)).room s m ([.ref (aa 1), .ref (aa 0), .ref (aa 2), .ref (aa 3), .ref (aa 4)] : List Value).toArray below meth c H locs 2 128 (MQ below (zQv (dC, dI) (w5 cI aa u_vm u_vr u_vh vl u_vq) [(cI, .int)] A) ([.ref (aa 1), .ref (aa 0), .ref (aa 2), .ref (aa 3), .ref (aa 4)] : List Value).toArray s 2 128 A) (F0 m 53 ls [.int y53_2]) := by
            intro y53_2 ez
            rw [ez] at hm
            refine lv_istore (lv' := [(9, .int y53_2), (8, .int x8), (7, .int x7), (6, .ref a6), (5, .ref a5), (0, .ref (aa 1)), (1, .ref (aa 0)), (2, .ref (aa 2)), (3, .ref (aa 3)), (4, .ref (aa 4))]) hx hb dL_merge_53 hl (by decide) rfl (fun ls hl => ?_)
            refine lv_iload hx hb dL_merge_55 (lv_at hl 2 rfl) ?_
            refine lv_istore (lv' := [(10, .int x7), (9, .int y53_2), (8, .int x8), (7, .int x7), (6, .ref a6), (5, .ref a5), (0, .ref (aa 1)), (1, .ref (aa 0)), (2, .ref (aa 2)), (3, .ref (aa 3)), (4, .ref (aa 4))]) hx hb dL_merge_57 hl (by decide) rfl (fun ls hl => ?_)
            refine lv_iconst (v := 0) hx hb dL_merge_59 (by decide) ?_
            refine lv_istore (lv' := [(11, .int 0), (10, .int x7), (9, .int y53_2), (8, .int x8), (7, .int x7), (6, .ref a6), (5, .ref a5), (0, .ref (aa 1)), (1, .ref (aa 0)), (2, .ref (aa 2)), (3, .ref (aa 3)), (4, .ref (aa 4))]) hx hb dL_merge_60 hl (by decide) rfl (fun ls hl => ?_)
            refine lv_iload hx hb dL_merge_62 (lv_at hl 3 rfl) ?_
            refine lv_istore (lv' := [(12, .int x8), (11, .int 0), (10, .int x7), (9, .int y53_2), (8, .int x8), (7, .int x7), (6, .ref a6), (5, .ref a5), (0, .ref (aa 1)), (1, .ref (aa 0)), (2, .ref (aa 2)), (3, .ref (aa 3)), (4, .ref (aa 4))]) hx hb dL_merge_64 hl (by decide) rfl (fun ls hl => ?_)
            obtain ⟨z_66, hq_66, hm⟩ := ob hm
            have K_66 : ∀ (x11_12 : Int32), ∀ (x7_21 : Int32), ∀ (vxx66_2 : Nat → Int32), z_66 = (x11_12, x7_21, vxx66_2) → ∀ (H : Heap) (locs : List Loc), va_P (dC, dI) vwCl (w7 cI aa a5 a6 vm vr vh vl vql18 vxx66_2 vyl18) H → va_D A (w7 cI aa a5 a6 vm vr vh vl vql18 vxx66_2 vyl18) → va_S A s.heap H locs → ∀ (ls : Array Slot), lv_has ls 13 [(11, .int x11_12), (10, .int x7), (9, .int y53_2), (8, .int x8), (7, .int x7_21), (6, .ref a6), (5, .ref a5), (0, .ref (aa 1)), (1, .ref (aa 0)), (2, .ref (aa 2)), (3, .ref (aa 3)), (4, .ref (aa 4))] → W p l e (headSpec wsL_merge ({ frames := 2, cells := 2, slots := 128, locals := 53 } : Room)).room s m ([.ref (aa 1), .ref (aa 0), .ref (aa 2), .ref (aa 3), .ref (aa 4)] : List Value).toArray below meth c H locs 2 128 (MQ below (zQv (dC, dI) (w5 cI aa u_vm u_vr u_vh vl u_vq) [(cI, .int)] A) ([.ref (aa 1), .ref (aa 0), .ref (aa 2), .ref (aa 3), .ref (aa 4)] : List Value).toArray s 2 128 A) (F0 m 124 ls []) := by
              intro x11_12 x7_21 vxx66_2 ez H locs hP hD hS ls hl
              rw [ez] at hm
              refine lv_iconst (v := 0) hx hb dL_merge_124 (by decide) ?_
              refine lv_istore (lv' := [(12, .int 0), (11, .int x11_12), (10, .int x7), (9, .int y53_2), (8, .int x8), (7, .int x7_21), (6, .ref a6), (5, .ref a5), (0, .ref (aa 1)), (1, .ref (aa 0)), (2, .ref (aa 2)), (3, .ref (aa 3)), (4, .ref (aa 4))]) hx hb dL_merge_125 hl (by decide) rfl (fun ls hl => ?_)
              obtain ⟨z_127, hq_127, hm⟩ := ob hm
              have K_127 : ∀ (x11_14 : Int32), ∀ (x7_27 : Int32), ∀ (vxx127_2 : Nat → Int32), z_127 = (x11_14, x7_27, vxx127_2) → ∀ (H : Heap) (locs : List Loc), va_P (dC, dI) vwCl (w7 cI aa a5 a6 vm vr vh vl vql18 vxx127_2 vyl18) H → va_D A (w7 cI aa a5 a6 vm vr vh vl vql18 vxx127_2 vyl18) → va_S A s.heap H locs → ∀ (ls : Array Slot), lv_has ls 13 [(11, .int x11_14), (10, .int x7), (9, .int y53_2), (7, .int x7_27), (6, .ref a6), (5, .ref a5), (0, .ref (aa 1)), (1, .ref (aa 0)), (2, .ref (aa 2)), (3, .ref (aa 3)), (4, .ref (aa 4))] → W p l e (headSpec wsL_merge ({ frames := 2, cells := 2, slots := 128, locals := 53 } : Room)).room s m ([.ref (aa 1), .ref (aa 0), .ref (aa 2), .ref (aa 3), .ref (aa 4)] : List Value).toArray below meth c H locs 2 128 (MQ below (zQv (dC, dI) (w5 cI aa u_vm u_vr u_vh vl u_vq) [(cI, .int)] A) ([.ref (aa 1), .ref (aa 0), .ref (aa 2), .ref (aa 3), .ref (aa 4)] : List Value).toArray s 2 128 A) (F0 m 200 ls []) := by
                intro x11_14 x7_27 vxx127_2 ez H locs hP hD hS ls hl
                rw [ez] at hm
                refine lv_iload hx hb dL_merge_200 (lv_at hl 0 rfl) ?_
                obtain ⟨z_259, hq_259, hm⟩ := ob hm
                have J_259 : ∀ (vqj259_2 : Nat → Int32), ∀ (vyj259_2 : Nat → Int32), z_259 = (vqj259_2, vyj259_2) → ∀ (H : Heap) (locs : List Loc), va_P (dC, dI) vwCl (w7 cI aa a5 a6 vm vr vh vl vqj259_2 vxx127_2 vyj259_2) H → va_D A (w7 cI aa a5 a6 vm vr vh vl vqj259_2 vxx127_2 vyj259_2) → va_S A s.heap H locs → ∀ (ls : Array Slot), lv_has ls 13 [(9, .int y53_2), (7, .int x7_27), (6, .ref a6), (5, .ref a5), (0, .ref (aa 1)), (1, .ref (aa 0)), (2, .ref (aa 2)), (3, .ref (aa 3)), (4, .ref (aa 4))] → W p l e (headSpec wsL_merge ({ frames := 2, cells := 2, slots := 128, locals := 53 } : Room)).room s m ([.ref (aa 1), .ref (aa 0), .ref (aa 2), .ref (aa 3), .ref (aa 4)] : List Value).toArray below meth c H locs 2 128 (MQ below (zQv (dC, dI) (w5 cI aa u_vm u_vr u_vh vl u_vq) [(cI, .int)] A) ([.ref (aa 1), .ref (aa 0), .ref (aa 2), .ref (aa 3), .ref (aa 4)] : List Value).toArray s 2 128 A) (F0 m 259 ls []) := by
                  intro vqj259_2 vyj259_2 ez H locs hP hD hS ls hl
                  rw [ez] at hm
                  refine lv_aload hx hb dL_merge_259 (lv_at hl 8 rfl) ?_
                  refine lv_iconst (v := 0) hx hb dL_merge_261 (by decide) ?_
                  obtain ⟨c_262, hm⟩ := ck hm
                  refine va_iald hx hb hK hP 4 0 rfl rfl c_262 dL_merge_262 ?_
                  refine lv_if_ne (tgt := 270) hx hb dL_merge_263 (by decide) (fun c_263 => ?_) (fun c_263 => ?_)
                  · have hm := it_f hm c_263
                    refine lv_iload hx hb dL_merge_270 (lv_at hl 0 rfl) ?_
                    refine lv_istore (lv' := [(8, .int y53_2), (9, .int y53_2), (7, .int x7_27), (6, .ref a6), (5, .ref a5), (0, .ref (aa 1)), (1, .ref (aa 0)), (2, .ref (aa 2)), (3, .ref (aa 3)), (4, .ref (aa 4))]) hx hb dL_merge_272 hl (by decide) rfl (fun ls hl => ?_)
                    refine lv_goto (tgt := 18) hx hb dL_merge_274 (by decide) ?_
                    exact ih_18 y53_2 x7_27 vqj259_2 vxx127_2 vyj259_2 hm _ _ hP hD hS _ (lv_sub hl [0, 2, 3, 4, 5, 6, 7, 8, 9] rfl)
                  · have hm := it_t hm c_263
                    refine lv_iconst (v := 1) hx hb dL_merge_266 (by decide) ?_
                    refine lv_goto (tgt := 272) hx hb dL_merge_267 (by decide) ?_
                    refine lv_istore (lv' := [(8, .int 1), (9, .int y53_2), (7, .int x7_27), (6, .ref a6), (5, .ref a5), (0, .ref (aa 1)), (1, .ref (aa 0)), (2, .ref (aa 2)), (3, .ref (aa 3)), (4, .ref (aa 4))]) hx hb dL_merge_272 hl (by decide) rfl (fun ls hl => ?_)
                    refine lv_goto (tgt := 18) hx hb dL_merge_274 (by decide) ?_
                    exact ih_18 1 x7_27 vqj259_2 vxx127_2 vyj259_2 hm _ _ hP hD hS _ (lv_sub hl [0, 2, 3, 4, 5, 6, 7, 8, 9] rfl)
                have hm := hq_259
                refine lv_if_eq (tgt := 246) hx hb dL_merge_202 (by decide) (fun c_202 => ?_) (fun c_202 => ?_)
                · have hm := it_t hm c_202
                  refine lv_iload hx hb dL_merge_246 (lv_at hl 3 rfl) ?_
                  refine lv_iload hx hb dL_merge_248 (lv_at hl 1 rfl) ?_
                  refine lv_icmp_le (tgt := 259) hx hb dL_merge_250 (by decide) (fun c_250 => ?_) (fun c_250 => ?_)
                  · have hm := it_t hm c_250
                    exact J_259 vql18 vyl18 (o2 hm) _ _ hP hD hS _ (lv_sub hl [2, 3, 4, 5, 6, 7, 8, 9, 10] rfl)
                  · have hm := it_f hm c_250
                    refine lv_aload hx hb dL_merge_253 (lv_at hl 4 rfl) ?_
                    refine lv_iload hx hb dL_merge_255 (lv_at hl 1 rfl) ?_
                    refine lv_iconst (v := 1) hx hb dL_merge_257 (by decide) ?_
                    obtain ⟨c_258, hm⟩ := ck hm
                    refine va_iast hx hb hK hP hD hS 6 0 rfl rfl c_258 dL_merge_258 (fun H locs hP hD hS => ?_)
                    have hP : va_P (dC, dI) vwCl (w7 cI aa a5 a6 vm vr vh vl vql18 vxx127_2 (upd vyl18 (Int32.toNatClampNeg x7) 1)) H := hP
                    have hD : va_D A (w7 cI aa a5 a6 vm vr vh vl vql18 vxx127_2 (upd vyl18 (Int32.toNatClampNeg x7) 1)) := hD
                    exact J_259 vql18 (upd vyl18 (Int32.toNatClampNeg x7) 1) (o2 hm) _ _ hP hD hS _ (lv_sub hl [2, 3, 4, 5, 6, 7, 8, 9, 10] rfl)
                · have hm := it_f hm c_202
                  refine lv_aload hx hb dL_merge_205 (lv_at hl 5 rfl) ?_
                  refine lv_aload hx hb dL_merge_207 (lv_at hl 4 rfl) ?_
                  refine lv_iload hx hb dL_merge_209 (lv_at hl 1 rfl) ?_
                  refine lv_iload hx hb dL_merge_211 (lv_at hl 3 rfl) ?_
                  refine lv_aload hx hb dL_merge_213 (lv_at hl 10 rfl) ?_
                  refine lv_iconst (v := 2) hx hb dL_merge_215 (by decide) ?_
                  obtain ⟨c_216, hm⟩ := ck hm
                  refine va_iald hx hb hK hP 4 0 rfl rfl c_216 dL_merge_216 ?_
                  obtain ⟨⟨r217_2, vy217_2⟩, h_217, hm⟩ := ob hm
                  refine z_callSWi (wc := (w2 cI a5 a6 vxx127_2 vyl18)) (w1 := (w2 cI a5 a6 vxx127_2 vy217_2)) (ws := (w7 cI aa a5 a6 vm vr vh vl vql18 vxx127_2 vyl18)) (ws' := (w7 cI aa a5 a6 vm vr vh vl vql18 vxx127_2 vy217_2)) (As := [.ref a5, .ref a6, .int x7, .int x7_27, .int (vql18 (Int32.toNatClampNeg 2))]) (rest := []) ⟨hx, hb, hml, hown, hts⟩ (c_L_cuts l dC dI cI a5 a6 vxx127_2 vyl18 F x7 x7_27 (vql18 (Int32.toNatClampNeg 2)) H.size r217_2 vy217_2 h_217) (va_cwS 5 hts gL_merge_L_cuts rfl rfl rfl ks_L_cuts ⟨Nat.le_of_ble_eq_true rfl, Nat.le_of_ble_eq_true rfl⟩) hK hP hD hS hA (pj7_2vx cI aa a5 a6 vm vr vh vl vql18 vxx127_2 vyl18 vxx127_2 vy217_2) ((pa2 cI a5 a6 vxx127_2 vy217_2).trans (pa2 cI a5 a6 vxx127_2 vyl18).symm) rfl hl.1 rfl (Nat.le_of_ble_eq_true rfl) dL_merge_217 ⟨Nat.le_of_ble_eq_true rfl, Nat.le_of_ble_eq_true rfl⟩ (fun H locs hP hD hS => ?_)
                  refine lv_istore (lv' := [(12, .int r217_2), (11, .int x11_14), (10, .int x7), (9, .int y53_2), (7, .int x7_27), (6, .ref a6), (5, .ref a5), (0, .ref (aa 1)), (1, .ref (aa 0)), (2, .ref (aa 2)), (3, .ref (aa 3)), (4, .ref (aa 4))]) hx hb dL_merge_220 hl (by decide) rfl (fun ls hl => ?_)
                  refine lv_aload hx hb dL_merge_222 (lv_at hl 11 rfl) ?_
                  refine lv_iconst (v := 5) hx hb dL_merge_224 (by decide) ?_
                  refine lv_dup2_11 hx hb dL_merge_225 rfl rfl ?_
                  obtain ⟨c_226, hm⟩ := ck hm
                  refine va_iald hx hb hK hP 4 0 rfl rfl c_226 dL_merge_226 ?_
                  refine lv_iload hx hb dL_merge_227 (lv_at hl 0 rfl) ?_
                  refine lv_iconst (v := 1) hx hb dL_merge_229 (by decide) ?_
                  refine lv_icmp_le (tgt := 240) hx hb dL_merge_230 (by decide) (fun c_230 => ?_) (fun c_230 => ?_)
                  · have hm := it_t hm c_230
                    refine lv_iconst (v := 0) hx hb dL_merge_240 (by decide) ?_
                    refine lv_iadd hx hb dL_merge_241 ?_
                    obtain ⟨c_242, hm⟩ := ck hm
                    refine va_iast hx hb hK hP hD hS 4 0 rfl rfl c_242 dL_merge_242 (fun H locs hP hD hS => ?_)
                    have hP : va_P (dC, dI) vwCl (w7 cI aa a5 a6 vm vr vh vl (upd vql18 (Int32.toNatClampNeg 5) ((vql18 (Int32.toNatClampNeg 5)) + 0)) vxx127_2 vy217_2) H := hP
                    have hD : va_D A (w7 cI aa a5 a6 vm vr vh vl (upd vql18 (Int32.toNatClampNeg 5) ((vql18 (Int32.toNatClampNeg 5)) + 0)) vxx127_2 vy217_2) := hD
                    refine lv_goto (tgt := 259) hx hb dL_merge_243 (by decide) ?_
                    exact J_259 (upd vql18 (Int32.toNatClampNeg 5) ((vql18 (Int32.toNatClampNeg 5)) + 0)) vy217_2 (o2 hm) _ _ hP hD hS _ (lv_sub hl [3, 4, 5, 6, 7, 8, 9, 10, 11] rfl)
                  · have hm := it_f hm c_230
                    refine lv_iload hx hb dL_merge_233 (lv_at hl 0 rfl) ?_
                    refine lv_iconst (v := 1) hx hb dL_merge_235 (by decide) ?_
                    refine lv_isub hx hb dL_merge_236 ?_
                    refine lv_goto (tgt := 241) hx hb dL_merge_237 (by decide) ?_
                    refine lv_iadd hx hb dL_merge_241 ?_
                    obtain ⟨c_242, hm⟩ := ck hm
                    refine va_iast hx hb hK hP hD hS 4 0 rfl rfl c_242 dL_merge_242 (fun H locs hP hD hS => ?_)
                    have hP : va_P (dC, dI) vwCl (w7 cI aa a5 a6 vm vr vh vl (upd vql18 (Int32.toNatClampNeg 5) ((vql18 (Int32.toNatClampNeg 5)) + (r217_2 - 1))) vxx127_2 vy217_2) H := hP
                    have hD : va_D A (w7 cI aa a5 a6 vm vr vh vl (upd vql18 (Int32.toNatClampNeg 5) ((vql18 (Int32.toNatClampNeg 5)) + (r217_2 - 1))) vxx127_2 vy217_2) := hD
                    refine lv_goto (tgt := 259) hx hb dL_merge_243 (by decide) ?_
                    exact J_259 (upd vql18 (Int32.toNatClampNeg 5) ((vql18 (Int32.toNatClampNeg 5)) + (r217_2 - 1))) vy217_2 (o2 hm) _ _ hP hD hS _ (lv_sub hl [3, 4, 5, 6, 7, 8, 9, 10, 11] rfl)
              have L_127 : ∀ (n : Nat) (x12_22 : Int32) (x11_13 : Int32) (x7_22 : Int32) (vxl127_2 : Nat → Int32), L_merge_L127 vr vl F x8 x7 vql18 y53_2 n x12_22 x11_13 x7_22 vxl127_2 = some z_127 → ∀ (H : Heap) (locs : List Loc), va_P (dC, dI) vwCl (w7 cI aa a5 a6 vm vr vh vl vql18 vxl127_2 vyl18) H → va_D A (w7 cI aa a5 a6 vm vr vh vl vql18 vxl127_2 vyl18) → va_S A s.heap H locs → ∀ (ls : Array Slot), lv_has ls 13 [(12, .int x12_22), (11, .int x11_13), (10, .int x7), (9, .int y53_2), (8, .int x8), (7, .int x7_22), (6, .ref a6), (5, .ref a5), (0, .ref (aa 1)), (1, .ref (aa 0)), (2, .ref (aa 2)), (3, .ref (aa 3)), (4, .ref (aa 4))] → W p l e (headSpec wsL_merge ({ frames := 2, cells := 2, slots := 128, locals := 53 } : Room)).room s m ([.ref (aa 1), .ref (aa 0), .ref (aa 2), .ref (aa 3), .ref (aa 4)] : List Value).toArray below meth c H locs 2 128 (MQ below (zQv (dC, dI) (w5 cI aa u_vm u_vr u_vh vl u_vq) [(cI, .int)] A) ([.ref (aa 1), .ref (aa 0), .ref (aa 2), .ref (aa 3), .ref (aa 4)] : List Value).toArray s 2 128 A) (F0 m 127 ls []) := by
                intro n
                induction n with
                | zero => intro x12_22 x11_13 x7_22 vxl127_2 hm; cases hm
                | succ n ih_127 =>
                  intro x12_22 x11_13 x7_22 vxl127_2 hm H locs hP hD hS ls hl
                  refine lv_iload hx hb dL_merge_127 (lv_at hl 0 rfl) ?_
                  refine lv_aload hx hb dL_merge_129 (lv_at hl 12 rfl) ?_
                  refine lv_iconst (v := 1) hx hb dL_merge_131 (by decide) ?_
                  obtain ⟨c_132, hm⟩ := ck hm
                  refine va_iald hx hb hK hP 4 0 rfl rfl c_132 dL_merge_132 ?_
                  refine lv_icmp_ge (tgt := 200) hx hb dL_merge_133 (by decide) (fun c_133 => ?_) (fun c_133 => ?_)
                  · have hm := it_t hm c_133
                    exact K_127 x11_13 x7_22 vxl127_2 (o2 hm) _ _ hP hD hS _ (lv_sub hl [1, 2, 3, 5, 6, 7, 8, 9, 10, 11, 12] rfl)
                  · have hm := it_f hm c_133
                    refine lv_iload hx hb dL_merge_136 (lv_at hl 4 rfl) ?_
                    refine lv_if_le (tgt := 152) hx hb dL_merge_138 (by decide) (fun c_138 => ?_) (fun c_138 => ?_)
                    · have hm := it_t hm c_138
                      refine lv_iload hx hb dL_merge_152 (lv_at hl 3 rfl) ?_
                      refine lv_aload hx hb dL_merge_154 (lv_at hl 12 rfl) ?_
                      refine lv_iconst (v := 0) hx hb dL_merge_156 (by decide) ?_
                      obtain ⟨c_157, hm⟩ := ck hm
                      refine va_iald hx hb hK hP 4 0 rfl rfl c_157 dL_merge_157 ?_
                      refine lv_icmp_ge (tgt := 175) hx hb dL_merge_158 (by decide) (fun c_158 => ?_) (fun c_158 => ?_)
                      · have hm := it_t hm c_158
                        refine lv_aload hx hb dL_merge_175 (lv_at hl 7 rfl) ?_
                        refine lv_iload hx hb dL_merge_177 (lv_at hl 2 rfl) ?_
                        refine lv_iload hx hb dL_merge_179 (lv_at hl 5 rfl) ?_
                        refine lv_aload_n hx hb dL_merge_181 rfl (lv_at hl 11 rfl) ?_
                        refine lv_iload hx hb dL_merge_182 (lv_at hl 0 rfl) ?_
                        obtain ⟨c_184, hm⟩ := ck hm
                        refine va_iald hx hb hK hP 3 0 rfl rfl c_184 dL_merge_184 ?_
                        obtain ⟨vx185_8, h_185, hm⟩ := ob hm
                        refine z_callSWv (wc := (w1 cI a5 64 vxl127_2)) (w1 := (w1 cI a5 64 vx185_8)) (ws := (w7 cI aa a5 a6 vm vr vh vl vql18 vxl127_2 vyl18)) (ws' := (w7 cI aa a5 a6 vm vr vh vl vql18 vx185_8 vyl18)) (As := [.ref a5, .int x7, .int x7_22, .int (vl (Int32.toNatClampNeg x12_22))]) (rest := []) ⟨hx, hb, hml, hown, hts⟩ (c_L_sorts l dC dI cI a5 64 vxl127_2 F x7 x7_22 (vl (Int32.toNatClampNeg x12_22)) H.size vx185_8 h_185) (va_cwS 4 hts gL_merge_L_sorts rfl rfl rfl ks_L_sorts ⟨Nat.le_of_ble_eq_true rfl, Nat.le_of_ble_eq_true rfl⟩) hK hP hD hS hA (pj7_1vx cI aa a5 a6 vm vr vh vl vql18 vxl127_2 vyl18 vx185_8) ((pa1 cI a5 64 vx185_8).trans (pa1 cI a5 64 vxl127_2).symm) rfl hl.1 rfl (Nat.le_of_ble_eq_true rfl) dL_merge_185 ⟨Nat.le_of_ble_eq_true rfl, Nat.le_of_ble_eq_true rfl⟩ (fun H locs hP hD hS => ?_)
                        obtain ⟨x7_23, e_x7_23⟩ : ∃ y : Int32, y = x7_22 + 1 := ⟨_, rfl⟩
                        have hm := bnd_e hm e_x7_23
                        refine lv_iinc (v := x7_23) (lv' := [(7, .int x7_23), (12, .int x12_22), (11, .int x11_13), (10, .int x7), (9, .int y53_2), (8, .int x8), (6, .ref a6), (5, .ref a5), (0, .ref (aa 1)), (1, .ref (aa 0)), (2, .ref (aa 2)), (3, .ref (aa 3)), (4, .ref (aa 4))]) hx hb dL_merge_188 hl (k := 5) rfl (by rw [e_x7_23]; rfl) (by decide) rfl (fun ls hl => ?_)
                        refine lv_iconst (v := 1) hx hb dL_merge_191 (by decide) ?_
                        refine lv_istore (lv' := [(11, .int 1), (7, .int x7_23), (12, .int x12_22), (10, .int x7), (9, .int y53_2), (8, .int x8), (6, .ref a6), (5, .ref a5), (0, .ref (aa 1)), (1, .ref (aa 0)), (2, .ref (aa 2)), (3, .ref (aa 3)), (4, .ref (aa 4))]) hx hb dL_merge_192 hl (by decide) rfl (fun ls hl => ?_)
                        obtain ⟨x12_23, e_x12_23⟩ : ∃ y : Int32, y = x12_22 + 1 := ⟨_, rfl⟩
                        have hm := bnd_e hm e_x12_23
                        refine lv_iinc (v := x12_23) (lv' := [(12, .int x12_23), (11, .int 1), (7, .int x7_23), (10, .int x7), (9, .int y53_2), (8, .int x8), (6, .ref a6), (5, .ref a5), (0, .ref (aa 1)), (1, .ref (aa 0)), (2, .ref (aa 2)), (3, .ref (aa 3)), (4, .ref (aa 4))]) hx hb dL_merge_194 hl (k := 2) rfl (by rw [e_x12_23]; rfl) (by decide) rfl (fun ls hl => ?_)
                        refine lv_goto (tgt := 127) hx hb dL_merge_197 (by decide) ?_
                        exact ih_127 x12_23 1 x7_23 vx185_8 hm _ _ hP hD hS _ (lv_sub hl [0, 1, 3, 4, 5, 2, 6, 7, 8, 9, 10, 11, 12] rfl)
                      · have hm := it_f hm c_158
                        refine lv_aload_n hx hb dL_merge_161 rfl (lv_at hl 11 rfl) ?_
                        refine lv_iload hx hb dL_merge_162 (lv_at hl 0 rfl) ?_
                        obtain ⟨c_164, hm⟩ := ck hm
                        refine va_iald hx hb hK hP 3 0 rfl rfl c_164 dL_merge_164 ?_
                        refine lv_aload_n hx hb dL_merge_165 rfl (lv_at hl 8 rfl) ?_
                        refine lv_iload hx hb dL_merge_166 (lv_at hl 3 rfl) ?_
                        obtain ⟨c_168, hm⟩ := ck hm
                        refine va_iald hx hb hK hP 1 0 rfl rfl c_168 dL_merge_168 ?_
                        refine lv_icmp_le (tgt := 175) hx hb dL_merge_169 (by decide) (fun c_169 => ?_) (fun c_169 => ?_)
                        · have hm := it_t hm c_169
                          refine lv_aload hx hb dL_merge_175 (lv_at hl 7 rfl) ?_
                          refine lv_iload hx hb dL_merge_177 (lv_at hl 2 rfl) ?_
                          refine lv_iload hx hb dL_merge_179 (lv_at hl 5 rfl) ?_
                          refine lv_aload_n hx hb dL_merge_181 rfl (lv_at hl 11 rfl) ?_
                          refine lv_iload hx hb dL_merge_182 (lv_at hl 0 rfl) ?_
                          obtain ⟨c_184, hm⟩ := ck hm
                          refine va_iald hx hb hK hP 3 0 rfl rfl c_184 dL_merge_184 ?_
                          obtain ⟨vx185_9, h_185, hm⟩ := ob hm
                          refine z_callSWv (wc := (w1 cI a5 64 vxl127_2)) (w1 := (w1 cI a5 64 vx185_9)) (ws := (w7 cI aa a5 a6 vm vr vh vl vql18 vxl127_2 vyl18)) (ws' := (w7 cI aa a5 a6 vm vr vh vl vql18 vx185_9 vyl18)) (As := [.ref a5, .int x7, .int x7_22, .int (vl (Int32.toNatClampNeg x12_22))]) (rest := []) ⟨hx, hb, hml, hown, hts⟩ (c_L_sorts l dC dI cI a5 64 vxl127_2 F x7 x7_22 (vl (Int32.toNatClampNeg x12_22)) H.size vx185_9 h_185) (va_cwS 4 hts gL_merge_L_sorts rfl rfl rfl ks_L_sorts ⟨Nat.le_of_ble_eq_true rfl, Nat.le_of_ble_eq_true rfl⟩) hK hP hD hS hA (pj7_1vx cI aa a5 a6 vm vr vh vl vql18 vxl127_2 vyl18 vx185_9) ((pa1 cI a5 64 vx185_9).trans (pa1 cI a5 64 vxl127_2).symm) rfl hl.1 rfl (Nat.le_of_ble_eq_true rfl) dL_merge_185 ⟨Nat.le_of_ble_eq_true rfl, Nat.le_of_ble_eq_true rfl⟩ (fun H locs hP hD hS => ?_)
                          obtain ⟨x7_24, e_x7_24⟩ : ∃ y : Int32, y = x7_22 + 1 := ⟨_, rfl⟩
                          have hm := bnd_e hm e_x7_24
                          refine lv_iinc (v := x7_24) (lv' := [(7, .int x7_24), (12, .int x12_22), (11, .int x11_13), (10, .int x7), (9, .int y53_2), (8, .int x8), (6, .ref a6), (5, .ref a5), (0, .ref (aa 1)), (1, .ref (aa 0)), (2, .ref (aa 2)), (3, .ref (aa 3)), (4, .ref (aa 4))]) hx hb dL_merge_188 hl (k := 5) rfl (by rw [e_x7_24]; rfl) (by decide) rfl (fun ls hl => ?_)
                          refine lv_iconst (v := 1) hx hb dL_merge_191 (by decide) ?_
                          refine lv_istore (lv' := [(11, .int 1), (7, .int x7_24), (12, .int x12_22), (10, .int x7), (9, .int y53_2), (8, .int x8), (6, .ref a6), (5, .ref a5), (0, .ref (aa 1)), (1, .ref (aa 0)), (2, .ref (aa 2)), (3, .ref (aa 3)), (4, .ref (aa 4))]) hx hb dL_merge_192 hl (by decide) rfl (fun ls hl => ?_)
                          obtain ⟨x12_24, e_x12_24⟩ : ∃ y : Int32, y = x12_22 + 1 := ⟨_, rfl⟩
                          have hm := bnd_e hm e_x12_24
                          refine lv_iinc (v := x12_24) (lv' := [(12, .int x12_24), (11, .int 1), (7, .int x7_24), (10, .int x7), (9, .int y53_2), (8, .int x8), (6, .ref a6), (5, .ref a5), (0, .ref (aa 1)), (1, .ref (aa 0)), (2, .ref (aa 2)), (3, .ref (aa 3)), (4, .ref (aa 4))]) hx hb dL_merge_194 hl (k := 2) rfl (by rw [e_x12_24]; rfl) (by decide) rfl (fun ls hl => ?_)
                          refine lv_goto (tgt := 127) hx hb dL_merge_197 (by decide) ?_
                          exact ih_127 x12_24 1 x7_24 vx185_9 hm _ _ hP hD hS _ (lv_sub hl [0, 1, 3, 4, 5, 2, 6, 7, 8, 9, 10, 11, 12] rfl)
                        · have hm := it_f hm c_169
                          refine lv_goto (tgt := 194) hx hb dL_merge_172 (by decide) ?_
                          obtain ⟨x12_25, e_x12_25⟩ : ∃ y : Int32, y = x12_22 + 1 := ⟨_, rfl⟩
                          have hm := bnd_e hm e_x12_25
                          refine lv_iinc (v := x12_25) (lv' := [(12, .int x12_25), (11, .int x11_13), (10, .int x7), (9, .int y53_2), (8, .int x8), (7, .int x7_22), (6, .ref a6), (5, .ref a5), (0, .ref (aa 1)), (1, .ref (aa 0)), (2, .ref (aa 2)), (3, .ref (aa 3)), (4, .ref (aa 4))]) hx hb dL_merge_194 hl (k := 0) rfl (by rw [e_x12_25]; rfl) (by decide) rfl (fun ls hl => ?_)
                          refine lv_goto (tgt := 127) hx hb dL_merge_197 (by decide) ?_
                          exact ih_127 x12_25 x11_13 x7_22 vxl127_2 hm _ _ hP hD hS _ (lv_sub hl [0, 1, 2, 3, 4, 5, 6, 7, 8, 9, 10, 11, 12] rfl)
                    · have hm := it_f hm c_138
                      refine lv_aload_n hx hb dL_merge_141 rfl (lv_at hl 11 rfl) ?_
                      refine lv_iload hx hb dL_merge_142 (lv_at hl 0 rfl) ?_
                      obtain ⟨c_144, hm⟩ := ck hm
                      refine va_iald hx hb hK hP 3 0 rfl rfl c_144 dL_merge_144 ?_
                      refine lv_aload_n hx hb dL_merge_145 rfl (lv_at hl 8 rfl) ?_
                      refine lv_iload hx hb dL_merge_146 (lv_at hl 4 rfl) ?_
                      obtain ⟨c_148, hm⟩ := ck hm
                      refine va_iald hx hb hK hP 1 0 rfl rfl c_148 dL_merge_148 ?_
                      refine lv_icmp_lt (tgt := 194) hx hb dL_merge_149 (by decide) (fun c_149 => ?_) (fun c_149 => ?_)
                      · have hm := it_t hm c_149
                        obtain ⟨x12_26, e_x12_26⟩ : ∃ y : Int32, y = x12_22 + 1 := ⟨_, rfl⟩
                        have hm := bnd_e hm e_x12_26
                        refine lv_iinc (v := x12_26) (lv' := [(12, .int x12_26), (11, .int x11_13), (10, .int x7), (9, .int y53_2), (8, .int x8), (7, .int x7_22), (6, .ref a6), (5, .ref a5), (0, .ref (aa 1)), (1, .ref (aa 0)), (2, .ref (aa 2)), (3, .ref (aa 3)), (4, .ref (aa 4))]) hx hb dL_merge_194 hl (k := 0) rfl (by rw [e_x12_26]; rfl) (by decide) rfl (fun ls hl => ?_)
                        refine lv_goto (tgt := 127) hx hb dL_merge_197 (by decide) ?_
                        exact ih_127 x12_26 x11_13 x7_22 vxl127_2 hm _ _ hP hD hS _ (lv_sub hl [0, 1, 2, 3, 4, 5, 6, 7, 8, 9, 10, 11, 12] rfl)
                      · have hm := it_f hm c_149
                        refine lv_iload hx hb dL_merge_152 (lv_at hl 3 rfl) ?_
                        refine lv_aload hx hb dL_merge_154 (lv_at hl 12 rfl) ?_
                        refine lv_iconst (v := 0) hx hb dL_merge_156 (by decide) ?_
                        obtain ⟨c_157, hm⟩ := ck hm
                        refine va_iald hx hb hK hP 4 0 rfl rfl c_157 dL_merge_157 ?_
                        refine lv_icmp_ge (tgt := 175) hx hb dL_merge_158 (by decide) (fun c_158 => ?_) (fun c_158 => ?_)
                        · have hm := it_t hm c_158
                          refine lv_aload hx hb dL_merge_175 (lv_at hl 7 rfl) ?_
                          refine lv_iload hx hb dL_merge_177 (lv_at hl 2 rfl) ?_
                          refine lv_iload hx hb dL_merge_179 (lv_at hl 5 rfl) ?_
                          refine lv_aload_n hx hb dL_merge_181 rfl (lv_at hl 11 rfl) ?_
                          refine lv_iload hx hb dL_merge_182 (lv_at hl 0 rfl) ?_
                          obtain ⟨c_184, hm⟩ := ck hm
                          refine va_iald hx hb hK hP 3 0 rfl rfl c_184 dL_merge_184 ?_
                          obtain ⟨vx185_10, h_185, hm⟩ := ob hm
                          refine z_callSWv (wc := (w1 cI a5 64 vxl127_2)) (w1 := (w1 cI a5 64 vx185_10)) (ws := (w7 cI aa a5 a6 vm vr vh vl vql18 vxl127_2 vyl18)) (ws' := (w7 cI aa a5 a6 vm vr vh vl vql18 vx185_10 vyl18)) (As := [.ref a5, .int x7, .int x7_22, .int (vl (Int32.toNatClampNeg x12_22))]) (rest := []) ⟨hx, hb, hml, hown, hts⟩ (c_L_sorts l dC dI cI a5 64 vxl127_2 F x7 x7_22 (vl (Int32.toNatClampNeg x12_22)) H.size vx185_10 h_185) (va_cwS 4 hts gL_merge_L_sorts rfl rfl rfl ks_L_sorts ⟨Nat.le_of_ble_eq_true rfl, Nat.le_of_ble_eq_true rfl⟩) hK hP hD hS hA (pj7_1vx cI aa a5 a6 vm vr vh vl vql18 vxl127_2 vyl18 vx185_10) ((pa1 cI a5 64 vx185_10).trans (pa1 cI a5 64 vxl127_2).symm) rfl hl.1 rfl (Nat.le_of_ble_eq_true rfl) dL_merge_185 ⟨Nat.le_of_ble_eq_true rfl, Nat.le_of_ble_eq_true rfl⟩ (fun H locs hP hD hS => ?_)
                          obtain ⟨x7_25, e_x7_25⟩ : ∃ y : Int32, y = x7_22 + 1 := ⟨_, rfl⟩
                          have hm := bnd_e hm e_x7_25
                          refine lv_iinc (v := x7_25) (lv' := [(7, .int x7_25), (12, .int x12_22), (11, .int x11_13), (10, .int x7), (9, .int y53_2), (8, .int x8), (6, .ref a6), (5, .ref a5), (0, .ref (aa 1)), (1, .ref (aa 0)), (2, .ref (aa 2)), (3, .ref (aa 3)), (4, .ref (aa 4))]) hx hb dL_merge_188 hl (k := 5) rfl (by rw [e_x7_25]; rfl) (by decide) rfl (fun ls hl => ?_)
                          refine lv_iconst (v := 1) hx hb dL_merge_191 (by decide) ?_
                          refine lv_istore (lv' := [(11, .int 1), (7, .int x7_25), (12, .int x12_22), (10, .int x7), (9, .int y53_2), (8, .int x8), (6, .ref a6), (5, .ref a5), (0, .ref (aa 1)), (1, .ref (aa 0)), (2, .ref (aa 2)), (3, .ref (aa 3)), (4, .ref (aa 4))]) hx hb dL_merge_192 hl (by decide) rfl (fun ls hl => ?_)
                          obtain ⟨x12_27, e_x12_27⟩ : ∃ y : Int32, y = x12_22 + 1 := ⟨_, rfl⟩
                          have hm := bnd_e hm e_x12_27
                          refine lv_iinc (v := x12_27) (lv' := [(12, .int x12_27), (11, .int 1), (7, .int x7_25), (10, .int x7), (9, .int y53_2), (8, .int x8), (6, .ref a6), (5, .ref a5), (0, .ref (aa 1)), (1, .ref (aa 0)), (2, .ref (aa 2)), (3, .ref (aa 3)), (4, .ref (aa 4))]) hx hb dL_merge_194 hl (k := 2) rfl (by rw [e_x12_27]; rfl) (by decide) rfl (fun ls hl => ?_)
                          refine lv_goto (tgt := 127) hx hb dL_merge_197 (by decide) ?_
                          exact ih_127 x12_27 1 x7_25 vx185_10 hm _ _ hP hD hS _ (lv_sub hl [0, 1, 3, 4, 5, 2, 6, 7, 8, 9, 10, 11, 12] rfl)
                        · have hm := it_f hm c_158
                          refine lv_aload_n hx hb dL_merge_161 rfl (lv_at hl 11 rfl) ?_
                          refine lv_iload hx hb dL_merge_162 (lv_at hl 0 rfl) ?_
                          obtain ⟨c_164, hm⟩ := ck hm
                          refine va_iald hx hb hK hP 3 0 rfl rfl c_164 dL_merge_164 ?_
                          refine lv_aload_n hx hb dL_merge_165 rfl (lv_at hl 8 rfl) ?_
                          refine lv_iload hx hb dL_merge_166 (lv_at hl 3 rfl) ?_
                          obtain ⟨c_168, hm⟩ := ck hm
                          refine va_iald hx hb hK hP 1 0 rfl rfl c_168 dL_merge_168 ?_
                          refine lv_icmp_le (tgt := 175) hx hb dL_merge_169 (by decide) (fun c_169 => ?_) (fun c_169 => ?_)
                          · have hm := it_t hm c_169
                            refine lv_aload hx hb dL_merge_175 (lv_at hl 7 rfl) ?_
                            refine lv_iload hx hb dL_merge_177 (lv_at hl 2 rfl) ?_
                            refine lv_iload hx hb dL_merge_179 (lv_at hl 5 rfl) ?_
                            refine lv_aload_n hx hb dL_merge_181 rfl (lv_at hl 11 rfl) ?_
                            refine lv_iload hx hb dL_merge_182 (lv_at hl 0 rfl) ?_
                            obtain ⟨c_184, hm⟩ := ck hm
                            refine va_iald hx hb hK hP 3 0 rfl rfl c_184 dL_merge_184 ?_
                            obtain ⟨vx185_11, h_185, hm⟩ := ob hm
                            refine z_callSWv (wc := (w1 cI a5 64 vxl127_2)) (w1 := (w1 cI a5 64 vx185_11)) (ws := (w7 cI aa a5 a6 vm vr vh vl vql18 vxl127_2 vyl18)) (ws' := (w7 cI aa a5 a6 vm vr vh vl vql18 vx185_11 vyl18)) (As := [.ref a5, .int x7, .int x7_22, .int (vl (Int32.toNatClampNeg x12_22))]) (rest := []) ⟨hx, hb, hml, hown, hts⟩ (c_L_sorts l dC dI cI a5 64 vxl127_2 F x7 x7_22 (vl (Int32.toNatClampNeg x12_22)) H.size vx185_11 h_185) (va_cwS 4 hts gL_merge_L_sorts rfl rfl rfl ks_L_sorts ⟨Nat.le_of_ble_eq_true rfl, Nat.le_of_ble_eq_true rfl⟩) hK hP hD hS hA (pj7_1vx cI aa a5 a6 vm vr vh vl vql18 vxl127_2 vyl18 vx185_11) ((pa1 cI a5 64 vx185_11).trans (pa1 cI a5 64 vxl127_2).symm) rfl hl.1 rfl (Nat.le_of_ble_eq_true rfl) dL_merge_185 ⟨Nat.le_of_ble_eq_true rfl, Nat.le_of_ble_eq_true rfl⟩ (fun H locs hP hD hS => ?_)
                            obtain ⟨x7_26, e_x7_26⟩ : ∃ y : Int32, y = x7_22 + 1 := ⟨_, rfl⟩
                            have hm := bnd_e hm e_x7_26
                            refine lv_iinc (v := x7_26) (lv' := [(7, .int x7_26), (12, .int x12_22), (11, .int x11_13), (10, .int x7), (9, .int y53_2), (8, .int x8), (6, .ref a6), (5, .ref a5), (0, .ref (aa 1)), (1, .ref (aa 0)), (2, .ref (aa 2)), (3, .ref (aa 3)), (4, .ref (aa 4))]) hx hb dL_merge_188 hl (k := 5) rfl (by rw [e_x7_26]; rfl) (by decide) rfl (fun ls hl => ?_)
                            refine lv_iconst (v := 1) hx hb dL_merge_191 (by decide) ?_
                            refine lv_istore (lv' := [(11, .int 1), (7, .int x7_26), (12, .int x12_22), (10, .int x7), (9, .int y53_2), (8, .int x8), (6, .ref a6), (5, .ref a5), (0, .ref (aa 1)), (1, .ref (aa 0)), (2, .ref (aa 2)), (3, .ref (aa 3)), (4, .ref (aa 4))]) hx hb dL_merge_192 hl (by decide) rfl (fun ls hl => ?_)
                            obtain ⟨x12_28, e_x12_28⟩ : ∃ y : Int32, y = x12_22 + 1 := ⟨_, rfl⟩
                            have hm := bnd_e hm e_x12_28
                            refine lv_iinc (v := x12_28) (lv' := [(12, .int x12_28), (11, .int 1), (7, .int x7_26), (10, .int x7), (9, .int y53_2), (8, .int x8), (6, .ref a6), (5, .ref a5), (0, .ref (aa 1)), (1, .ref (aa 0)), (2, .ref (aa 2)), (3, .ref (aa 3)), (4, .ref (aa 4))]) hx hb dL_merge_194 hl (k := 2) rfl (by rw [e_x12_28]; rfl) (by decide) rfl (fun ls hl => ?_)
                            refine lv_goto (tgt := 127) hx hb dL_merge_197 (by decide) ?_
                            exact ih_127 x12_28 1 x7_26 vx185_11 hm _ _ hP hD hS _ (lv_sub hl [0, 1, 3, 4, 5, 2, 6, 7, 8, 9, 10, 11, 12] rfl)
                          · have hm := it_f hm c_169
                            refine lv_goto (tgt := 194) hx hb dL_merge_172 (by decide) ?_
                            obtain ⟨x12_29, e_x12_29⟩ : ∃ y : Int32, y = x12_22 + 1 := ⟨_, rfl⟩
                            have hm := bnd_e hm e_x12_29
                            refine lv_iinc (v := x12_29) (lv' := [(12, .int x12_29), (11, .int x11_13), (10, .int x7), (9, .int y53_2), (8, .int x8), (7, .int x7_22), (6, .ref a6), (5, .ref a5), (0, .ref (aa 1)), (1, .ref (aa 0)), (2, .ref (aa 2)), (3, .ref (aa 3)), (4, .ref (aa 4))]) hx hb dL_merge_194 hl (k := 0) rfl (by rw [e_x12_29]; rfl) (by decide) rfl (fun ls hl => ?_)
                            refine lv_goto (tgt := 127) hx hb dL_merge_197 (by decide) ?_
                            exact ih_127 x12_29 x11_13 x7_22 vxl127_2 hm _ _ hP hD hS _ (lv_sub hl [0, 1, 2, 3, 4, 5, 6, 7, 8, 9, 10, 11, 12] rfl)
              exact L_127 F 0 x11_12 x7_21 vxx66_2 hq_127 _ _ hP hD hS _ (lv_sub hl [0, 1, 2, 3, 4, 5, 6, 7, 8, 9, 10, 11, 12] rfl)
            have L_66 : ∀ (n : Nat) (x12_20 : Int32) (x11_10 : Int32) (x7_19 : Int32) (vxl66_2 : Nat → Int32), L_merge_L66 vm vr y53_2 n x12_20 x11_10 x7_19 vxl66_2 = some z_66 → ∀ (H : Heap) (locs : List Loc), va_P (dC, dI) vwCl (w7 cI aa a5 a6 vm vr vh vl vql18 vxl66_2 vyl18) H → va_D A (w7 cI aa a5 a6 vm vr vh vl vql18 vxl66_2 vyl18) → va_S A s.heap H locs → ∀ (ls : Array Slot), lv_has ls 13 [(12, .int x12_20), (11, .int x11_10), (10, .int x7), (9, .int y53_2), (8, .int x8), (7, .int x7_19), (6, .ref a6), (5, .ref a5), (0, .ref (aa 1)), (1, .ref (aa 0)), (2, .ref (aa 2)), (3, .ref (aa 3)), (4, .ref (aa 4))] → W p l e (headSpec wsL_merge ({ frames := 2, cells := 2, slots := 128, locals := 53 } : Room)).room s m ([.ref (aa 1), .ref (aa 0), .ref (aa 2), .ref (aa 3), .ref (aa 4)] : List Value).toArray below meth c H locs 2 128 (MQ below (zQv (dC, dI) (w5 cI aa u_vm u_vr u_vh vl u_vq) [(cI, .int)] A) ([.ref (aa 1), .ref (aa 0), .ref (aa 2), .ref (aa 3), .ref (aa 4)] : List Value).toArray s 2 128 A) (F0 m 66 ls []) := by
              intro n
              induction n with
              | zero => intro x12_20 x11_10 x7_19 vxl66_2 hm; cases hm
              | succ n ih_66 =>
                intro x12_20 x11_10 x7_19 vxl66_2 hm H locs hP hD hS ls hl
                refine lv_iload hx hb dL_merge_66 (lv_at hl 0 rfl) ?_
                refine lv_iload hx hb dL_merge_68 (lv_at hl 3 rfl) ?_
                refine lv_icmp_ge (tgt := 124) hx hb dL_merge_70 (by decide) (fun c_70 => ?_) (fun c_70 => ?_)
                · have hm := it_t hm c_70
                  exact K_66 x11_10 x7_19 vxl66_2 (o2 hm) _ _ hP hD hS _ (lv_sub hl [1, 2, 3, 4, 5, 6, 7, 8, 9, 10, 11, 12] rfl)
                · have hm := it_f hm c_70
                  refine lv_iload hx hb dL_merge_73 (lv_at hl 1 rfl) ?_
                  refine lv_aload_n hx hb dL_merge_75 rfl (lv_at hl 9 rfl) ?_
                  refine lv_iload hx hb dL_merge_76 (lv_at hl 0 rfl) ?_
                  obtain ⟨c_78, hm⟩ := ck hm
                  refine va_iald hx hb hK hP 0 0 rfl rfl c_78 dL_merge_78 ?_
                  refine lv_iconst (v := 1) hx hb dL_merge_79 (by decide) ?_
                  obtain ⟨y88_2, e_y88_2⟩ : ∃ y : Int32, y = (if (vm (Int32.toNatClampNeg x12_20)) = 1 then 1 else 0) := ⟨_, rfl⟩
                  have hm := bnd_e hm e_y88_2
                  have J_88 : W p l e (headSpec wsL_merge ({ frames := 2, cells := 2, slots := 128, locals := 53 } : Room)).room s m ([.ref (aa 1), .ref (aa 0), .ref (aa 2), .ref (aa 3), .ref (aa 4)] : List Value).toArray below meth c H locs 2 128 (MQ below (zQv (dC, dI) (w5 cI aa u_vm u_vr u_vh vl u_vq) [(cI, .int)] A) ([.ref (aa 1), .ref (aa 0), .ref (aa 2), .ref (aa 3), .ref (aa 4)] : List Value).toArray s 2 128 A) (F0 m 88 ls [.int y88_2, .int x11_10]) := by
                    refine lv_ior hx hb dL_merge_88 ?_
                    refine lv_topi (fun x11_11 e_x11_11 => ?_)
                    have hm := bnd_e hm e_x11_11
                    refine lv_istore (lv' := [(11, .int x11_11), (12, .int x12_20), (10, .int x7), (9, .int y53_2), (8, .int x8), (7, .int x7_19), (6, .ref a6), (5, .ref a5), (0, .ref (aa 1)), (1, .ref (aa 0)), (2, .ref (aa 2)), (3, .ref (aa 3)), (4, .ref (aa 4))]) hx hb dL_merge_89 hl (by decide) rfl (fun ls hl => ?_)
                    refine lv_aload_n hx hb dL_merge_91 rfl (lv_at hl 9 rfl) ?_
                    refine lv_iload hx hb dL_merge_92 (lv_at hl 1 rfl) ?_
                    obtain ⟨c_94, hm⟩ := ck hm
                    refine va_iald hx hb hK hP 0 0 rfl rfl c_94 dL_merge_94 ?_
                    obtain ⟨z_107, hq_107, hm⟩ := ob hm
                    have J_107 : ∀ (vxj107_2 : Nat → Int32), z_107 = vxj107_2 → ∀ (H : Heap) (locs : List Loc), va_P (dC, dI) vwCl (w7 cI aa a5 a6 vm vr vh vl vql18 vxj107_2 vyl18) H → va_D A (w7 cI aa a5 a6 vm vr vh vl vql18 vxj107_2 vyl18) → va_S A s.heap H locs → W p l e (headSpec wsL_merge ({ frames := 2, cells := 2, slots := 128, locals := 53 } : Room)).room s m ([.ref (aa 1), .ref (aa 0), .ref (aa 2), .ref (aa 3), .ref (aa 4)] : List Value).toArray below meth c H locs 2 128 (MQ below (zQv (dC, dI) (w5 cI aa u_vm u_vr u_vh vl u_vq) [(cI, .int)] A) ([.ref (aa 1), .ref (aa 0), .ref (aa 2), .ref (aa 3), .ref (aa 4)] : List Value).toArray s 2 128 A) (F0 m 107 ls []) := by
                      intro vxj107_2 ez H locs hP hD hS
                      rw [ez] at hm
                      refine lv_iload hx hb dL_merge_107 (lv_at hl 5 rfl) ?_
                      refine lv_iconst (v := 1) hx hb dL_merge_109 (by decide) ?_
                      refine lv_aload_n hx hb dL_merge_110 rfl (lv_at hl 9 rfl) ?_
                      refine lv_iload hx hb dL_merge_111 (lv_at hl 1 rfl) ?_
                      obtain ⟨c_113, hm⟩ := ck hm
                      refine va_iald hx hb hK hP 0 0 rfl rfl c_113 dL_merge_113 ?_
                      refine lv_isub hx hb dL_merge_114 ?_
                      refine lv_iadd hx hb dL_merge_115 ?_
                      refine lv_topi (fun x7_20 e_x7_20 => ?_)
                      have hm := bnd_e hm e_x7_20
                      refine lv_istore (lv' := [(7, .int x7_20), (11, .int x11_11), (12, .int x12_20), (10, .int x7), (9, .int y53_2), (8, .int x8), (6, .ref a6), (5, .ref a5), (0, .ref (aa 1)), (1, .ref (aa 0)), (2, .ref (aa 2)), (3, .ref (aa 3)), (4, .ref (aa 4))]) hx hb dL_merge_116 hl (by decide) rfl (fun ls hl => ?_)
                      obtain ⟨x12_21, e_x12_21⟩ : ∃ y : Int32, y = x12_20 + 1 := ⟨_, rfl⟩
                      have hm := bnd_e hm e_x12_21
                      refine lv_iinc (v := x12_21) (lv' := [(12, .int x12_21), (7, .int x7_20), (11, .int x11_11), (10, .int x7), (9, .int y53_2), (8, .int x8), (6, .ref a6), (5, .ref a5), (0, .ref (aa 1)), (1, .ref (aa 0)), (2, .ref (aa 2)), (3, .ref (aa 3)), (4, .ref (aa 4))]) hx hb dL_merge_118 hl (k := 2) rfl (by rw [e_x12_21]; rfl) (by decide) rfl (fun ls hl => ?_)
                      refine lv_goto (tgt := 66) hx hb dL_merge_121 (by decide) ?_
                      exact ih_66 x12_21 x11_11 x7_20 vxj107_2 hm _ _ hP hD hS _ (lv_sub hl [0, 2, 3, 4, 5, 1, 6, 7, 8, 9, 10, 11, 12] rfl)
                    have hm := hq_107
                    refine lv_if_ne (tgt := 107) hx hb dL_merge_95 (by decide) (fun c_95 => ?_) (fun c_95 => ?_)
                    · have hm := it_f hm c_95
                      exact J_107 vxl66_2 (o2 hm) _ _ hP hD hS
                    · have hm := it_t hm c_95
                      refine lv_aload hx hb dL_merge_98 (lv_at hl 7 rfl) ?_
                      refine lv_iload hx hb dL_merge_100 (lv_at hl 5 rfl) ?_
                      refine lv_aload_n hx hb dL_merge_102 rfl (lv_at hl 8 rfl) ?_
                      refine lv_iload hx hb dL_merge_103 (lv_at hl 1 rfl) ?_
                      obtain ⟨c_105, hm⟩ := ck hm
                      refine va_iald hx hb hK hP 1 0 rfl rfl c_105 dL_merge_105 ?_
                      obtain ⟨c_106, hm⟩ := ck hm
                      refine va_iast hx hb hK hP hD hS 5 0 rfl rfl c_106 dL_merge_106 (fun H locs hP hD hS => ?_)
                      have hP : va_P (dC, dI) vwCl (w7 cI aa a5 a6 vm vr vh vl vql18 (upd vxl66_2 (Int32.toNatClampNeg x7_19) (vr (Int32.toNatClampNeg x12_20))) vyl18) H := hP
                      have hD : va_D A (w7 cI aa a5 a6 vm vr vh vl vql18 (upd vxl66_2 (Int32.toNatClampNeg x7_19) (vr (Int32.toNatClampNeg x12_20))) vyl18) := hD
                      exact J_107 (upd vxl66_2 (Int32.toNatClampNeg x7_19) (vr (Int32.toNatClampNeg x12_20))) (o2 hm) _ _ hP hD hS
                  refine lv_icmp_ne (tgt := 87) hx hb dL_merge_80 (by decide) (fun c_80 => ?_) (fun c_80 => ?_)
                  · refine lv_iconst (v := 0) hx hb dL_merge_87 (by decide) ?_
                    have e9 : y88_2 = 0 := by rw [e_y88_2, if_neg c_80]
                    rw [e9] at J_88
                    exact J_88
                  · refine lv_iconst (v := 1) hx hb dL_merge_83 (by decide) ?_
                    refine lv_goto (tgt := 88) hx hb dL_merge_84 (by decide) ?_
                    have e9 : y88_2 = 1 := by rw [e_y88_2, if_pos c_80]
                    rw [e9] at J_88
                    exact J_88
            exact L_66 F x8 0 x7 vxl18 hq_66 _ _ hP hD hS _ (lv_sub hl [0, 1, 2, 3, 4, 5, 6, 7, 8, 9, 10, 11, 12] rfl)
          have hm := hq_53
          refine lv_if_ne (tgt := 43) hx hb dL_merge_36 (by decide) (fun c_36 => ?_) (fun c_36 => ?_)
          · have hm := it_f hm c_36
            refine lv_aload_n hx hb dL_merge_43 rfl (lv_at hl 6 rfl) ?_
            refine lv_iload hx hb dL_merge_44 (lv_at hl 0 rfl) ?_
            refine lv_aload hx hb dL_merge_46 (lv_at hl 8 rfl) ?_
            refine lv_iconst (v := 0) hx hb dL_merge_48 (by decide) ?_
            obtain ⟨c_49, hm⟩ := ck hm
            refine va_iald hx hb hK hP 4 0 rfl rfl c_49 dL_merge_49 ?_
            obtain ⟨r50_2, h_50, hm⟩ := ob hm
            refine z_callSi (As := [.ref (aa 2), .int x8, .int (vql18 (Int32.toNatClampNeg 0))]) (rest := []) ⟨hx, hb, hml, hown, hts⟩ (c_L_behind l dC dI cI (aa 2) 64 vh F x8 (vql18 (Int32.toNatClampNeg 0)) r50_2 h_50) (va_cwS 3 hts gL_merge_L_behind rfl rfl rfl ks_L_behind ⟨Nat.le_of_ble_eq_true rfl, Nat.le_of_ble_eq_true rfl⟩) hK (z_mid (pj7_1vh cI aa a5 a6 vm vr vh vl vql18 vxl18 vyl18 vh) hP) rfl hl.1 rfl (Nat.le_of_ble_eq_true rfl) dL_merge_50 ⟨Nat.le_of_ble_eq_true rfl, Nat.le_of_ble_eq_true rfl⟩ ?_
            exact J_53 r50_2 (o2 hm)
          · have hm := it_t hm c_36
            refine lv_iconst (v := 0) hx hb dL_merge_39 (by decide) ?_
            refine lv_goto (tgt := 53) hx hb dL_merge_40 (by decide) ?_
            exact J_53 0 (o2 hm)
  exact L_18 F 0 0 vq (fun _ => 0) (fun _ => 0) hq_18 _ _ hP hD hS _ (lv_sub hl [0, 1, 2, 3, 4, 5, 6, 7, 8] rfl)
