set_option maxHeartbeats 4000000 in
set_option maxRecDepth 100000 in
theorem zKn {b : Nat} {s : State} (hts : ∀ w ∈ lw_tbl, w.before #[Value.ref b] s = true) : ∃ (dC : Nat → ClassId) (dI : Nat → Nat → Nat), va_K (dC, dI) vwCl [] s := by
  have htw : ∀ w ∈ wsL_law, w.before #[Value.ref b] s = true := fun w h => hts w (wsL_law_in w h)
  obtain ⟨c0, i0, hk0⟩ := u_known (C := RX0) (T := TX0) (N := 2) (n := 2) hts inX0 (hts (.instantiable RX0 2) (List.mem_of_getElem? (i := 77) (by decide +kernel)))
  obtain ⟨c1, i1, hk1⟩ := u_known (C := RX1) (T := TX1) (N := 7) (n := 7) hts inX1 (hts (.instantiable RX1 7) (List.mem_of_getElem? (i := 94) (by decide +kernel)))
  obtain ⟨c2, i2, hk2⟩ := u_known (C := RX2) (T := TX2) (N := 15) (n := 15) hts inX2 (hts (.instantiable RX2 15) (List.mem_of_getElem? (i := 69) (by decide +kernel)))
  obtain ⟨c3, i3, hk3⟩ := u_known (C := RX3) (T := TX3) (N := 18) (n := 18) hts inX3 (hts (.instantiable RX3 18) (List.mem_of_getElem? (i := 645) (by decide +kernel)))
  refine ⟨fun k => if k = 0 then c0 else if k = 1 then c1 else if k = 2 then c2 else c3, fun k => if k = 0 then i0 else if k = 1 then i1 else if k = 2 then i2 else i3, fun k q hq => ?_, fun k q h => by simp at h⟩
  match k, hq with
  | 0, hq => cases hq; exact hk0
  | 1, hq => cases hq; exact hk1
  | 2, hq => cases hq; exact hk2
  | 3, hq => cases hq; exact hk3
  | k + 4, hq => simp [vwCl] at hq
set_option maxHeartbeats 4000000 in
set_option maxRecDepth 100000 in
/-- the law from its entry -/
theorem whole_start {p : Program} {e : Env} {s : State} {m : MethodId} {below : List Frame} {meth : Method} {c : Code} (l : Launch) (hflags : l.flags = flags0) {b L : Nat} {xs : Nat → Int32} (hL : L ≤ 2048) (C0 : lw_At p s m meth c b L xs) : W p l e room_1 s m #[Value.ref b] below meth c s.heap [] 0 0 (lw_Z below #[Value.ref b] s) (entryFrame m ([Value.ref b] : List Value).toArray 8) := by
  obtain ⟨hx, hb, hr, hml, hown, hts, hX, hbl, hlocks, hgv⟩ := id C0
  have hown : s.vm.findClass RL = some m.cls := hown
  have htw : ∀ w ∈ wsL_law, w.before #[Value.ref b] s = true := fun w h => hts w (wsL_law_in w h)
  have hl9 : l.stackTraces = false := by
    show (!l.flags.contains noTraceFlag) = false
    rw [hflags]
    decide +kernel
  have hA : ∀ q : Nat, s.heap.size ≤ q → (fun q : Nat => s.heap.size ≤ q) q := fun _ h => h
  obtain ⟨sa, hV⟩ := zV_start hts hgv
  have hNc := zNc_start hgv
  have hNe := zNest_start hts
  obtain ⟨dC, dI, hK⟩ := zKn hts
  have hS : va_S (fun q : Nat => s.heap.size ≤ q) s.heap s.heap [] := va_S.rf
  have hP : va_P (dC, dI) vwCl [] s.heap := fun k q h => by simp at h
  have hD : va_D (fun q : Nat => s.heap.size ≤ q) [] := ⟨fun i j p q h => by simp at h, fun k q h => by simp at h⟩
  have hl := lv_entry ([.ref b]) (n := 8) (Nat.le_of_ble_eq_true rfl)
  rw [lg_entry_eq]
  generalize (lg_sl ([.ref b]) ++ List.replicate (8 - (lg_sl ([.ref b])).length) Slot.unset).toArray = ls at hl ⊢
  have hl : lv_has ls 8 [(0, .ref b)] := hl
  generalize eL : ([] : List Loc) = locs at hS ⊢
  obtain ⟨H, eH⟩ : ∃ z : Heap, z = s.heap := ⟨_, rfl⟩
  have hP : va_P (dC, dI) vwCl [] H := by rw [eH]; exact hP
  have hS : va_S (fun q : Nat => s.heap.size ≤ q) s.heap H locs := by rw [eH]; exact hS
  refine z_heap eH ?_
  refine va_new (ci := 2) (fs := [.null, .null, .null, .null, .null, .null, .null, .null, .null, .int 0, .int 0, .int 0, .int 0, .int 0, .int 0]) (C := RX2) (T := TX2) (N := 15) hx hb hts inX2 tyX2 tyX2_ok hown (hts (.classLink RL 8 RX2) (List.mem_of_getElem? (i := 68) (by decide +kernel))) (hts (.instantiable RX2 15) (List.mem_of_getElem? (i := 69) (by decide +kernel))) (hts (.initialized RX2) (List.mem_of_getElem? (i := 56) (by decide +kernel))) hK hP hD hS hA rfl (fun j hj => by rcases (show j = 0 ∨ j = 1 ∨ j = 2 ∨ j = 3 ∨ j = 4 ∨ j = 5 ∨ j = 6 ∨ j = 7 ∨ j = 8 ∨ j = 9 ∨ j = 10 ∨ j = 11 ∨ j = 12 ∨ j = 13 ∨ j = 14 by omega) with rfl | rfl | rfl | rfl | rfl | rfl | rfl | rfl | rfl | rfl | rfl | rfl | rfl | rfl | rfl <;> rfl) (Nat.le_of_ble_eq_true rfl) (Nat.le_of_ble_eq_true rfl) dL_law_0 (fun q0 H hP hD hS => ?_)
  have hP : va_P (dC, dI) vwCl [(q0, .inr (2, [.null, .null, .null, .null, .null, .null, .null, .null, .null, .int 0, .int 0, .int 0, .int 0, .int 0, .int 0]))] H := hP
  have hD : va_D (fun q : Nat => s.heap.size ≤ q) [(q0, .inr (2, [.null, .null, .null, .null, .null, .null, .null, .null, .null, .int 0, .int 0, .int 0, .int 0, .int 0, .int 0]))] := hD
  refine W.widen (k := 1) (n := 15) (Nat.le_of_ble_eq_true rfl) (Nat.le_of_ble_eq_true rfl) ?_
  refine lv_dup hx hb dL_law_3 rfl ?_
  have hFc := va_free (wc := [(q0, .inr (2, [.null, .null, .null, .null, .null, .null, .null, .null, .null, .int 0, .int 0, .int 0, .int 0, .int 0, .int 0]))]) hD hS hA [0] rfl
  refine va_callv (va_runI (As := []) (rest := [.ref q0]) ⟨hx, hb, hml, hown, htw⟩ (c_X2_init l dC dI q0 H.size) (cwI 0 htw gL_law_X2_init rfl rfl rfl (hts (.initialized RX2) (List.mem_of_getElem? (i := 56) (by decide +kernel))) (hts (.methodLink RL 60 yX2_init) (List.mem_of_getElem? (i := 70) (by decide +kernel))) (hts (.instanceMethod yX2_init) (List.mem_of_getElem? (i := 71) (by decide +kernel))) rfl (by decide +kernel) ⟨(Nat.le_of_ble_eq_true rfl), (Nat.le_of_ble_eq_true rfl)⟩) (z_preIn hK hP hD hNe) rfl rfl hl.1 rfl (lv_room (Nat.le_of_ble_eq_true rfl)) dL_law_4 ⟨(Nat.le_of_ble_eq_true rfl), (Nat.le_of_ble_eq_true rfl)⟩) hS (fun q _ h => hFc q h) hFc (fun u t H1 locs ht hvm hw hB hz1 hk1 hS => ?_)
  obtain ⟨cI, ad⟩ := u
  obtain ⟨hP1, hK1, hD1⟩ := hB
  rw [ht] at hP1
  have hK1 := va_K.moved hvm.symm hK1
  have hw : ad 0 = q0 := hw
  subst hw
  have hP1 : va_P (dC, dI) vwCl (wL cI ad ((fun _ => 0), 0) ((fun _ => 0), 0) ((fun _ => 0), 0) ((fun _ => 0), 0) ((fun _ => 0), 0) ((fun _ => 0), 0) (0, 0, 0, 0, 1, 1, 0) ((fun _ => 0), 0) ((fun _ => 0), 0) 2 4 0 0 0 0) H1 := hP1
  obtain ⟨hP, hD⟩ := va_join (wr := []) (w1 := (wL cI ad ((fun _ => 0), 0) ((fun _ => 0), 0) ((fun _ => 0), 0) ((fun _ => 0), 0) ((fun _ => 0), 0) ((fun _ => 0), 0) (0, 0, 0, 0, 1, 1, 0) ((fun _ => 0), 0) ((fun _ => 0), 0) 2 4 0 0 0 0)) hP hD [0] [] rfl rfl (by decide) (by decide) hk1 hFc hP1 hD1
  have hK : va_K (dC, dI) vwCl [(cI, .int)] s := hK1
  generalize H1 = H at hP hS ⊢
  have hP : va_P (dC, dI) vwCl (wL cI ad ((fun _ => 0), 0) ((fun _ => 0), 0) ((fun _ => 0), 0) ((fun _ => 0), 0) ((fun _ => 0), 0) ((fun _ => 0), 0) (0, 0, 0, 0, 1, 1, 0) ((fun _ => 0), 0) ((fun _ => 0), 0) 2 4 0 0 0 0) H := hP
  have hD : va_D (fun q : Nat => s.heap.size ≤ q) (wL cI ad ((fun _ => 0), 0) ((fun _ => 0), 0) ((fun _ => 0), 0) ((fun _ => 0), 0) ((fun _ => 0), 0) ((fun _ => 0), 0) (0, 0, 0, 0, 1, 1, 0) ((fun _ => 0), 0) ((fun _ => 0), 0) 2 4 0 0 0 0) := hD
  refine W.widen (k := 18) (n := 2086) (Nat.le_of_ble_eq_true rfl) (Nat.le_of_ble_eq_true rfl) ?_
  refine lv_astore_n (lv' := [(1, .ref (ad 0)), (0, .ref b)]) hx hb dL_law_7 rfl hl (by decide) rfl (fun ls hl => ?_)
  refine va_new (ci := 3) (fs := [.int 0, .int 0, .int 0, .null, .null, .int 0, .null, .int 0, .null, .int 0, .int 0, .int 0, .int 0, .null, .null, .int 0, .long 0, .long 0]) (C := RX3) (T := TX3) (N := 18) hx hb hts inX3 tyX3 tyX3_ok hown (hts (.classLink RL 61 RX3) (List.mem_of_getElem? (i := 644) (by decide +kernel))) (hts (.instantiable RX3 18) (List.mem_of_getElem? (i := 645) (by decide +kernel))) (hts (.initialized RX3) (List.mem_of_getElem? (i := 60) (by decide +kernel))) hK hP hD hS hA rfl (fun j hj => by rcases (show j = 0 ∨ j = 1 ∨ j = 2 ∨ j = 3 ∨ j = 4 ∨ j = 5 ∨ j = 6 ∨ j = 7 ∨ j = 8 ∨ j = 9 ∨ j = 10 ∨ j = 11 ∨ j = 12 ∨ j = 13 ∨ j = 14 ∨ j = 15 ∨ j = 16 ∨ j = 17 by omega) with rfl | rfl | rfl | rfl | rfl | rfl | rfl | rfl | rfl | rfl | rfl | rfl | rfl | rfl | rfl | rfl | rfl | rfl <;> rfl) (Nat.le_of_ble_eq_true rfl) (Nat.le_of_ble_eq_true rfl) dL_law_8 (fun p0 H hP hD hS => ?_)
  have hP : va_P (dC, dI) vwCl ((wL cI ad ((fun _ => 0), 0) ((fun _ => 0), 0) ((fun _ => 0), 0) ((fun _ => 0), 0) ((fun _ => 0), 0) ((fun _ => 0), 0) (0, 0, 0, 0, 1, 1, 0) ((fun _ => 0), 0) ((fun _ => 0), 0) 2 4 0 0 0 0) ++ [(p0, .inr (3, [.int 0, .int 0, .int 0, .null, .null, .int 0, .null, .int 0, .null, .int 0, .int 0, .int 0, .int 0, .null, .null, .int 0, .long 0, .long 0]))]) H := hP
  have hD : va_D (fun q : Nat => s.heap.size ≤ q) ((wL cI ad ((fun _ => 0), 0) ((fun _ => 0), 0) ((fun _ => 0), 0) ((fun _ => 0), 0) ((fun _ => 0), 0) ((fun _ => 0), 0) (0, 0, 0, 0, 1, 1, 0) ((fun _ => 0), 0) ((fun _ => 0), 0) 2 4 0 0 0 0) ++ [(p0, .inr (3, [.int 0, .int 0, .int 0, .null, .null, .int 0, .null, .int 0, .null, .int 0, .int 0, .int 0, .int 0, .null, .null, .int 0, .long 0, .long 0]))]) := hD
  refine W.widen (k := 19) (n := 2104) (Nat.le_of_ble_eq_true rfl) (Nat.le_of_ble_eq_true rfl) ?_
  refine lv_dup hx hb dL_law_11 rfl ?_
  have hPc := hP.sub (ws' := [(p0, .inr (3, [.int 0, .int 0, .int 0, .null, .null, .int 0, .null, .int 0, .null, .int 0, .int 0, .int 0, .int 0, .null, .null, .int 0, .long 0, .long 0]))]) [18] rfl
  have hDc := hD.sub (ws' := [(p0, .inr (3, [.int 0, .int 0, .int 0, .null, .null, .int 0, .null, .int 0, .null, .int 0, .int 0, .int 0, .int 0, .null, .null, .int 0, .long 0, .long 0]))]) [18] (by decide) rfl
  have hFc := va_free (wc := [(p0, .inr (3, [.int 0, .int 0, .int 0, .null, .null, .int 0, .null, .int 0, .null, .int 0, .int 0, .int 0, .int 0, .null, .null, .int 0, .long 0, .long 0]))]) hD hS hA [18] rfl
  refine va_callv (va_runI (As := []) (rest := [.ref p0]) ⟨hx, hb, hml, hown, htw⟩ (c_X3_init l dC dI p0 H.size) (cwI 0 htw gL_law_X3_init rfl rfl rfl (hts (.initialized RX3) (List.mem_of_getElem? (i := 60) (by decide +kernel))) (hts (.methodLink RL 63 yX3_init) (List.mem_of_getElem? (i := 646) (by decide +kernel))) (hts (.instanceMethod yX3_init) (List.mem_of_getElem? (i := 647) (by decide +kernel))) rfl (by decide +kernel) ⟨(Nat.le_of_ble_eq_true rfl), (Nat.le_of_ble_eq_true rfl)⟩) (z_preI (hK.sub (tys' := []) [] rfl) hPc hDc) rfl rfl hl.1 rfl (lv_room (Nat.le_of_ble_eq_true rfl)) dL_law_12 ⟨(Nat.le_of_ble_eq_true rfl), (Nat.le_of_ble_eq_true rfl)⟩) hS (fun q _ h => hFc q h) hFc (fun u t H1 locs ht hvm hw hB hz1 hk1 hS => ?_)
  obtain ⟨cI2, cZ, md⟩ := u
  obtain ⟨hP1, hK1, hD1⟩ := hB
  rw [ht] at hP1
  have hK1 := va_K.moved hvm.symm hK1
  have hK1 : va_K (dC, dI) vwCl [(cI2, .int), (cZ, .boolean)] s := hK1
  have hw : md 0 = p0 := hw
  subst hw
  have hP1 : va_P (dC, dI) vwCl (wM cI2 cZ md 0 2 4 (fun _ => 0) (fun _ => 0) 0 (fun _ => 0) 0 (fun _ => 0) 0 0 0 0 (fun _ => 0) (fun _ => 0) 0 0 0) H1 := hP1
  have hD1 : va_D _ (wM cI2 cZ md 0 2 4 (fun _ => 0) (fun _ => 0) 0 (fun _ => 0) 0 (fun _ => 0) 0 0 0 0 (fun _ => 0) (fun _ => 0) 0 0 0) := hD1
  have eI : cI2 = cI := z_arrEq2 hK (hK1.sub (tys' := [(cI2, .int)]) [0] rfl)
  rw [eI] at hP1 hD1 hK1
  obtain ⟨hP, hD⟩ := va_join (wr := (wL cI ad ((fun _ => 0), 0) ((fun _ => 0), 0) ((fun _ => 0), 0) ((fun _ => 0), 0) ((fun _ => 0), 0) ((fun _ => 0), 0) (0, 0, 0, 0, 1, 1, 0) ((fun _ => 0), 0) ((fun _ => 0), 0) 2 4 0 0 0 0)) (w1 := (wM cI cZ md 0 2 4 (fun _ => 0) (fun _ => 0) 0 (fun _ => 0) 0 (fun _ => 0) 0 0 0 0 (fun _ => 0) (fun _ => 0) 0 0 0)) hP hD [18] [0, 1, 2, 3, 4, 5, 6, 7, 8, 9, 10, 11, 12, 13, 14, 15, 16, 17] rfl rfl (by decide) (by decide) hk1 hFc hP1 hD1
  have hK := hK1
  generalize H1 = H at hP hS ⊢
  refine W.widen (k := 25) (n := 3402) (Nat.le_of_ble_eq_true rfl) (Nat.le_of_ble_eq_true rfl) ?_
  refine lv_astore_n (lv' := [(2, .ref (md 0)), (1, .ref (ad 0)), (0, .ref b)]) hx hb dL_law_15 rfl hl (by decide) rfl (fun ls hl => ?_)
  refine lv_iconst (v := 1) hx hb dL_law_16 (by decide) ?_
  refine va_newa (atype := .long) (ty := .long) (N' := 1) (a0 := (1, .inr (.inl (fun _ => 0)))) hx hb (hts (.arrayClass .long) (List.mem_of_getElem? (i := 937) (by decide +kernel))) rfl hK hP hD hS hA (fun _ => rfl) (by decide) (by decide) (Nat.le_of_ble_eq_true rfl) (Nat.le_of_ble_eq_true rfl) (Nat.le_of_ble_eq_true rfl) dL_law_17 (fun ao cJ H hK hP hD hS => ?_)
  refine lv_astore_n (lv' := [(3, .ref ao), (2, .ref (md 0)), (1, .ref (ad 0)), (0, .ref b)]) hx hb dL_law_19 rfl hl (by decide) rfl (fun ls hl => ?_)
  refine lv_iconst (v := 0) hx hb dL_law_20 (by decide) ?_
  refine lv_istore (lv' := [(4, .int 0), (3, .ref ao), (2, .ref (md 0)), (1, .ref (ad 0)), (0, .ref b)]) hx hb dL_law_21 hl (by decide) rfl (fun ls hl => ?_)
  have hP9 := hP.sub (ws' := (wA cI cZ cJ ad md ao 0 2 4 (fun _ => 0) (fun _ => 0) 0 (fun _ => 0) 0 (fun _ => 0) 0 0 0 0 (fun _ => 0) (fun _ => 0) 0 0 0 ((fun _ => 0), 0) ((fun _ => 0), 0) ((fun _ => 0), 0) ((fun _ => 0), 0) ((fun _ => 0), 0) ((fun _ => 0), 0) (0, 0, 0, 0, 1, 1, 0) ((fun _ => 0), 0) ((fun _ => 0), 0) 2 4 0 0 0 0 (fun _ => 0))) [18, 19, 20, 21, 22, 23, 24, 0, 1, 2, 3, 4, 5, 6, 7, 8, 9, 10, 11, 12, 13, 14, 15, 16, 17, 25] rfl
  have hD9 := hD.sub (ws' := (wA cI cZ cJ ad md ao 0 2 4 (fun _ => 0) (fun _ => 0) 0 (fun _ => 0) 0 (fun _ => 0) 0 0 0 0 (fun _ => 0) (fun _ => 0) 0 0 0 ((fun _ => 0), 0) ((fun _ => 0), 0) ((fun _ => 0), 0) ((fun _ => 0), 0) ((fun _ => 0), 0) ((fun _ => 0), 0) (0, 0, 0, 0, 1, 1, 0) ((fun _ => 0), 0) ((fun _ => 0), 0) 2 4 0 0 0 0 (fun _ => 0))) [18, 19, 20, 21, 22, 23, 24, 0, 1, 2, 3, 4, 5, 6, 7, 8, 9, 10, 11, 12, 13, 14, 15, 16, 17, 25] (by decide) rfl
  have e2 : (2 : Int32) = J 2 := by decide +kernel
  have e4 : (4 : Int32) = J 4 := by decide +kernel
  rw [e2, e4] at hP9 hD9
  refine W.widen (k := 26 + 3 * 0) (n := 3403 + 18 * 0) (Nat.le_of_ble_eq_true rfl) (Nat.le_of_ble_eq_true rfl) ?_
  exact law_loop hL C0 hl9 hK hV hNc (L + 1) 0 0 (Nat.zero_le _) (by omega) nI_0.symm H _ _ ⟨[], [], [], [], 2, 4, ((fun _ => 0), 0), ((fun _ => 0), 0), ((fun _ => 0), 0), ((fun _ => 0), 0), ((fun _ => 0), 0), ((fun _ => 0), 0), (0, 0, 0, 0, 1, 1, 0), ((fun _ => 0), 0), ((fun _ => 0), 0), 0, 0, 0, 0, (fun _ => 0), 0, (fun _ => 0), (fun _ => 0), 0, (fun _ => 0), 0, (fun _ => 0), 0, (fun _ => 0), (fun _ => 0), 0, 0, 0, hP9, hD9, ST_empty, XS_empty rfl rfl rfl rfl rfl rfl, YS_empty⟩ hS (lv_sub hl [4, 3, 2, 1, 0] rfl)
