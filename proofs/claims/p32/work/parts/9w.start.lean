/-! the law from its entry -/
set_option maxHeartbeats 4000000 in
set_option maxRecDepth 100000 in
theorem ZS_start (vm vr vh vl : Nat → Int32) (zf zg : zN) : ZS 2000 vm vr vh vl (upd (upd (fun _ => 0) 2 2) 3 4) ((fun _ => 0), 0) ((fun _ => 0), 0) ((fun _ => 0), 0) ((fun _ => 0), 0) ((fun _ => 0), 0) ((fun _ => 0), 0) (0, 0, 0, 0, 1, 1, 0) 2 4 0 0 0 0 := by
  have e2 : (2 : Int32) = J 2 := by decide +kernel
  have e4 : (4 : Int32) = J 4 := by decide +kernel
  refine ⟨[], [], [], [], [], 2, 4, e2, e4, ST_empty, XS_empty rfl rfl rfl rfl rfl rfl, ⟨RA_nil vr, RA_nil vm, fun i hi => absurd hi (Nat.not_lt_zero i), RA_nil vl, ?_, ?_, ?_, ?_, ?_, ?_, ?_⟩, List.Perm.nil, Nat.zero_le _, fun y hy => by simp at hy, fun y hy => by simp at hy⟩
  · rw [upd_ne (by decide), upd_ne (by decide)]
    exact J_00.symm
  · rw [upd_ne (by decide), upd_ne (by decide)]
    exact J_00.symm
  · rw [upd_ne (by decide), upd_at]
    exact e2
  · rw [upd_at]
    exact e4
  · rw [upd_ne (by decide), upd_ne (by decide)]
  · rw [upd_ne (by decide), upd_ne (by decide)]
  · rw [upd_ne (by decide), upd_ne (by decide)]
set_option maxHeartbeats 4000000 in
set_option maxRecDepth 100000 in
theorem whole_start {p : Program} {e : Env} {s : State} {m : MethodId} {below : List Frame} {meth : Method} {c : Code} (l : Launch) (hflags : l.flags = flags0) {b L : Nat} {xs : Nat → Int32} (hL : L ≤ 260) (C0 : lw_At p s m meth c b L xs) : W p l e room_1 s m #[Value.ref b] below meth c s.heap [] 0 0 (lw_Z below #[Value.ref b] s) (entryFrame m ([Value.ref b] : List Value).toArray 19) := by
  obtain ⟨hx, hb, hr, hml, hown, hts, hX, hbl, hlocks, hgv⟩ := id C0
  have hown : s.vm.findClass RL = some m.cls := hown
  have htw : ∀ w ∈ wsL_law, w.before #[Value.ref b] s = true := fun w h => hts w (wsL_law_in w h)
  have hl9 : l.stackTraces = false := by
    show (!l.flags.contains noTraceFlag) = false
    rw [hflags]
    decide +kernel
  have hA : ∀ q : Nat, s.heap.size ≤ q → (fun q : Nat => s.heap.size ≤ q) q := fun _ h => h
  obtain ⟨sa, hV⟩ := zV_start hts hgv
  have hNc := zNcs_start hgv
  have hNe := zNest_start hts
  obtain ⟨dC, dI, hK⟩ := zKn hts
  have hS : va_S (fun q : Nat => s.heap.size ≤ q) s.heap s.heap [] := va_S.rf
  have hP : va_P (dC, dI) vwCl [] s.heap := fun k q h => by simp at h
  have hD : va_D (fun q : Nat => s.heap.size ≤ q) [] := ⟨fun i j p q h => by simp at h, fun k q h => by simp at h⟩
  have hl := lv_entry ([.ref b]) (n := 19) (Nat.le_of_ble_eq_true rfl)
  rw [lg_entry_eq]
  generalize (lg_sl ([.ref b]) ++ List.replicate (19 - (lg_sl ([.ref b])).length) Slot.unset).toArray = ls at hl ⊢
  have hl : lv_has ls 19 [(0, .ref b)] := hl
  generalize eL : ([] : List Loc) = locs at hS ⊢
  obtain ⟨H, eH⟩ : ∃ z : Heap, z = s.heap := ⟨_, rfl⟩
  have hP : va_P (dC, dI) vwCl [] H := by rw [eH]; exact hP
  have hS : va_S (fun q : Nat => s.heap.size ≤ q) s.heap H locs := by rw [eH]; exact hS
  refine z_heap eH ?_
  refine va_new (ci := 2) (fs := [.null, .null, .null, .null, .null, .null, .null, .null, .null, .int 0, .int 0, .int 0, .int 0, .int 0, .int 0]) (C := RX2) (T := TX2) (N := 15) hx hb hts inX2 tyX2 tyX2_ok hown (hts (.classLink RL 29 RX2) (List.mem_of_getElem? (i := 42) (by decide +kernel))) (hts (.instantiable RX2 15) (List.mem_of_getElem? (i := 43) (by decide +kernel))) (hts (.initialized RX2) (List.mem_of_getElem? (i := 31) (by decide +kernel))) hK hP hD hS hA rfl (fun j hj => by rcases (show j = 0 ∨ j = 1 ∨ j = 2 ∨ j = 3 ∨ j = 4 ∨ j = 5 ∨ j = 6 ∨ j = 7 ∨ j = 8 ∨ j = 9 ∨ j = 10 ∨ j = 11 ∨ j = 12 ∨ j = 13 ∨ j = 14 by omega) with rfl | rfl | rfl | rfl | rfl | rfl | rfl | rfl | rfl | rfl | rfl | rfl | rfl | rfl | rfl <;> rfl) (Nat.le_of_ble_eq_true rfl) (Nat.le_of_ble_eq_true rfl) dL_law_0 (fun q0 H hP hD hS => ?_)
  have hP : va_P (dC, dI) vwCl [(q0, .inr (2, [.null, .null, .null, .null, .null, .null, .null, .null, .null, .int 0, .int 0, .int 0, .int 0, .int 0, .int 0]))] H := hP
  have hD : va_D (fun q : Nat => s.heap.size ≤ q) [(q0, .inr (2, [.null, .null, .null, .null, .null, .null, .null, .null, .null, .int 0, .int 0, .int 0, .int 0, .int 0, .int 0]))] := hD
  refine W.widen (k := 1) (n := 15) (Nat.le_of_ble_eq_true rfl) (Nat.le_of_ble_eq_true rfl) ?_
  refine lv_dup hx hb dL_law_3 rfl ?_
  have hFc := va_free (wc := [(q0, .inr (2, [.null, .null, .null, .null, .null, .null, .null, .null, .null, .int 0, .int 0, .int 0, .int 0, .int 0, .int 0]))]) hD hS hA [0] rfl
  refine va_callv (va_runI (As := []) (rest := [.ref q0]) ⟨hx, hb, hml, hown, htw⟩ (c_X2_init l dC dI q0 H.size) (cwI 0 htw gL_law_X2_init rfl rfl rfl (hts (.initialized RX2) (List.mem_of_getElem? (i := 31) (by decide +kernel))) (hts (.methodLink RL 133 yX2_init) (List.mem_of_getElem? (i := 44) (by decide +kernel))) (hts (.instanceMethod yX2_init) (List.mem_of_getElem? (i := 45) (by decide +kernel))) rfl (by decide +kernel) ⟨(Nat.le_of_ble_eq_true rfl), (Nat.le_of_ble_eq_true rfl)⟩) (z_preIn hK hP hD hNe) rfl rfl hl.1 rfl (lv_room (Nat.le_of_ble_eq_true rfl)) dL_law_4 ⟨(Nat.le_of_ble_eq_true rfl), (Nat.le_of_ble_eq_true rfl)⟩) hS (fun q _ h => hFc q h) hFc (fun u t H1 locs ht hvm hw hB hz1 hk1 hS => ?_)
  obtain ⟨cI, ad⟩ := u
  obtain ⟨hP1, hK1, hD1⟩ := hB
  rw [ht] at hP1
  have hK1 := va_K.moved hvm.symm hK1
  have hw : ad 0 = q0 := hw
  subst hw
  have hP1 : va_P (dC, dI) vwCl (wL cI ad ((fun _ => 0), 0) ((fun _ => 0), 0) ((fun _ => 0), 0) ((fun _ => 0), 0) ((fun _ => 0), 0) ((fun _ => 0), 0) (0, 0, 0, 0, 1, 1, 0) ((fun _ => 0), 0) ((fun _ => 0), 0) 2 4 0 0 0 0) H1 := hP1
  obtain ⟨hP, hD⟩ := va_join (wr := []) (w1 := (wL cI ad ((fun _ => 0), 0) ((fun _ => 0), 0) ((fun _ => 0), 0) ((fun _ => 0), 0) ((fun _ => 0), 0) ((fun _ => 0), 0) (0, 0, 0, 0, 1, 1, 0) ((fun _ => 0), 0) ((fun _ => 0), 0) 2 4 0 0 0 0)) hP hD [0] [] rfl rfl (by decide) (by decide) hk1 hFc hP1 hD1
  have hK : va_K (dC, dI) vwCl [(cI, .int)] s := hK1
  generalize H1 = H at hP hS ⊢
  have hP : va_P (dC, dI) vwCl (wL cI ad ((fun _ => 0), 0) ((fun _ => 0), 0) ((fun _ => 0), 0) ((fun _ => 0), 0) ((fun _ => 0), 0) ((fun _ => 0), 0) (0, 0, 0, 0, 1, 1, 0) ((fun _ => 0), 0) ((fun _ => 0), 0) 2 4 0 0 0 0) H := hP
  have hD : va_D (fun q : Nat => s.heap.size ≤ q) (wL cI ad ((fun _ => 0), 0) ((fun _ => 0), 0) ((fun _ => 0), 0) ((fun _ => 0), 0) ((fun _ => 0), 0) ((fun _ => 0), 0) (0, 0, 0, 0, 1, 1, 0) ((fun _ => 0), 0) ((fun _ => 0), 0) 2 4 0 0 0 0) := hD
  refine W.widen (k := 18) (n := 2086) (Nat.le_of_ble_eq_true rfl) (Nat.le_of_ble_eq_true rfl) ?_
  refine lv_astore_n (lv' := [(1, .ref (ad 0)), (0, .ref b)]) hx hb dL_law_7 rfl hl (by decide) rfl (fun ls hl => ?_)
  refine lv_bipush (v := 64) hx hb dL_law_8 (by decide) ?_
  refine va_newa (atype := .int) (ty := .int) (N' := 64) (a0 := (64, .inl (fun _ => 0))) hx hb (hts (.arrayClass .int) (List.mem_of_getElem? (i := 66) (by decide +kernel))) rfl hK hP hD hS hA (fun _ => rfl) (by decide) (by decide) (Nat.le_of_ble_eq_true rfl) (Nat.le_of_ble_eq_true rfl) (Nat.le_of_ble_eq_true rfl) dL_law_10 (fun qr cJ H hK hP hD hS => ?_)
  rw [z_arrEq hK 0 1 rfl rfl] at hP hD
  have hK := hK.sub (tys' := [(cI, .int)]) [0] rfl
  have hP : va_P (dC, dI) vwCl ((wL cI ad ((fun _ => 0), 0) ((fun _ => 0), 0) ((fun _ => 0), 0) ((fun _ => 0), 0) ((fun _ => 0), 0) ((fun _ => 0), 0) (0, 0, 0, 0, 1, 1, 0) ((fun _ => 0), 0) ((fun _ => 0), 0) 2 4 0 0 0 0) ++ [(qr, .inl (cI, 64, .inl (fun _ => 0)))]) H := hP
  have hD : va_D (fun q : Nat => s.heap.size ≤ q) ((wL cI ad ((fun _ => 0), 0) ((fun _ => 0), 0) ((fun _ => 0), 0) ((fun _ => 0), 0) ((fun _ => 0), 0) ((fun _ => 0), 0) (0, 0, 0, 0, 1, 1, 0) ((fun _ => 0), 0) ((fun _ => 0), 0) 2 4 0 0 0 0) ++ [(qr, .inl (cI, 64, .inl (fun _ => 0)))]) := hD
  refine W.widen (k := 19) (n := 2150) (Nat.le_of_ble_eq_true rfl) (Nat.le_of_ble_eq_true rfl) ?_
  refine lv_astore_n (lv' := [(2, .ref qr), (1, .ref (ad 0)), (0, .ref b)]) hx hb dL_law_12 rfl hl (by decide) rfl (fun ls hl => ?_)
  refine lv_bipush (v := 64) hx hb dL_law_13 (by decide) ?_
  refine va_newa (atype := .int) (ty := .int) (N' := 64) (a0 := (64, .inl (fun _ => 0))) hx hb (hts (.arrayClass .int) (List.mem_of_getElem? (i := 66) (by decide +kernel))) rfl hK hP hD hS hA (fun _ => rfl) (by decide) (by decide) (Nat.le_of_ble_eq_true rfl) (Nat.le_of_ble_eq_true rfl) (Nat.le_of_ble_eq_true rfl) dL_law_15 (fun qm cJ H hK hP hD hS => ?_)
  rw [z_arrEq hK 0 1 rfl rfl] at hP hD
  have hK := hK.sub (tys' := [(cI, .int)]) [0] rfl
  have hP : va_P (dC, dI) vwCl ((wL cI ad ((fun _ => 0), 0) ((fun _ => 0), 0) ((fun _ => 0), 0) ((fun _ => 0), 0) ((fun _ => 0), 0) ((fun _ => 0), 0) (0, 0, 0, 0, 1, 1, 0) ((fun _ => 0), 0) ((fun _ => 0), 0) 2 4 0 0 0 0) ++ [(qr, .inl (cI, 64, .inl (fun _ => 0))), (qm, .inl (cI, 64, .inl (fun _ => 0)))]) H := hP
  have hD : va_D (fun q : Nat => s.heap.size ≤ q) ((wL cI ad ((fun _ => 0), 0) ((fun _ => 0), 0) ((fun _ => 0), 0) ((fun _ => 0), 0) ((fun _ => 0), 0) ((fun _ => 0), 0) (0, 0, 0, 0, 1, 1, 0) ((fun _ => 0), 0) ((fun _ => 0), 0) 2 4 0 0 0 0) ++ [(qr, .inl (cI, 64, .inl (fun _ => 0))), (qm, .inl (cI, 64, .inl (fun _ => 0)))]) := hD
  refine W.widen (k := 20) (n := 2214) (Nat.le_of_ble_eq_true rfl) (Nat.le_of_ble_eq_true rfl) ?_
  refine lv_astore_n (lv' := [(3, .ref qm), (2, .ref qr), (1, .ref (ad 0)), (0, .ref b)]) hx hb dL_law_17 rfl hl (by decide) rfl (fun ls hl => ?_)
  refine lv_bipush (v := 64) hx hb dL_law_18 (by decide) ?_
  refine va_newa (atype := .int) (ty := .int) (N' := 64) (a0 := (64, .inl (fun _ => 0))) hx hb (hts (.arrayClass .int) (List.mem_of_getElem? (i := 66) (by decide +kernel))) rfl hK hP hD hS hA (fun _ => rfl) (by decide) (by decide) (Nat.le_of_ble_eq_true rfl) (Nat.le_of_ble_eq_true rfl) (Nat.le_of_ble_eq_true rfl) dL_law_20 (fun qh cJ H hK hP hD hS => ?_)
  rw [z_arrEq hK 0 1 rfl rfl] at hP hD
  have hK := hK.sub (tys' := [(cI, .int)]) [0] rfl
  have hP : va_P (dC, dI) vwCl ((wL cI ad ((fun _ => 0), 0) ((fun _ => 0), 0) ((fun _ => 0), 0) ((fun _ => 0), 0) ((fun _ => 0), 0) ((fun _ => 0), 0) (0, 0, 0, 0, 1, 1, 0) ((fun _ => 0), 0) ((fun _ => 0), 0) 2 4 0 0 0 0) ++ [(qr, .inl (cI, 64, .inl (fun _ => 0))), (qm, .inl (cI, 64, .inl (fun _ => 0))), (qh, .inl (cI, 64, .inl (fun _ => 0)))]) H := hP
  have hD : va_D (fun q : Nat => s.heap.size ≤ q) ((wL cI ad ((fun _ => 0), 0) ((fun _ => 0), 0) ((fun _ => 0), 0) ((fun _ => 0), 0) ((fun _ => 0), 0) ((fun _ => 0), 0) (0, 0, 0, 0, 1, 1, 0) ((fun _ => 0), 0) ((fun _ => 0), 0) 2 4 0 0 0 0) ++ [(qr, .inl (cI, 64, .inl (fun _ => 0))), (qm, .inl (cI, 64, .inl (fun _ => 0))), (qh, .inl (cI, 64, .inl (fun _ => 0)))]) := hD
  refine W.widen (k := 21) (n := 2278) (Nat.le_of_ble_eq_true rfl) (Nat.le_of_ble_eq_true rfl) ?_
  refine lv_astore (lv' := [(4, .ref qh), (3, .ref qm), (2, .ref qr), (1, .ref (ad 0)), (0, .ref b)]) hx hb dL_law_22 hl (by decide) rfl (fun ls hl => ?_)
  refine lv_bipush (v := 16) hx hb dL_law_24 (by decide) ?_
  refine va_newa (atype := .int) (ty := .int) (N' := 16) (a0 := (16, .inl (fun _ => 0))) hx hb (hts (.arrayClass .int) (List.mem_of_getElem? (i := 66) (by decide +kernel))) rfl hK hP hD hS hA (fun _ => rfl) (by decide) (by decide) (Nat.le_of_ble_eq_true rfl) (Nat.le_of_ble_eq_true rfl) (Nat.le_of_ble_eq_true rfl) dL_law_26 (fun ql cJ H hK hP hD hS => ?_)
  rw [z_arrEq hK 0 1 rfl rfl] at hP hD
  have hK := hK.sub (tys' := [(cI, .int)]) [0] rfl
  have hP : va_P (dC, dI) vwCl ((wL cI ad ((fun _ => 0), 0) ((fun _ => 0), 0) ((fun _ => 0), 0) ((fun _ => 0), 0) ((fun _ => 0), 0) ((fun _ => 0), 0) (0, 0, 0, 0, 1, 1, 0) ((fun _ => 0), 0) ((fun _ => 0), 0) 2 4 0 0 0 0) ++ [(qr, .inl (cI, 64, .inl (fun _ => 0))), (qm, .inl (cI, 64, .inl (fun _ => 0))), (qh, .inl (cI, 64, .inl (fun _ => 0))), (ql, .inl (cI, 16, .inl (fun _ => 0)))]) H := hP
  have hD : va_D (fun q : Nat => s.heap.size ≤ q) ((wL cI ad ((fun _ => 0), 0) ((fun _ => 0), 0) ((fun _ => 0), 0) ((fun _ => 0), 0) ((fun _ => 0), 0) ((fun _ => 0), 0) (0, 0, 0, 0, 1, 1, 0) ((fun _ => 0), 0) ((fun _ => 0), 0) 2 4 0 0 0 0) ++ [(qr, .inl (cI, 64, .inl (fun _ => 0))), (qm, .inl (cI, 64, .inl (fun _ => 0))), (qh, .inl (cI, 64, .inl (fun _ => 0))), (ql, .inl (cI, 16, .inl (fun _ => 0)))]) := hD
  refine W.widen (k := 22) (n := 2294) (Nat.le_of_ble_eq_true rfl) (Nat.le_of_ble_eq_true rfl) ?_
  refine lv_astore (lv' := [(5, .ref ql), (4, .ref qh), (3, .ref qm), (2, .ref qr), (1, .ref (ad 0)), (0, .ref b)]) hx hb dL_law_28 hl (by decide) rfl (fun ls hl => ?_)
  refine lv_bipush (v := 7) hx hb dL_law_30 (by decide) ?_
  refine va_newa (atype := .int) (ty := .int) (N' := 7) (a0 := (7, .inl (fun _ => 0))) hx hb (hts (.arrayClass .int) (List.mem_of_getElem? (i := 66) (by decide +kernel))) rfl hK hP hD hS hA (fun _ => rfl) (by decide) (by decide) (Nat.le_of_ble_eq_true rfl) (Nat.le_of_ble_eq_true rfl) (Nat.le_of_ble_eq_true rfl) dL_law_32 (fun qq cJ H hK hP hD hS => ?_)
  rw [z_arrEq hK 0 1 rfl rfl] at hP hD
  have hK := hK.sub (tys' := [(cI, .int)]) [0] rfl
  have hP : va_P (dC, dI) vwCl ((wL cI ad ((fun _ => 0), 0) ((fun _ => 0), 0) ((fun _ => 0), 0) ((fun _ => 0), 0) ((fun _ => 0), 0) ((fun _ => 0), 0) (0, 0, 0, 0, 1, 1, 0) ((fun _ => 0), 0) ((fun _ => 0), 0) 2 4 0 0 0 0) ++ [(qr, .inl (cI, 64, .inl (fun _ => 0))), (qm, .inl (cI, 64, .inl (fun _ => 0))), (qh, .inl (cI, 64, .inl (fun _ => 0))), (ql, .inl (cI, 16, .inl (fun _ => 0))), (qq, .inl (cI, 7, .inl (fun _ => 0)))]) H := hP
  have hD : va_D (fun q : Nat => s.heap.size ≤ q) ((wL cI ad ((fun _ => 0), 0) ((fun _ => 0), 0) ((fun _ => 0), 0) ((fun _ => 0), 0) ((fun _ => 0), 0) ((fun _ => 0), 0) (0, 0, 0, 0, 1, 1, 0) ((fun _ => 0), 0) ((fun _ => 0), 0) 2 4 0 0 0 0) ++ [(qr, .inl (cI, 64, .inl (fun _ => 0))), (qm, .inl (cI, 64, .inl (fun _ => 0))), (qh, .inl (cI, 64, .inl (fun _ => 0))), (ql, .inl (cI, 16, .inl (fun _ => 0))), (qq, .inl (cI, 7, .inl (fun _ => 0)))]) := hD
  refine W.widen (k := 23) (n := 2301) (Nat.le_of_ble_eq_true rfl) (Nat.le_of_ble_eq_true rfl) ?_
  refine lv_astore (lv' := [(6, .ref qq), (5, .ref ql), (4, .ref qh), (3, .ref qm), (2, .ref qr), (1, .ref (ad 0)), (0, .ref b)]) hx hb dL_law_34 hl (by decide) rfl (fun ls hl => ?_)
  refine lv_aload hx hb dL_law_36 (lv_at hl 0 rfl) ?_
  refine lv_iconst (v := 2) hx hb dL_law_38 (by decide) ?_
  refine lv_iconst (v := 2) hx hb dL_law_39 (by decide) ?_
  refine va_iast hx hb hK hP hD hS 22 0 rfl rfl (by unfold vp_in; decide) dL_law_40 (fun H locs hP hD hS => ?_)
  have hP : va_P (dC, dI) vwCl ((wL cI ad ((fun _ => 0), 0) ((fun _ => 0), 0) ((fun _ => 0), 0) ((fun _ => 0), 0) ((fun _ => 0), 0) ((fun _ => 0), 0) (0, 0, 0, 0, 1, 1, 0) ((fun _ => 0), 0) ((fun _ => 0), 0) 2 4 0 0 0 0) ++ [(qr, .inl (cI, 64, .inl (fun _ => 0))), (qm, .inl (cI, 64, .inl (fun _ => 0))), (qh, .inl (cI, 64, .inl (fun _ => 0))), (ql, .inl (cI, 16, .inl (fun _ => 0))), (qq, .inl (cI, 7, .inl (upd (fun _ => 0) 2 2)))]) H := hP
  have hD : va_D (fun q : Nat => s.heap.size ≤ q) ((wL cI ad ((fun _ => 0), 0) ((fun _ => 0), 0) ((fun _ => 0), 0) ((fun _ => 0), 0) ((fun _ => 0), 0) ((fun _ => 0), 0) (0, 0, 0, 0, 1, 1, 0) ((fun _ => 0), 0) ((fun _ => 0), 0) 2 4 0 0 0 0) ++ [(qr, .inl (cI, 64, .inl (fun _ => 0))), (qm, .inl (cI, 64, .inl (fun _ => 0))), (qh, .inl (cI, 64, .inl (fun _ => 0))), (ql, .inl (cI, 16, .inl (fun _ => 0))), (qq, .inl (cI, 7, .inl (upd (fun _ => 0) 2 2)))]) := hD
  refine lv_aload hx hb dL_law_41 (lv_at hl 0 rfl) ?_
  refine lv_iconst (v := 3) hx hb dL_law_43 (by decide) ?_
  refine lv_iconst (v := 4) hx hb dL_law_44 (by decide) ?_
  refine va_iast hx hb hK hP hD hS 22 0 rfl rfl (by unfold vp_in; decide) dL_law_45 (fun H locs hP hD hS => ?_)
  have hP : va_P (dC, dI) vwCl ((wL cI ad ((fun _ => 0), 0) ((fun _ => 0), 0) ((fun _ => 0), 0) ((fun _ => 0), 0) ((fun _ => 0), 0) ((fun _ => 0), 0) (0, 0, 0, 0, 1, 1, 0) ((fun _ => 0), 0) ((fun _ => 0), 0) 2 4 0 0 0 0) ++ [(qr, .inl (cI, 64, .inl (fun _ => 0))), (qm, .inl (cI, 64, .inl (fun _ => 0))), (qh, .inl (cI, 64, .inl (fun _ => 0))), (ql, .inl (cI, 16, .inl (fun _ => 0))), (qq, .inl (cI, 7, .inl (upd (upd (fun _ => 0) 2 2) 3 4)))]) H := hP
  have hD : va_D (fun q : Nat => s.heap.size ≤ q) ((wL cI ad ((fun _ => 0), 0) ((fun _ => 0), 0) ((fun _ => 0), 0) ((fun _ => 0), 0) ((fun _ => 0), 0) ((fun _ => 0), 0) (0, 0, 0, 0, 1, 1, 0) ((fun _ => 0), 0) ((fun _ => 0), 0) 2 4 0 0 0 0) ++ [(qr, .inl (cI, 64, .inl (fun _ => 0))), (qm, .inl (cI, 64, .inl (fun _ => 0))), (qh, .inl (cI, 64, .inl (fun _ => 0))), (ql, .inl (cI, 16, .inl (fun _ => 0))), (qq, .inl (cI, 7, .inl (upd (upd (fun _ => 0) 2 2) 3 4)))]) := hD
  refine lv_iconst (v := 0) hx hb dL_law_46 (by decide) ?_
  refine lv_istore (lv' := [(7, .int 0), (6, .ref qq), (5, .ref ql), (4, .ref qh), (3, .ref qm), (2, .ref qr), (1, .ref (ad 0)), (0, .ref b)]) hx hb dL_law_47 hl (by decide) rfl (fun ls hl => ?_)
  have hP9 := hP.sub (ws' := (wQ cI (zAd [qm, qr, qh, ql, qq]) ad (fun _ => 0) (fun _ => 0) (fun _ => 0) (fun _ => 0) (upd (upd (fun _ => 0) 2 2) 3 4) ((fun _ => 0), 0) ((fun _ => 0), 0) ((fun _ => 0), 0) ((fun _ => 0), 0) ((fun _ => 0), 0) ((fun _ => 0), 0) (0, 0, 0, 0, 1, 1, 0) ((fun _ => 0), 0) ((fun _ => 0), 0) 2 4 0 0 0 0)) [19, 18, 20, 21, 22, 0, 1, 2, 3, 4, 5, 6, 7, 8, 9, 10, 11, 12, 13, 14, 15, 16, 17] rfl
  have hD9 := hD.sub (ws' := (wQ cI (zAd [qm, qr, qh, ql, qq]) ad (fun _ => 0) (fun _ => 0) (fun _ => 0) (fun _ => 0) (upd (upd (fun _ => 0) 2 2) 3 4) ((fun _ => 0), 0) ((fun _ => 0), 0) ((fun _ => 0), 0) ((fun _ => 0), 0) ((fun _ => 0), 0) ((fun _ => 0), 0) (0, 0, 0, 0, 1, 1, 0) ((fun _ => 0), 0) ((fun _ => 0), 0) 2 4 0 0 0 0)) [19, 18, 20, 21, 22, 0, 1, 2, 3, 4, 5, 6, 7, 8, 9, 10, 11, 12, 13, 14, 15, 16, 17] (by decide) rfl
  rw [← J_00] at hl
  refine W.widen (k := 23 + 16 * 0) (n := 2301 + 316 * 0) (Nat.le_of_ble_eq_true rfl) (Nat.le_of_ble_eq_true rfl) ?_
  exact law_loop hL C0 hl9 cI (zAd [qm, qr, qh, ql, qq]) ad hK hV hNc 41 0 (by decide) (by decide) (fun _ => 0) (fun _ => 0) (fun _ => 0) (fun _ => 0) (upd (upd (fun _ => 0) 2 2) 3 4) ((fun _ => 0), 0) ((fun _ => 0), 0) ((fun _ => 0), 0) ((fun _ => 0), 0) ((fun _ => 0), 0) ((fun _ => 0), 0) (0, 0, 0, 0, 1, 1, 0) ((fun _ => 0), 0) ((fun _ => 0), 0) 2 4 0 0 0 0 H _ _ (ZS_start _ _ _ _ ((fun _ => 0), 0) ((fun _ => 0), 0)) hP9 hD9 hS (lv_sub hl [7, 6, 5, 4, 3, 2, 1, 0] rfl)
