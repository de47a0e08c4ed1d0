/-! the constructors: what they make stands in the worlds wN, wT, wL, wM -/
section ZI
variable {cl : List vw_C} {p : Program} {l : Launch} {e : Env} {R : Room} {s : State} {m : MethodId} {args : Array Value} {below : List Frame} {meth : Method} {c : Code} {H : Heap} {b : Addr} {As : List Value} {D : va_G} {tys : List (ClassId × FieldType)} {ws wc : va_W} {A0 : Nat → Prop}
def zNest : Cond := .methodLinkNest RX2 35 yX1_init RX2
def zWn (D : va_G) (ws : va_W) (tys : List (ClassId × FieldType)) (sz : Nat) : State → Prop := fun U => zW D ws tys sz U ∧ va_Nw zNest U
theorem zWn_bl {av : List Value} {sz : Nat} : FrameBlind (va_Pc av (zWn D ws tys sz)) := fun a U g mk q => ⟨q.1, (zW_bl a U g mk ⟨q.1, q.2.1⟩).2, va_Nw.same (u := U) (U := U.calling g mk a) rfl rfl q.2.2⟩
theorem z_preIn (hK : va_K D vwCl tys s) (hP : va_P D vwCl wc H) (hD : va_D A0 wc) (hN : va_Nw zNest s) : PreS s H (va_Pc As (zWn D wc tys H.size)) As := ⟨zWn_bl, fun U hU hW => ⟨rfl, ⟨by rw [hU], by rw [hU]; exact hP, va_K.moved hW.alike hK, hD.weaken (fun _ _ _ _ => trivial)⟩, va_Nw.warmM hW hN⟩⟩
def zAd (l : List Nat) : Nat → Nat := fun k => l.getD k 0
end ZI
def zI0 (dC : Nat → ClassId) (dI : Nat → Nat → Nat) (h N : Nat) (A : Nat → Prop) : (ClassId × Nat) → State → Prop := fun u t => va_P (dC, dI) vwCl (wN u.1 h u.2 N ((fun _ => 0), 0)) t.heap ∧ va_K (dC, dI) vwCl [(u.1, .int)] t ∧ va_D A (wN u.1 h u.2 N ((fun _ => 0), 0))
def zI2 (dC : Nat → ClassId) (dI : Nat → Nat → Nat) (A : Nat → Prop) : (ClassId × (Nat → Nat)) → State → Prop := fun u t => va_P (dC, dI) vwCl (wL u.1 u.2 ((fun _ => 0), 0) ((fun _ => 0), 0) ((fun _ => 0), 0) ((fun _ => 0), 0) ((fun _ => 0), 0) ((fun _ => 0), 0) (0, 0, 0, 0, 1, 1, 0) ((fun _ => 0), 0) ((fun _ => 0), 0) 2 4 0 0 0 0) t.heap ∧ va_K (dC, dI) vwCl [(u.1, .int)] t ∧ va_D A (wL u.1 u.2 ((fun _ => 0), 0) ((fun _ => 0), 0) ((fun _ => 0), 0) ((fun _ => 0), 0) ((fun _ => 0), 0) ((fun _ => 0), 0) (0, 0, 0, 0, 1, 1, 0) ((fun _ => 0), 0) ((fun _ => 0), 0) 2 4 0 0 0 0)
set_option maxHeartbeats 4000000 in
set_option maxRecDepth 100000 in
theorem c_X0_init (l : Launch) (dC : Nat → ClassId) (dI : Nat → Nat → Nat) (h : Nat) (N : Nat) (p1 : Int32) (h0 : 0 < p1) (hN : p1.toNatClampNeg = N) (hN2 : N ≤ 256) (sz : Nat) : Met l yX0_init wsX0_init ({ frames := 1, cells := 1, slots := 256, locals := 32 }) (va_Pc [.ref h, .int p1] (zW (dC, dI) [(h, .inr (0, [.null, .int 0]))] [] sz)) (va_Qv (fun _ => True) (zI0 dC dI h N (va_A [(h, .inr (0, [.null, .int 0]))] sz)) (va_A [(h, .inr (0, [.null, .int 0]))] sz)) 1 256 (va_A [(h, .inr (0, [.null, .int 0]))] sz) := by
  refine Met.ofW (cc := cX0_init) (maxL := 2) (ret := none) (by decide) rfl ?_
  intro p e s m args below meth c s₁ B hml hv
  obtain ⟨rfl, hsz, hP, hK, hD0⟩ := hv
  have hx := B.exec
  have hb := B.bytes
  have hr := B.returns
  have hts := atoms_spec (ws := wsX0_init) B.pre
  have hown : s.vm.findClass RX0 = some m.cls := findClass_of_methodNamed B.named
  have hlocks := B.notSynchronized
  have hin : meth.name = "<init>" := (name_of_methodNamed B.named B.method).1
  subst hsz
  have hD := hD0.self (sz := s.heap.size)
  generalize hAe : va_A [(h, .inr (0, [.null, .int 0]))] s.heap.size = A at hD ⊢
  have hA : ∀ q : Nat, s.heap.size ≤ q → A q := fun q h => by rw [← hAe]; exact Or.inr h
  have hS : va_S A s.heap s.heap [] := va_S.rf
  generalize eL : ([] : List Loc) = locs at hS ⊢
  obtain ⟨H, eH⟩ : ∃ z : Heap, z = s.heap := ⟨_, rfl⟩
  have hP : va_P (dC, dI) vwCl [(h, .inr (0, [.null, .int 0]))] H := by rw [eH]; exact hP
  have hS : va_S A s.heap H locs := by rw [eH]; exact hS
  refine z_heap eH ?_
  have hl := lv_entry ([.ref h, .int p1]) (n := 2) (Nat.le_of_ble_eq_true rfl)
  rw [lg_entry_eq]
  generalize (lg_sl ([.ref h, .int p1]) ++ List.replicate (2 - (lg_sl ([.ref h, .int p1])).length) Slot.unset).toArray = ls at hl ⊢
  have hl : lv_has ls 2 [(0, .ref h), (1, .int p1)] := hl
  have zw0 := hts (.methodLink RX0 3 objectInit) (List.mem_cons_of_mem _ (List.mem_append_left _ (List.mem_of_getElem? (i := 0) rfl)))
  have zw1 := hts (.instanceMethod objectInit) (List.mem_cons_of_mem _ (List.mem_append_left _ (List.mem_of_getElem? (i := 1) rfl)))
  have zw2 := hts (.code objectInit ⟨#[0xb1]⟩ 1 none) (List.mem_cons_of_mem _ (List.mem_append_left _ (List.mem_of_getElem? (i := 2) rfl)))
  have zw3 := hts (.methodLink RX0 9 Lib.Math.max.name) (List.mem_cons_of_mem _ (List.mem_append_left _ (List.mem_of_getElem? (i := 3) rfl)))
  have zw4 := hts (.static Lib.Math.max.name) (List.mem_cons_of_mem _ (List.mem_append_left _ (List.mem_of_getElem? (i := 4) rfl)))
  have zw5 := hts (.initialized "java/lang/Math") (List.mem_cons_of_mem _ (List.mem_append_left _ (List.mem_of_getElem? (i := 5) rfl)))
  have zw6 := hts (.code Lib.Math.max.name Lib.Math.max.code 2 (some .int)) (List.mem_cons_of_mem _ (List.mem_append_left _ (List.mem_of_getElem? (i := 6) rfl)))
  have zw7 := hts (.arrayClass .int) (List.mem_cons_of_mem _ (List.mem_append_left _ (List.mem_of_getElem? (i := 7) rfl)))
  have zw8 := hts (.fieldLink RX0 15 "LearnedLedge$Numbers" "items" "[I") (List.mem_cons_of_mem _ (List.mem_append_left _ (List.mem_of_getElem? (i := 8) rfl)))
  have zw9 := hts (.fieldLink RX0 21 "LearnedLedge$Numbers" "length" "I") (List.mem_cons_of_mem _ (List.mem_append_left _ (List.mem_of_getElem? (i := 9) rfl)))
  have ziX0 : ∀ w ∈ u_ws RX0 TX0 2, w ∈ wsX0_init := (fun _ h9 => (List.mem_cons_of_mem _ (List.mem_append_right _ h9)))
  refine lv_aload_n hx hb dX0_init_0 rfl (lv_at hl 0 rfl) ?_
  refine W.objInit hx hb hown zw0 zw1 zw2 rfl (by rw [hml]; exact hl.1) rfl dX0_init_1 (Nat.le_of_ble_eq_true rfl) (Nat.le_of_ble_eq_true rfl) ?_
  refine W.eq (g2 := F0 m 4 ls []) rfl ?_
  refine lv_aload_n hx hb dX0_init_4 rfl (lv_at hl 0 rfl) ?_
  refine lv_iconst (v := 0) hx hb dX0_init_5 (by decide) ?_
  refine lv_iload_n hx hb dX0_init_6 rfl (lv_at hl 1 rfl) ?_
  refine va_mmax hx hb (hml.trans hl.1.symm) hown zw3 zw4 zw5 zw6 (Nat.le_of_ble_eq_true rfl) (Nat.le_of_ble_eq_true rfl) (Nat.le_of_ble_eq_true rfl) (Nat.le_of_ble_eq_true rfl) dX0_init_7 ?_
  rw [if_pos h0]
  refine va_newa (atype := .int) (ty := .int) (N' := N) (a0 := (N, .inl (fun _ => 0))) hx hb zw7 rfl hK hP hD hS hA (fun _ => rfl) (fun hneg => absurd h0 (Int32.not_lt.mpr (Int32.le_of_lt hneg))) hN (by show N * 4 ≤ _; omega) (Nat.le_of_ble_eq_true rfl) (by show 0 + N ≤ 256; omega) dX0_init_10 (fun q cA H hK hP hD hS => ?_)
  have hP : va_P (dC, dI) vwCl [(h, .inr (0, [.null, .int 0])), (q, .inl (cA, N, .inl (fun _ => 0)))] H := hP
  have hD : va_D A [(h, .inr (0, [.null, .int 0])), (q, .inl (cA, N, .inl (fun _ => 0)))] := hD
  refine va_putF (D := (dC, dI)) (ci := 0) (v := .ref q) (ty := .array .int) (C := RX0) (T := TX0) (N := 2) hx hb hts ziX0 tyX0 tyX0_ok nmX0 hown hK hP hD hS 0 rfl rfl 0 (by decide) zw8 (fun _ h9 => h9) rfl hin rfl (by decide +kernel) rfl rfl (Nat.le_of_ble_eq_true rfl) dX0_init_12 (fun H locs hP hD hS => ?_)
  have hP : va_P (dC, dI) vwCl [(h, .inr (0, [.ref q, .int 0])), (q, .inl (cA, N, .inl (fun _ => 0)))] H := hP
  have hD : va_D A [(h, .inr (0, [.ref q, .int 0])), (q, .inl (cA, N, .inl (fun _ => 0)))] := hD
  refine lv_aload_n hx hb dX0_init_15 rfl (lv_at hl 0 rfl) ?_
  refine lv_iconst (v := 0) hx hb dX0_init_16 (by decide) ?_
  refine va_put (D := (dC, dI)) (ci := 0) (v := .int 0) (ty := .int) (C := RX0) (T := TX0) (N := 2) hx hb hts ziX0 tyX0 tyX0_ok nmX0 hown hK hP hD hS 0 rfl rfl 1 (by decide) zw9 (fun _ h9 => h9) rfl (by decide +kernel) rfl rfl (Nat.le_of_ble_eq_true rfl) dX0_init_17 (fun H locs hP hD hS => ?_)
  have hP : va_P (dC, dI) vwCl [(h, .inr (0, [.ref q, .int 0])), (q, .inl (cA, N, .inl (fun _ => 0)))] H := hP
  have hD : va_D A [(h, .inr (0, [.ref q, .int 0])), (q, .inl (cA, N, .inl (fun _ => 0)))] := hD
  refine W.widen (k := 1) (n := 256) (Nat.le_of_ble_eq_true rfl) (by omega) ?_
  exact W.vret hx hb hr (fun t ht hW => ⟨⟨(cA, q), rfl, trivial, by rw [ht]; exact hP, va_K.moved hW.alike hK, hD⟩, hS.F ht⟩) hS.2.2 dX0_init_20
set_option maxHeartbeats 4000000 in
set_option maxRecDepth 100000 in
theorem c_X1_init (l : Launch) (dC : Nat → ClassId) (dI : Nat → Nat → Nat) (h : Nat) (sz : Nat) : Met l yX1_init wsX1_init ({ frames := 1, cells := 0, slots := 0, locals := 32 }) (va_Pc [.ref h] (zW (dC, dI) [(h, .inr (1, [.int 0, .int 0, .int 0, .long 0, .long 0, .long 0, .long 0]))] [] sz)) (zQv (dC, dI) (wT h (0, 0, 0, 0, 1, 1, 0)) [] (va_A [(h, .inr (1, [.int 0, .int 0, .int 0, .long 0, .long 0, .long 0, .long 0]))] sz)) 0 0 (va_A [(h, .inr (1, [.int 0, .int 0, .int 0, .long 0, .long 0, .long 0, .long 0]))] sz) := by
  refine Met.ofW (cc := cX1_init) (maxL := 1) (ret := none) (by decide) rfl ?_
  intro p e s m args below meth c s₁ B hml hv
  obtain ⟨rfl, hsz, hP, hK, hD0⟩ := hv
  have hx := B.exec
  have hb := B.bytes
  have hr := B.returns
  have hts := atoms_spec (ws := wsX1_init) B.pre
  have hown : s.vm.findClass RX1 = some m.cls := findClass_of_methodNamed B.named
  have hlocks := B.notSynchronized
  have hin : meth.name = "<init>" := (name_of_methodNamed B.named B.method).1
  subst hsz
  have hD := hD0.self (sz := s.heap.size)
  generalize hAe : va_A [(h, .inr (1, [.int 0, .int 0, .int 0, .long 0, .long 0, .long 0, .long 0]))] s.heap.size = A at hD ⊢
  have hA : ∀ q : Nat, s.heap.size ≤ q → A q := fun q h => by rw [← hAe]; exact Or.inr h
  have hS : va_S A s.heap s.heap [] := va_S.rf
  generalize eL : ([] : List Loc) = locs at hS ⊢
  obtain ⟨H, eH⟩ : ∃ z : Heap, z = s.heap := ⟨_, rfl⟩
  have hP : va_P (dC, dI) vwCl [(h, .inr (1, [.int 0, .int 0, .int 0, .long 0, .long 0, .long 0, .long 0]))] H := by rw [eH]; exact hP
  have hS : va_S A s.heap H locs := by rw [eH]; exact hS
  refine z_heap eH ?_
  have hl := lv_entry ([.ref h]) (n := 1) (Nat.le_of_ble_eq_true rfl)
  rw [lg_entry_eq]
  generalize (lg_sl ([.ref h]) ++ List.replicate (1 - (lg_sl ([.ref h])).length) Slot.unset).toArray = ls at hl ⊢
  have hl : lv_has ls 1 [(0, .ref h)] := hl
  have zw0 := hts (.methodLink RX1 3 objectInit) (List.mem_cons_of_mem _ (List.mem_append_left _ (List.mem_of_getElem? (i := 0) rfl)))
  have zw1 := hts (.instanceMethod objectInit) (List.mem_cons_of_mem _ (List.mem_append_left _ (List.mem_of_getElem? (i := 1) rfl)))
  have zw2 := hts (.code objectInit ⟨#[0xb1]⟩ 1 none) (List.mem_cons_of_mem _ (List.mem_append_left _ (List.mem_of_getElem? (i := 2) rfl)))
  have zw3 := hts (.fieldLink RX1 9 "LearnedLedge$SlopeRange" "leastRise" "J") (List.mem_cons_of_mem _ (List.mem_append_left _ (List.mem_of_getElem? (i := 3) rfl)))
  have zw4 := hts (.fieldLink RX1 15 "LearnedLedge$SlopeRange" "leastRun" "J") (List.mem_cons_of_mem _ (List.mem_append_left _ (List.mem_of_getElem? (i := 4) rfl)))
  have zw5 := hts (.fieldLink RX1 18 "LearnedLedge$SlopeRange" "mostRise" "J") (List.mem_cons_of_mem _ (List.mem_append_left _ (List.mem_of_getElem? (i := 5) rfl)))
  have zw6 := hts (.fieldLink RX1 21 "LearnedLedge$SlopeRange" "mostRun" "J") (List.mem_cons_of_mem _ (List.mem_append_left _ (List.mem_of_getElem? (i := 6) rfl)))
  have ziX1 : ∀ w ∈ u_ws RX1 TX1 7, w ∈ wsX1_init := (fun _ h9 => (List.mem_cons_of_mem _ (List.mem_append_right _ h9)))
  refine lv_aload_n hx hb dX1_init_0 rfl (lv_at hl 0 rfl) ?_
  refine W.objInit hx hb hown zw0 zw1 zw2 rfl (by rw [hml]; exact hl.1) rfl dX1_init_1 (Nat.le_of_ble_eq_true rfl) (Nat.le_of_ble_eq_true rfl) ?_
  refine W.eq (g2 := F0 m 4 ls []) rfl ?_
  refine lv_aload_n hx hb dX1_init_4 rfl (lv_at hl 0 rfl) ?_
  refine lv_lconst (v := 0) hx hb dX1_init_5 (by decide) ?_
  refine va_put (D := (dC, dI)) (ci := 1) (v := .long 0) (ty := .long) (C := RX1) (T := TX1) (N := 7) hx hb hts ziX1 tyX1 tyX1_ok nmX1 hown hK hP hD hS 0 rfl rfl 3 (by decide) zw3 (fun _ h9 => h9) rfl (by decide +kernel) rfl rfl (Nat.le_of_ble_eq_true rfl) dX1_init_6 (fun H locs hP hD hS => ?_)
  have hP : va_P (dC, dI) vwCl [(h, .inr (1, [.int 0, .int 0, .int 0, .long 0, .long 0, .long 0, .long 0]))] H := hP
  have hD : va_D A [(h, .inr (1, [.int 0, .int 0, .int 0, .long 0, .long 0, .long 0, .long 0]))] := hD
  refine lv_aload_n hx hb dX1_init_9 rfl (lv_at hl 0 rfl) ?_
  refine lv_lconst (v := 1) hx hb dX1_init_10 (by decide) ?_
  refine va_put (D := (dC, dI)) (ci := 1) (v := .long 1) (ty := .long) (C := RX1) (T := TX1) (N := 7) hx hb hts ziX1 tyX1 tyX1_ok nmX1 hown hK hP hD hS 0 rfl rfl 4 (by decide) zw4 (fun _ h9 => h9) rfl (by decide +kernel) rfl rfl (Nat.le_of_ble_eq_true rfl) dX1_init_11 (fun H locs hP hD hS => ?_)
  have hP : va_P (dC, dI) vwCl [(h, .inr (1, [.int 0, .int 0, .int 0, .long 0, .long 1, .long 0, .long 0]))] H := hP
  have hD : va_D A [(h, .inr (1, [.int 0, .int 0, .int 0, .long 0, .long 1, .long 0, .long 0]))] := hD
  refine lv_aload_n hx hb dX1_init_14 rfl (lv_at hl 0 rfl) ?_
  refine lv_lconst (v := 1) hx hb dX1_init_15 (by decide) ?_
  refine va_put (D := (dC, dI)) (ci := 1) (v := .long 1) (ty := .long) (C := RX1) (T := TX1) (N := 7) hx hb hts ziX1 tyX1 tyX1_ok nmX1 hown hK hP hD hS 0 rfl rfl 5 (by decide) zw5 (fun _ h9 => h9) rfl (by decide +kernel) rfl rfl (Nat.le_of_ble_eq_true rfl) dX1_init_16 (fun H locs hP hD hS => ?_)
  have hP : va_P (dC, dI) vwCl [(h, .inr (1, [.int 0, .int 0, .int 0, .long 0, .long 1, .long 1, .long 0]))] H := hP
  have hD : va_D A [(h, .inr (1, [.int 0, .int 0, .int 0, .long 0, .long 1, .long 1, .long 0]))] := hD
  refine lv_aload_n hx hb dX1_init_19 rfl (lv_at hl 0 rfl) ?_
  refine lv_lconst (v := 0) hx hb dX1_init_20 (by decide) ?_
  refine va_put (D := (dC, dI)) (ci := 1) (v := .long 0) (ty := .long) (C := RX1) (T := TX1) (N := 7) hx hb hts ziX1 tyX1 tyX1_ok nmX1 hown hK hP hD hS 0 rfl rfl 6 (by decide) zw6 (fun _ h9 => h9) rfl (by decide +kernel) rfl rfl (Nat.le_of_ble_eq_true rfl) dX1_init_21 (fun H locs hP hD hS => ?_)
  have hP : va_P (dC, dI) vwCl [(h, .inr (1, [.int 0, .int 0, .int 0, .long 0, .long 1, .long 1, .long 0]))] H := hP
  have hD : va_D A [(h, .inr (1, [.int 0, .int 0, .int 0, .long 0, .long 1, .long 1, .long 0]))] := hD
  exact W.vret hx hb hr (fun t ht hW => ⟨⟨(), rfl, trivial, by rw [ht]; exact hP, va_K.moved hW.alike hK, hD⟩, hS.F ht⟩) hS.2.2 dX1_init_24
set_option maxHeartbeats 4000000 in
set_option maxRecDepth 100000 in
theorem c_X2_init (l : Launch) (dC : Nat → ClassId) (dI : Nat → Nat → Nat) (h : Nat) (sz : Nat) : Met l yX2_init wsX2_init ({ frames := 2, cells := 17, slots := 2071, locals := 64 }) (va_Pc [.ref h] (zWn (dC, dI) [(h, .inr (2, [.null, .null, .null, .null, .null, .null, .null, .null, .null, .int 0, .int 0, .int 0, .int 0, .int 0, .int 0]))] [] sz)) (va_Qv (fun u => u.2 0 = h) (zI2 dC dI (va_A [(h, .inr (2, [.null, .null, .null, .null, .null, .null, .null, .null, .null, .int 0, .int 0, .int 0, .int 0, .int 0, .int 0]))] sz)) (va_A [(h, .inr (2, [.null, .null, .null, .null, .null, .null, .null, .null, .null, .int 0, .int 0, .int 0, .int 0, .int 0, .int 0]))] sz)) 17 2071 (va_A [(h, .inr (2, [.null, .null, .null, .null, .null, .null, .null, .null, .null, .int 0, .int 0, .int 0, .int 0, .int 0, .int 0]))] sz) := by
  refine Met.ofW (cc := cX2_init) (maxL := 1) (ret := none) (by decide) rfl ?_
  intro p e s m args below meth c s₁ B hml hv
  obtain ⟨rfl, ⟨hsz, hP, hK, hD0⟩, hNn⟩ := hv
  have hx := B.exec
  have hb := B.bytes
  have hr := B.returns
  have hts := atoms_spec (ws := wsX2_init) B.pre
  have hown : s.vm.findClass RX2 = some m.cls := findClass_of_methodNamed B.named
  have hlocks := B.notSynchronized
  have hin : meth.name = "<init>" := (name_of_methodNamed B.named B.method).1
  subst hsz
  have hD := hD0.self (sz := s.heap.size)
  generalize hAe : va_A [(h, .inr (2, [.null, .null, .null, .null, .null, .null, .null, .null, .null, .int 0, .int 0, .int 0, .int 0, .int 0, .int 0]))] s.heap.size = A at hD ⊢
  have hA : ∀ q : Nat, s.heap.size ≤ q → A q := fun q h => by rw [← hAe]; exact Or.inr h
  have hS : va_S A s.heap s.heap [] := va_S.rf
  generalize eL : ([] : List Loc) = locs at hS ⊢
  obtain ⟨H, eH⟩ : ∃ z : Heap, z = s.heap := ⟨_, rfl⟩
  have hP : va_P (dC, dI) vwCl [(h, .inr (2, [.null, .null, .null, .null, .null, .null, .null, .null, .null, .int 0, .int 0, .int 0, .int 0, .int 0, .int 0]))] H := by rw [eH]; exact hP
  have hS : va_S A s.heap H locs := by rw [eH]; exact hS
  refine z_heap eH ?_
  have hl := lv_entry ([.ref h]) (n := 1) (Nat.le_of_ble_eq_true rfl)
  rw [lg_entry_eq]
  generalize (lg_sl ([.ref h]) ++ List.replicate (1 - (lg_sl ([.ref h])).length) Slot.unset).toArray = ls at hl ⊢
  have hl : lv_has ls 1 [(0, .ref h)] := hl
  have zw0 := hts (.methodLink RX2 1 objectInit) (List.mem_cons_of_mem _ (List.mem_append_left _ (List.mem_append_left _ (List.mem_append_left _ (List.mem_append_left _ (List.mem_of_getElem? (i := 0) rfl))))))
  have zw1 := hts (.instanceMethod objectInit) (List.mem_cons_of_mem _ (List.mem_append_left _ (List.mem_append_left _ (List.mem_append_left _ (List.mem_append_left _ (List.mem_of_getElem? (i := 1) rfl))))))
  have zw2 := hts (.code objectInit ⟨#[0xb1]⟩ 1 none) (List.mem_cons_of_mem _ (List.mem_append_left _ (List.mem_append_left _ (List.mem_append_left _ (List.mem_append_left _ (List.mem_of_getElem? (i := 2) rfl))))))
  have zw3 := hts (.classLink RX2 7 RX0) (List.mem_cons_of_mem _ (List.mem_append_left _ (List.mem_append_left _ (List.mem_append_left _ (List.mem_append_left _ (List.mem_of_getElem? (i := 3) rfl))))))
  have zw4 := hts (.instantiable RX0 2) (List.mem_cons_of_mem _ (List.mem_append_left _ (List.mem_append_left _ (List.mem_append_left _ (List.mem_append_left _ (List.mem_of_getElem? (i := 4) rfl))))))
  have zw5 := hts (.initialized RX0) (List.mem_cons_of_mem _ (List.mem_append_left _ (List.mem_append_left _ (List.mem_append_left _ (List.mem_append_left _ (List.mem_of_getElem? (i := 5) rfl))))))
  have zw6 := hts (.instanceMethod yX0_init) (List.mem_cons_of_mem _ (List.mem_append_left _ (List.mem_append_left _ (List.mem_append_left _ (List.mem_append_right _ (List.mem_of_getElem? (i := 1) rfl))))))
  have zw7 := hts (.methodLink RX2 11 yX0_init) (List.mem_cons_of_mem _ (List.mem_append_left _ (List.mem_append_left _ (List.mem_append_left _ (List.mem_append_right _ (List.mem_of_getElem? (i := 0) rfl))))))
  have zw8 := hts (.fieldLink RX2 14 "LearnedLedge" "keys" "LLearnedLedge$Numbers;") (List.mem_cons_of_mem _ (List.mem_append_left _ (List.mem_append_left _ (List.mem_append_left _ (List.mem_append_left _ (List.mem_of_getElem? (i := 6) rfl))))))
  have zw9 := hts (.fieldLink RX2 18 "LearnedLedge" "marks" "LLearnedLedge$Numbers;") (List.mem_cons_of_mem _ (List.mem_append_left _ (List.mem_append_left _ (List.mem_append_left _ (List.mem_append_left _ (List.mem_of_getElem? (i := 7) rfl))))))
  have zw10 := hts (.fieldLink RX2 21 "LearnedLedge" "buffer" "LLearnedLedge$Numbers;") (List.mem_cons_of_mem _ (List.mem_append_left _ (List.mem_append_left _ (List.mem_append_left _ (List.mem_append_left _ (List.mem_of_getElem? (i := 8) rfl))))))
  have zw11 := hts (.fieldLink RX2 24 "LearnedLedge" "starts" "LLearnedLedge$Numbers;") (List.mem_cons_of_mem _ (List.mem_append_left _ (List.mem_append_left _ (List.mem_append_left _ (List.mem_append_left _ (List.mem_of_getElem? (i := 9) rfl))))))
  have zw12 := hts (.fieldLink RX2 27 "LearnedLedge" "rises" "LLearnedLedge$Numbers;") (List.mem_cons_of_mem _ (List.mem_append_left _ (List.mem_append_left _ (List.mem_append_left _ (List.mem_append_left _ (List.mem_of_getElem? (i := 10) rfl))))))
  have zw13 := hts (.fieldLink RX2 30 "LearnedLedge" "runs" "LLearnedLedge$Numbers;") (List.mem_cons_of_mem _ (List.mem_append_left _ (List.mem_append_left _ (List.mem_append_left _ (List.mem_append_left _ (List.mem_of_getElem? (i := 11) rfl))))))
  have zw14 := hts (.classLink RX2 33 RX1) (List.mem_cons_of_mem _ (List.mem_append_left _ (List.mem_append_left _ (List.mem_append_left _ (List.mem_append_left _ (List.mem_of_getElem? (i := 12) rfl))))))
  have zw15 := hts (.instantiable RX1 7) (List.mem_cons_of_mem _ (List.mem_append_left _ (List.mem_append_left _ (List.mem_append_left _ (List.mem_append_left _ (List.mem_of_getElem? (i := 13) rfl))))))
  have zw16 := hts (.initialized RX1) (List.mem_cons_of_mem _ (List.mem_append_left _ (List.mem_append_left _ (List.mem_append_left _ (List.mem_append_left _ (List.mem_of_getElem? (i := 14) rfl))))))
  have zw17 := hts (.instanceMethod yX1_init) (List.mem_cons_of_mem _ (List.mem_append_left _ (List.mem_append_left _ (List.mem_append_left _ (List.mem_append_right _ (List.mem_of_getElem? (i := 11) rfl))))))
  have zw18 := hts (.fieldLink RX2 36 "LearnedLedge" "tail" "LLearnedLedge$SlopeRange;") (List.mem_cons_of_mem _ (List.mem_append_left _ (List.mem_append_left _ (List.mem_append_left _ (List.mem_append_left _ (List.mem_of_getElem? (i := 15) rfl))))))
  have zw19 := hts (.fieldLink RX2 40 "LearnedLedge" "freshKeys" "LLearnedLedge$Numbers;") (List.mem_cons_of_mem _ (List.mem_append_left _ (List.mem_append_left _ (List.mem_append_left _ (List.mem_append_left _ (List.mem_of_getElem? (i := 16) rfl))))))
  have zw20 := hts (.fieldLink RX2 43 "LearnedLedge" "freshStarts" "LLearnedLedge$Numbers;") (List.mem_cons_of_mem _ (List.mem_append_left _ (List.mem_append_left _ (List.mem_append_left _ (List.mem_append_left _ (List.mem_of_getElem? (i := 17) rfl))))))
  have zw21 := hts (.fieldLink RX2 46 "LearnedLedge" "bound" "I") (List.mem_cons_of_mem _ (List.mem_append_left _ (List.mem_append_left _ (List.mem_append_left _ (List.mem_append_left _ (List.mem_of_getElem? (i := 18) rfl))))))
  have zw22 := hts (.fieldLink RX2 50 "LearnedLedge" "room" "I") (List.mem_cons_of_mem _ (List.mem_append_left _ (List.mem_append_left _ (List.mem_append_left _ (List.mem_append_left _ (List.mem_of_getElem? (i := 19) rfl))))))
  have zw23 := hts (.fieldLink RX2 53 "LearnedLedge" "markCount" "I") (List.mem_cons_of_mem _ (List.mem_append_left _ (List.mem_append_left _ (List.mem_append_left _ (List.mem_append_left _ (List.mem_of_getElem? (i := 20) rfl))))))
  have zw24 := hts (.fieldLink RX2 56 "LearnedLedge" "mergeCount" "I") (List.mem_cons_of_mem _ (List.mem_append_left _ (List.mem_append_left _ (List.mem_append_left _ (List.mem_append_left _ (List.mem_of_getElem? (i := 21) rfl))))))
  have zw25 := hts (.fieldLink RX2 59 "LearnedLedge" "splitCount" "I") (List.mem_cons_of_mem _ (List.mem_append_left _ (List.mem_append_left _ (List.mem_append_left _ (List.mem_append_left _ (List.mem_of_getElem? (i := 22) rfl))))))
  have zw26 := hts (.fieldLink RX2 62 "LearnedLedge" "joinCount" "I") (List.mem_cons_of_mem _ (List.mem_append_left _ (List.mem_append_left _ (List.mem_append_left _ (List.mem_append_left _ (List.mem_of_getElem? (i := 23) rfl))))))
  have ziX0 : ∀ w ∈ u_ws RX0 TX0 2, w ∈ wsX2_init := (fun _ h9 => (List.mem_cons_of_mem _ (List.mem_append_left _ (List.mem_append_left _ (List.mem_append_right _ h9)))))
  have ziX1 : ∀ w ∈ u_ws RX1 TX1 7, w ∈ wsX2_init := (fun _ h9 => (List.mem_cons_of_mem _ (List.mem_append_right _ h9)))
  have ziX2 : ∀ w ∈ u_ws RX2 TX2 15, w ∈ wsX2_init := (fun _ h9 => (List.mem_cons_of_mem _ (List.mem_append_left _ (List.mem_append_right _ h9))))
  refine lv_aload_n hx hb dX2_init_0 rfl (lv_at hl 0 rfl) ?_
  refine W.objInit hx hb hown zw0 zw1 zw2 rfl (by rw [hml]; exact hl.1) rfl dX2_init_1 (Nat.le_of_ble_eq_true rfl) (Nat.le_of_ble_eq_true rfl) ?_
  refine W.eq (g2 := F0 m 4 ls []) rfl ?_
  refine lv_aload_n hx hb dX2_init_4 rfl (lv_at hl 0 rfl) ?_
  refine va_new (ci := 0) (fs := [.null, .int 0]) (C := RX0) (T := TX0) (N := 2) hx hb hts ziX0 tyX0 tyX0_ok hown zw3 zw4 zw5 hK hP hD hS hA rfl (fun j hj => by rcases (show j = 0 ∨ j = 1 by omega) with rfl | rfl <;> rfl) (Nat.le_of_ble_eq_true rfl) (Nat.le_of_ble_eq_true rfl) dX2_init_5 (fun q0 H hP hD hS => ?_)
  have hP : va_P (dC, dI) vwCl [(h, .inr (2, [.null, .null, .null, .null, .null, .null, .null, .null, .null, .int 0, .int 0, .int 0, .int 0, .int 0, .int 0])), (q0, .inr (0, [.null, .int 0]))] H := hP
  have hD : va_D A [(h, .inr (2, [.null, .null, .null, .null, .null, .null, .null, .null, .null, .int 0, .int 0, .int 0, .int 0, .int 0, .int 0])), (q0, .inr (0, [.null, .int 0]))] := hD
  refine W.widen (k := 1) (n := 2) (Nat.le_of_ble_eq_true rfl) (Nat.le_of_ble_eq_true rfl) ?_
  refine lv_dup hx hb dX2_init_8 rfl ?_
  refine lv_sipush (v := 256) hx hb dX2_init_9 (by decide) ?_
  have hPc := hP.sub (ws' := [(q0, .inr (0, [.null, .int 0]))]) [1] rfl
  have hDc := hD.sub (ws' := [(q0, .inr (0, [.null, .int 0]))]) [1] (by decide) rfl
  have hKc := hK.sub (tys' := []) [] rfl
  have hFc := va_free (wc := [(q0, .inr (0, [.null, .int 0]))]) hD hS hA [1] rfl
  refine va_callv (va_runI (As := [.int 256]) (rest := [.ref q0, .ref h]) ⟨hx, hb, hml, hown, hts⟩ (c_X0_init l dC dI q0 256 256 (by decide) (by decide) (Nat.le_of_ble_eq_true rfl) H.size) (cwI 1 hts gX2_init_X0_init rfl rfl rfl zw5 zw7 zw6 rfl (by decide +kernel) ⟨(Nat.le_of_ble_eq_true rfl), (Nat.le_of_ble_eq_true rfl)⟩) (z_preI hKc hPc hDc) rfl rfl hl.1 rfl (lv_room (Nat.le_of_ble_eq_true rfl)) dX2_init_12 ⟨(Nat.le_of_ble_eq_true rfl), (Nat.le_of_ble_eq_true rfl)⟩) hS (fun q _ h => hFc q h) hFc (fun u t H1 locs ht hvm hw hB hz1 hk1 hS => ?_)
  obtain ⟨cI, a0⟩ := u
  obtain ⟨hP1, hK1, hD1⟩ := hB
  rw [ht] at hP1
  have hK1 := va_K.moved hvm.symm hK1
  have hP1 : va_P (dC, dI) vwCl [(q0, .inr (0, [.ref a0, .int 0])), (a0, .inl (cI, 256, .inl (fun _ => 0)))] H1 := hP1
  have hD1 : va_D _ [(q0, .inr (0, [.ref a0, .int 0])), (a0, .inl (cI, 256, .inl (fun _ => 0)))] := hD1
  obtain ⟨hP, hD⟩ := va_join (wr := [(h, .inr (2, [.null, .null, .null, .null, .null, .null, .null, .null, .null, .int 0, .int 0, .int 0, .int 0, .int 0, .int 0]))]) (w1 := [(q0, .inr (0, [.ref a0, .int 0])), (a0, .inl (cI, 256, .inl (fun _ => 0)))]) hP hD [1] [0] rfl rfl (by decide) (by decide) hk1 hFc hP1 hD1
  have hK := hK1
  generalize H1 = H at hP hS ⊢
  have hP : va_P (dC, dI) vwCl [(h, .inr (2, [.null, .null, .null, .null, .null, .null, .null, .null, .null, .int 0, .int 0, .int 0, .int 0, .int 0, .int 0])), (q0, .inr (0, [.ref a0, .int 0])), (a0, .inl (cI, 256, .inl (fun _ => 0)))] H := hP
  have hD : va_D A [(h, .inr (2, [.null, .null, .null, .null, .null, .null, .null, .null, .null, .int 0, .int 0, .int 0, .int 0, .int 0, .int 0])), (q0, .inr (0, [.ref a0, .int 0])), (a0, .inl (cI, 256, .inl (fun _ => 0)))] := hD
  refine W.widen (k := 2) (n := 258) (Nat.le_of_ble_eq_true rfl) (Nat.le_of_ble_eq_true rfl) ?_
  refine va_putF (D := (dC, dI)) (ci := 2) (v := .ref q0) (ty := .object "LearnedLedge$Numbers") (C := RX2) (T := TX2) (N := 15) hx hb hts ziX2 tyX2 tyX2_ok nmX2 hown hK hP hD hS 0 rfl rfl 0 (by decide) zw8 (fun _ h9 => h9) rfl hin rfl (by decide +kernel) rfl rfl (Nat.le_of_ble_eq_true rfl) dX2_init_15 (fun H locs hP hD hS => ?_)
  have hP : va_P (dC, dI) vwCl [(h, .inr (2, [.ref q0, .null, .null, .null, .null, .null, .null, .null, .null, .int 0, .int 0, .int 0, .int 0, .int 0, .int 0])), (q0, .inr (0, [.ref a0, .int 0])), (a0, .inl (cI, 256, .inl (fun _ => 0)))] H := hP
  have hD : va_D A [(h, .inr (2, [.ref q0, .null, .null, .null, .null, .null, .null, .null, .null, .int 0, .int 0, .int 0, .int 0, .int 0, .int 0])), (q0, .inr (0, [.ref a0, .int 0])), (a0, .inl (cI, 256, .inl (fun _ => 0)))] := hD
  refine lv_aload_n hx hb dX2_init_18 rfl (lv_at hl 0 rfl) ?_
  refine va_new (ci := 0) (fs := [.null, .int 0]) (C := RX0) (T := TX0) (N := 2) hx hb hts ziX0 tyX0 tyX0_ok hown zw3 zw4 zw5 hK hP hD hS hA rfl (fun j hj => by rcases (show j = 0 ∨ j = 1 by omega) with rfl | rfl <;> rfl) (Nat.le_of_ble_eq_true rfl) (Nat.le_of_ble_eq_true rfl) dX2_init_19 (fun q1 H hP hD hS => ?_)
  have hP : va_P (dC, dI) vwCl [(h, .inr (2, [.ref q0, .null, .null, .null, .null, .null, .null, .null, .null, .int 0, .int 0, .int 0, .int 0, .int 0, .int 0])), (q0, .inr (0, [.ref a0, .int 0])), (a0, .inl (cI, 256, .inl (fun _ => 0))), (q1, .inr (0, [.null, .int 0]))] H := hP
  have hD : va_D A [(h, .inr (2, [.ref q0, .null, .null, .null, .null, .null, .null, .null, .null, .int 0, .int 0, .int 0, .int 0, .int 0, .int 0])), (q0, .inr (0, [.ref a0, .int 0])), (a0, .inl (cI, 256, .inl (fun _ => 0))), (q1, .inr (0, [.null, .int 0]))] := hD
  refine W.widen (k := 3) (n := 260) (Nat.le_of_ble_eq_true rfl) (Nat.le_of_ble_eq_true rfl) ?_
  refine lv_dup hx hb dX2_init_22 rfl ?_
  refine lv_sipush (v := 256) hx hb dX2_init_23 (by decide) ?_
  have hPc := hP.sub (ws' := [(q1, .inr (0, [.null, .int 0]))]) [3] rfl
  have hDc := hD.sub (ws' := [(q1, .inr (0, [.null, .int 0]))]) [3] (by decide) rfl
  have hKc := hK.sub (tys' := []) [] rfl
  have hFc := va_free (wc := [(q1, .inr (0, [.null, .int 0]))]) hD hS hA [3] rfl
  refine va_callv (va_runI (As := [.int 256]) (rest := [.ref q1, .ref h]) ⟨hx, hb, hml, hown, hts⟩ (c_X0_init l dC dI q1 256 256 (by decide) (by decide) (Nat.le_of_ble_eq_true rfl) H.size) (cwI 1 hts gX2_init_X0_init rfl rfl rfl zw5 zw7 zw6 rfl (by decide +kernel) ⟨(Nat.le_of_ble_eq_true rfl), (Nat.le_of_ble_eq_true rfl)⟩) (z_preI hKc hPc hDc) rfl rfl hl.1 rfl (lv_room (Nat.le_of_ble_eq_true rfl)) dX2_init_26 ⟨(Nat.le_of_ble_eq_true rfl), (Nat.le_of_ble_eq_true rfl)⟩) hS (fun q _ h => hFc q h) hFc (fun u t H1 locs ht hvm hw hB hz1 hk1 hS => ?_)
  obtain ⟨cA1, a1⟩ := u
  obtain ⟨hP1, hK1, hD1⟩ := hB
  rw [ht] at hP1
  have hK1 := va_K.moved hvm.symm hK1
  have hP1 : va_P (dC, dI) vwCl [(q1, .inr (0, [.ref a1, .int 0])), (a1, .inl (cA1, 256, .inl (fun _ => 0)))] H1 := hP1
  have hD1 : va_D _ [(q1, .inr (0, [.ref a1, .int 0])), (a1, .inl (cA1, 256, .inl (fun _ => 0)))] := hD1
  rw [show cA1 = cI from z_arrEq2 hK hK1] at hP1 hD1
  obtain ⟨hP, hD⟩ := va_join (wr := [(h, .inr (2, [.ref q0, .null, .null, .null, .null, .null, .null, .null, .null, .int 0, .int 0, .int 0, .int 0, .int 0, .int 0])), (q0, .inr (0, [.ref a0, .int 0])), (a0, .inl (cI, 256, .inl (fun _ => 0)))]) (w1 := [(q1, .inr (0, [.ref a1, .int 0])), (a1, .inl (cI, 256, .inl (fun _ => 0)))]) hP hD [3] [0, 1, 2] rfl rfl (by decide) (by decide) hk1 hFc hP1 hD1
  generalize H1 = H at hP hS ⊢
  have hP : va_P (dC, dI) vwCl [(h, .inr (2, [.ref q0, .null, .null, .null, .null, .null, .null, .null, .null, .int 0, .int 0, .int 0, .int 0, .int 0, .int 0])), (q0, .inr (0, [.ref a0, .int 0])), (a0, .inl (cI, 256, .inl (fun _ => 0))), (q1, .inr (0, [.ref a1, .int 0])), (a1, .inl (cI, 256, .inl (fun _ => 0)))] H := hP
  have hD : va_D A [(h, .inr (2, [.ref q0, .null, .null, .null, .null, .null, .null, .null, .null, .int 0, .int 0, .int 0, .int 0, .int 0, .int 0])), (q0, .inr (0, [.ref a0, .int 0])), (a0, .inl (cI, 256, .inl (fun _ => 0))), (q1, .inr (0, [.ref a1, .int 0])), (a1, .inl (cI, 256, .inl (fun _ => 0)))] := hD
  refine W.widen (k := 4) (n := 516) (Nat.le_of_ble_eq_true rfl) (Nat.le_of_ble_eq_true rfl) ?_
  refine va_putF (D := (dC, dI)) (ci := 2) (v := .ref q1) (ty := .object "LearnedLedge$Numbers") (C := RX2) (T := TX2) (N := 15) hx hb hts ziX2 tyX2 tyX2_ok nmX2 hown hK hP hD hS 0 rfl rfl 1 (by decide) zw9 (fun _ h9 => h9) rfl hin rfl (by decide +kernel) rfl rfl (Nat.le_of_ble_eq_true rfl) dX2_init_29 (fun H locs hP hD hS => ?_)
  have hP : va_P (dC, dI) vwCl [(h, .inr (2, [.ref q0, .ref q1, .null, .null, .null, .null, .null, .null, .null, .int 0, .int 0, .int 0, .int 0, .int 0, .int 0])), (q0, .inr (0, [.ref a0, .int 0])), (a0, .inl (cI, 256, .inl (fun _ => 0))), (q1, .inr (0, [.ref a1, .int 0])), (a1, .inl (cI, 256, .inl (fun _ => 0)))] H := hP
  have hD : va_D A [(h, .inr (2, [.ref q0, .ref q1, .null, .null, .null, .null, .null, .null, .null, .int 0, .int 0, .int 0, .int 0, .int 0, .int 0])), (q0, .inr (0, [.ref a0, .int 0])), (a0, .inl (cI, 256, .inl (fun _ => 0))), (q1, .inr (0, [.ref a1, .int 0])), (a1, .inl (cI, 256, .inl (fun _ => 0)))] := hD
  refine lv_aload_n hx hb dX2_init_32 rfl (lv_at hl 0 rfl) ?_
  refine va_new (ci := 0) (fs := [.null, .int 0]) (C := RX0) (T := TX0) (N := 2) hx hb hts ziX0 tyX0 tyX0_ok hown zw3 zw4 zw5 hK hP hD hS hA rfl (fun j hj => by rcases (show j = 0 ∨ j = 1 by omega) with rfl | rfl <;> rfl) (Nat.le_of_ble_eq_true rfl) (Nat.le_of_ble_eq_true rfl) dX2_init_33 (fun q2 H hP hD hS => ?_)
  have hP : va_P (dC, dI) vwCl [(h, .inr (2, [.ref q0, .ref q1, .null, .null, .null, .null, .null, .null, .null, .int 0, .int 0, .int 0, .int 0, .int 0, .int 0])), (q0, .inr (0, [.ref a0, .int 0])), (a0, .inl (cI, 256, .inl (fun _ => 0))), (q1, .inr (0, [.ref a1, .int 0])), (a1, .inl (cI, 256, .inl (fun _ => 0))), (q2, .inr (0, [.null, .int 0]))] H := hP
  have hD : va_D A [(h, .inr (2, [.ref q0, .ref q1, .null, .null, .null, .null, .null, .null, .null, .int 0, .int 0, .int 0, .int 0, .int 0, .int 0])), (q0, .inr (0, [.ref a0, .int 0])), (a0, .inl (cI, 256, .inl (fun _ => 0))), (q1, .inr (0, [.ref a1, .int 0])), (a1, .inl (cI, 256, .inl (fun _ => 0))), (q2, .inr (0, [.null, .int 0]))] := hD
  refine W.widen (k := 5) (n := 518) (Nat.le_of_ble_eq_true rfl) (Nat.le_of_ble_eq_true rfl) ?_
  refine lv_dup hx hb dX2_init_36 rfl ?_
  refine lv_bipush (v := 16) hx hb dX2_init_37 (by decide) ?_
  have hPc := hP.sub (ws' := [(q2, .inr (0, [.null, .int 0]))]) [5] rfl
  have hDc := hD.sub (ws' := [(q2, .inr (0, [.null, .int 0]))]) [5] (by decide) rfl
  have hKc := hK.sub (tys' := []) [] rfl
  have hFc := va_free (wc := [(q2, .inr (0, [.null, .int 0]))]) hD hS hA [5] rfl
  refine va_callv (va_runI (As := [.int 16]) (rest := [.ref q2, .ref h]) ⟨hx, hb, hml, hown, hts⟩ (c_X0_init l dC dI q2 16 16 (by decide) (by decide) (Nat.le_of_ble_eq_true rfl) H.size) (cwI 1 hts gX2_init_X0_init rfl rfl rfl zw5 zw7 zw6 rfl (by decide +kernel) ⟨(Nat.le_of_ble_eq_true rfl), (Nat.le_of_ble_eq_true rfl)⟩) (z_preI hKc hPc hDc) rfl rfl hl.1 rfl (lv_room (Nat.le_of_ble_eq_true rfl)) dX2_init_39 ⟨(Nat.le_of_ble_eq_true rfl), (Nat.le_of_ble_eq_true rfl)⟩) hS (fun q _ h => hFc q h) hFc (fun u t H1 locs ht hvm hw hB hz1 hk1 hS => ?_)
  obtain ⟨cA2, a2⟩ := u
  obtain ⟨hP1, hK1, hD1⟩ := hB
  rw [ht] at hP1
  have hK1 := va_K.moved hvm.symm hK1
  have hP1 : va_P (dC, dI) vwCl [(q2, .inr (0, [.ref a2, .int 0])), (a2, .inl (cA2, 16, .inl (fun _ => 0)))] H1 := hP1
  have hD1 : va_D _ [(q2, .inr (0, [.ref a2, .int 0])), (a2, .inl (cA2, 16, .inl (fun _ => 0)))] := hD1
  rw [show cA2 = cI from z_arrEq2 hK hK1] at hP1 hD1
  obtain ⟨hP, hD⟩ := va_join (wr := [(h, .inr (2, [.ref q0, .ref q1, .null, .null, .null, .null, .null, .null, .null, .int 0, .int 0, .int 0, .int 0, .int 0, .int 0])), (q0, .inr (0, [.ref a0, .int 0])), (a0, .inl (cI, 256, .inl (fun _ => 0))), (q1, .inr (0, [.ref a1, .int 0])), (a1, .inl (cI, 256, .inl (fun _ => 0)))]) (w1 := [(q2, .inr (0, [.ref a2, .int 0])), (a2, .inl (cI, 16, .inl (fun _ => 0)))]) hP hD [5] [0, 1, 2, 3, 4] rfl rfl (by decide) (by decide) hk1 hFc hP1 hD1
  generalize H1 = H at hP hS ⊢
  have hP : va_P (dC, dI) vwCl [(h, .inr (2, [.ref q0, .ref q1, .null, .null, .null, .null, .null, .null, .null, .int 0, .int 0, .int 0, .int 0, .int 0, .int 0])), (q0, .inr (0, [.ref a0, .int 0])), (a0, .inl (cI, 256, .inl (fun _ => 0))), (q1, .inr (0, [.ref a1, .int 0])), (a1, .inl (cI, 256, .inl (fun _ => 0))), (q2, .inr (0, [.ref a2, .int 0])), (a2, .inl (cI, 16, .inl (fun _ => 0)))] H := hP
  have hD : va_D A [(h, .inr (2, [.ref q0, .ref q1, .null, .null, .null, .null, .null, .null, .null, .int 0, .int 0, .int 0, .int 0, .int 0, .int 0])), (q0, .inr (0, [.ref a0, .int 0])), (a0, .inl (cI, 256, .inl (fun _ => 0))), (q1, .inr (0, [.ref a1, .int 0])), (a1, .inl (cI, 256, .inl (fun _ => 0))), (q2, .inr (0, [.ref a2, .int 0])), (a2, .inl (cI, 16, .inl (fun _ => 0)))] := hD
  refine W.widen (k := 6) (n := 774) (Nat.le_of_ble_eq_true rfl) (Nat.le_of_ble_eq_true rfl) ?_
  refine va_putF (D := (dC, dI)) (ci := 2) (v := .ref q2) (ty := .object "LearnedLedge$Numbers") (C := RX2) (T := TX2) (N := 15) hx hb hts ziX2 tyX2 tyX2_ok nmX2 hown hK hP hD hS 0 rfl rfl 2 (by decide) zw10 (fun _ h9 => h9) rfl hin rfl (by decide +kernel) rfl rfl (Nat.le_of_ble_eq_true rfl) dX2_init_42 (fun H locs hP hD hS => ?_)
  have hP : va_P (dC, dI) vwCl [(h, .inr (2, [.ref q0, .ref q1, .ref q2, .null, .null, .null, .null, .null, .null, .int 0, .int 0, .int 0, .int 0, .int 0, .int 0])), (q0, .inr (0, [.ref a0, .int 0])), (a0, .inl (cI, 256, .inl (fun _ => 0))), (q1, .inr (0, [.ref a1, .int 0])), (a1, .inl (cI, 256, .inl (fun _ => 0))), (q2, .inr (0, [.ref a2, .int 0])), (a2, .inl (cI, 16, .inl (fun _ => 0)))] H := hP
  have hD : va_D A [(h, .inr (2, [.ref q0, .ref q1, .ref q2, .null, .null, .null, .null, .null, .null, .int 0, .int 0, .int 0, .int 0, .int 0, .int 0])), (q0, .inr (0, [.ref a0, .int 0])), (a0, .inl (cI, 256, .inl (fun _ => 0))), (q1, .inr (0, [.ref a1, .int 0])), (a1, .inl (cI, 256, .inl (fun _ => 0))), (q2, .inr (0, [.ref a2, .int 0])), (a2, .inl (cI, 16, .inl (fun _ => 0)))] := hD
  refine lv_aload_n hx hb dX2_init_45 rfl (lv_at hl 0 rfl) ?_
  refine va_new (ci := 0) (fs := [.null, .int 0]) (C := RX0) (T := TX0) (N := 2) hx hb hts ziX0 tyX0 tyX0_ok hown zw3 zw4 zw5 hK hP hD hS hA rfl (fun j hj => by rcases (show j = 0 ∨ j = 1 by omega) with rfl | rfl <;> rfl) (Nat.le_of_ble_eq_true rfl) (Nat.le_of_ble_eq_true rfl) dX2_init_46 (fun q3 H hP hD hS => ?_)
  have hP : va_P (dC, dI) vwCl [(h, .inr (2, [.ref q0, .ref q1, .ref q2, .null, .null, .null, .null, .null, .null, .int 0, .int 0, .int 0, .int 0, .int 0, .int 0])), (q0, .inr (0, [.ref a0, .int 0])), (a0, .inl (cI, 256, .inl (fun _ => 0))), (q1, .inr (0, [.ref a1, .int 0])), (a1, .inl (cI, 256, .inl (fun _ => 0))), (q2, .inr (0, [.ref a2, .int 0])), (a2, .inl (cI, 16, .inl (fun _ => 0))), (q3, .inr (0, [.null, .int 0]))] H := hP
  have hD : va_D A [(h, .inr (2, [.ref q0, .ref q1, .ref q2, .null, .null, .null, .null, .null, .null, .int 0, .int 0, .int 0, .int 0, .int 0, .int 0])), (q0, .inr (0, [.ref a0, .int 0])), (a0, .inl (cI, 256, .inl (fun _ => 0))), (q1, .inr (0, [.ref a1, .int 0])), (a1, .inl (cI, 256, .inl (fun _ => 0))), (q2, .inr (0, [.ref a2, .int 0])), (a2, .inl (cI, 16, .inl (fun _ => 0))), (q3, .inr (0, [.null, .int 0]))] := hD
  refine W.widen (k := 7) (n := 776) (Nat.le_of_ble_eq_true rfl) (Nat.le_of_ble_eq_true rfl) ?_
  refine lv_dup hx hb dX2_init_49 rfl ?_
  refine lv_sipush (v := 256) hx hb dX2_init_50 (by decide) ?_
  have hPc := hP.sub (ws' := [(q3, .inr (0, [.null, .int 0]))]) [7] rfl
  have hDc := hD.sub (ws' := [(q3, .inr (0, [.null, .int 0]))]) [7] (by decide) rfl
  have hKc := hK.sub (tys' := []) [] rfl
  have hFc := va_free (wc := [(q3, .inr (0, [.null, .int 0]))]) hD hS hA [7] rfl
  refine va_callv (va_runI (As := [.int 256]) (rest := [.ref q3, .ref h]) ⟨hx, hb, hml, hown, hts⟩ (c_X0_init l dC dI q3 256 256 (by decide) (by decide) (Nat.le_of_ble_eq_true rfl) H.size) (cwI 1 hts gX2_init_X0_init rfl rfl rfl zw5 zw7 zw6 rfl (by decide +kernel) ⟨(Nat.le_of_ble_eq_true rfl), (Nat.le_of_ble_eq_true rfl)⟩) (z_preI hKc hPc hDc) rfl rfl hl.1 rfl (lv_room (Nat.le_of_ble_eq_true rfl)) dX2_init_53 ⟨(Nat.le_of_ble_eq_true rfl), (Nat.le_of_ble_eq_true rfl)⟩) hS (fun q _ h => hFc q h) hFc (fun u t H1 locs ht hvm hw hB hz1 hk1 hS => ?_)
  obtain ⟨cA3, a3⟩ := u
  obtain ⟨hP1, hK1, hD1⟩ := hB
  rw [ht] at hP1
  have hK1 := va_K.moved hvm.symm hK1
  have hP1 : va_P (dC, dI) vwCl [(q3, .inr (0, [.ref a3, .int 0])), (a3, .inl (cA3, 256, .inl (fun _ => 0)))] H1 := hP1
  have hD1 : va_D _ [(q3, .inr (0, [.ref a3, .int 0])), (a3, .inl (cA3, 256, .inl (fun _ => 0)))] := hD1
  rw [show cA3 = cI from z_arrEq2 hK hK1] at hP1 hD1
  obtain ⟨hP, hD⟩ := va_join (wr := [(h, .inr (2, [.ref q0, .ref q1, .ref q2, .null, .null, .null, .null, .null, .null, .int 0, .int 0, .int 0, .int 0, .int 0, .int 0])), (q0, .inr (0, [.ref a0, .int 0])), (a0, .inl (cI, 256, .inl (fun _ => 0))), (q1, .inr (0, [.ref a1, .int 0])), (a1, .inl (cI, 256, .inl (fun _ => 0))), (q2, .inr (0, [.ref a2, .int 0])), (a2, .inl (cI, 16, .inl (fun _ => 0)))]) (w1 := [(q3, .inr (0, [.ref a3, .int 0])), (a3, .inl (cI, 256, .inl (fun _ => 0)))]) hP hD [7] [0, 1, 2, 3, 4, 5, 6] rfl rfl (by decide) (by decide) hk1 hFc hP1 hD1
  generalize H1 = H at hP hS ⊢
  have hP : va_P (dC, dI) vwCl [(h, .inr (2, [.ref q0, .ref q1, .ref q2, .null, .null, .null, .null, .null, .null, .int 0, .int 0, .int 0, .int 0, .int 0, .int 0])), (q0, .inr (0, [.ref a0, .int 0])), (a0, .inl (cI, 256, .inl (fun _ => 0))), (q1, .inr (0, [.ref a1, .int 0])), (a1, .inl (cI, 256, .inl (fun _ => 0))), (q2, .inr (0, [.ref a2, .int 0])), (a2, .inl (cI, 16, .inl (fun _ => 0))), (q3, .inr (0, [.ref a3, .int 0])), (a3, .inl (cI, 256, .inl (fun _ => 0)))] H := hP
  have hD : va_D A [(h, .inr (2, [.ref q0, .ref q1, .ref q2, .null, .null, .null, .null, .null, .null, .int 0, .int 0, .int 0, .int 0, .int 0, .int 0])), (q0, .inr (0, [.ref a0, .int 0])), (a0, .inl (cI, 256, .inl (fun _ => 0))), (q1, .inr (0, [.ref a1, .int 0])), (a1, .inl (cI, 256, .inl (fun _ => 0))), (q2, .inr (0, [.ref a2, .int 0])), (a2, .inl (cI, 16, .inl (fun _ => 0))), (q3, .inr (0, [.ref a3, .int 0])), (a3, .inl (cI, 256, .inl (fun _ => 0)))] := hD
  refine W.widen (k := 8) (n := 1032) (Nat.le_of_ble_eq_true rfl) (Nat.le_of_ble_eq_true rfl) ?_
  refine va_putF (D := (dC, dI)) (ci := 2) (v := .ref q3) (ty := .object "LearnedLedge$Numbers") (C := RX2) (T := TX2) (N := 15) hx hb hts ziX2 tyX2 tyX2_ok nmX2 hown hK hP hD hS 0 rfl rfl 3 (by decide) zw11 (fun _ h9 => h9) rfl hin rfl (by decide +kernel) rfl rfl (Nat.le_of_ble_eq_true rfl) dX2_init_56 (fun H locs hP hD hS => ?_)
  have hP : va_P (dC, dI) vwCl [(h, .inr (2, [.ref q0, .ref q1, .ref q2, .ref q3, .null, .null, .null, .null, .null, .int 0, .int 0, .int 0, .int 0, .int 0, .int 0])), (q0, .inr (0, [.ref a0, .int 0])), (a0, .inl (cI, 256, .inl (fun _ => 0))), (q1, .inr (0, [.ref a1, .int 0])), (a1, .inl (cI, 256, .inl (fun _ => 0))), (q2, .inr (0, [.ref a2, .int 0])), (a2, .inl (cI, 16, .inl (fun _ => 0))), (q3, .inr (0, [.ref a3, .int 0])), (a3, .inl (cI, 256, .inl (fun _ => 0)))] H := hP
  have hD : va_D A [(h, .inr (2, [.ref q0, .ref q1, .ref q2, .ref q3, .null, .null, .null, .null, .null, .int 0, .int 0, .int 0, .int 0, .int 0, .int 0])), (q0, .inr (0, [.ref a0, .int 0])), (a0, .inl (cI, 256, .inl (fun _ => 0))), (q1, .inr (0, [.ref a1, .int 0])), (a1, .inl (cI, 256, .inl (fun _ => 0))), (q2, .inr (0, [.ref a2, .int 0])), (a2, .inl (cI, 16, .inl (fun _ => 0))), (q3, .inr (0, [.ref a3, .int 0])), (a3, .inl (cI, 256, .inl (fun _ => 0)))] := hD
  refine lv_aload_n hx hb dX2_init_59 rfl (lv_at hl 0 rfl) ?_
  refine va_new (ci := 0) (fs := [.null, .int 0]) (C := RX0) (T := TX0) (N := 2) hx hb hts ziX0 tyX0 tyX0_ok hown zw3 zw4 zw5 hK hP hD hS hA rfl (fun j hj => by rcases (show j = 0 ∨ j = 1 by omega) with rfl | rfl <;> rfl) (Nat.le_of_ble_eq_true rfl) (Nat.le_of_ble_eq_true rfl) dX2_init_60 (fun q4 H hP hD hS => ?_)
  have hP : va_P (dC, dI) vwCl [(h, .inr (2, [.ref q0, .ref q1, .ref q2, .ref q3, .null, .null, .null, .null, .null, .int 0, .int 0, .int 0, .int 0, .int 0, .int 0])), (q0, .inr (0, [.ref a0, .int 0])), (a0, .inl (cI, 256, .inl (fun _ => 0))), (q1, .inr (0, [.ref a1, .int 0])), (a1, .inl (cI, 256, .inl (fun _ => 0))), (q2, .inr (0, [.ref a2, .int 0])), (a2, .inl (cI, 16, .inl (fun _ => 0))), (q3, .inr (0, [.ref a3, .int 0])), (a3, .inl (cI, 256, .inl (fun _ => 0))), (q4, .inr (0, [.null, .int 0]))] H := hP
  have hD : va_D A [(h, .inr (2, [.ref q0, .ref q1, .ref q2, .ref q3, .null, .null, .null, .null, .null, .int 0, .int 0, .int 0, .int 0, .int 0, .int 0])), (q0, .inr (0, [.ref a0, .int 0])), (a0, .inl (cI, 256, .inl (fun _ => 0))), (q1, .inr (0, [.ref a1, .int 0])), (a1, .inl (cI, 256, .inl (fun _ => 0))), (q2, .inr (0, [.ref a2, .int 0])), (a2, .inl (cI, 16, .inl (fun _ => 0))), (q3, .inr (0, [.ref a3, .int 0])), (a3, .inl (cI, 256, .inl (fun _ => 0))), (q4, .inr (0, [.null, .int 0]))] := hD
  refine W.widen (k := 9) (n := 1034) (Nat.le_of_ble_eq_true rfl) (Nat.le_of_ble_eq_true rfl) ?_
  refine lv_dup hx hb dX2_init_63 rfl ?_
  refine lv_sipush (v := 256) hx hb dX2_init_64 (by decide) ?_
  have hPc := hP.sub (ws' := [(q4, .inr (0, [.null, .int 0]))]) [9] rfl
  have hDc := hD.sub (ws' := [(q4, .inr (0, [.null, .int 0]))]) [9] (by decide) rfl
  have hKc := hK.sub (tys' := []) [] rfl
  have hFc := va_free (wc := [(q4, .inr (0, [.null, .int 0]))]) hD hS hA [9] rfl
  refine va_callv (va_runI (As := [.int 256]) (rest := [.ref q4, .ref h]) ⟨hx, hb, hml, hown, hts⟩ (c_X0_init l dC dI q4 256 256 (by decide) (by decide) (Nat.le_of_ble_eq_true rfl) H.size) (cwI 1 hts gX2_init_X0_init rfl rfl rfl zw5 zw7 zw6 rfl (by decide +kernel) ⟨(Nat.le_of_ble_eq_true rfl), (Nat.le_of_ble_eq_true rfl)⟩) (z_preI hKc hPc hDc) rfl rfl hl.1 rfl (lv_room (Nat.le_of_ble_eq_true rfl)) dX2_init_67 ⟨(Nat.le_of_ble_eq_true rfl), (Nat.le_of_ble_eq_true rfl)⟩) hS (fun q _ h => hFc q h) hFc (fun u t H1 locs ht hvm hw hB hz1 hk1 hS => ?_)
  obtain ⟨cA4, a4⟩ := u
  obtain ⟨hP1, hK1, hD1⟩ := hB
  rw [ht] at hP1
  have hK1 := va_K.moved hvm.symm hK1
  have hP1 : va_P (dC, dI) vwCl [(q4, .inr (0, [.ref a4, .int 0])), (a4, .inl (cA4, 256, .inl (fun _ => 0)))] H1 := hP1
  have hD1 : va_D _ [(q4, .inr (0, [.ref a4, .int 0])), (a4, .inl (cA4, 256, .inl (fun _ => 0)))] := hD1
  rw [show cA4 = cI from z_arrEq2 hK hK1] at hP1 hD1
  obtain ⟨hP, hD⟩ := va_join (wr := [(h, .inr (2, [.ref q0, .ref q1, .ref q2, .ref q3, .null, .null, .null, .null, .null, .int 0, .int 0, .int 0, .int 0, .int 0, .int 0])), (q0, .inr (0, [.ref a0, .int 0])), (a0, .inl (cI, 256, .inl (fun _ => 0))), (q1, .inr (0, [.ref a1, .int 0])), (a1, .inl (cI, 256, .inl (fun _ => 0))), (q2, .inr (0, [.ref a2, .int 0])), (a2, .inl (cI, 16, .inl (fun _ => 0))), (q3, .inr (0, [.ref a3, .int 0])), (a3, .inl (cI, 256, .inl (fun _ => 0)))]) (w1 := [(q4, .inr (0, [.ref a4, .int 0])), (a4, .inl (cI, 256, .inl (fun _ => 0)))]) hP hD [9] [0, 1, 2, 3, 4, 5, 6, 7, 8] rfl rfl (by decide) (by decide) hk1 hFc hP1 hD1
  generalize H1 = H at hP hS ⊢
  have hP : va_P (dC, dI) vwCl [(h, .inr (2, [.ref q0, .ref q1, .ref q2, .ref q3, .null, .null, .null, .null, .null, .int 0, .int 0, .int 0, .int 0, .int 0, .int 0])), (q0, .inr (0, [.ref a0, .int 0])), (a0, .inl (cI, 256, .inl (fun _ => 0))), (q1, .inr (0, [.ref a1, .int 0])), (a1, .inl (cI, 256, .inl (fun _ => 0))), (q2, .inr (0, [.ref a2, .int 0])), (a2, .inl (cI, 16, .inl (fun _ => 0))), (q3, .inr (0, [.ref a3, .int 0])), (a3, .inl (cI, 256, .inl (fun _ => 0))), (q4, .inr (0, [.ref a4, .int 0])), (a4, .inl (cI, 256, .inl (fun _ => 0)))] H := hP
  have hD : va_D A [(h, .inr (2, [.ref q0, .ref q1, .ref q2, .ref q3, .null, .null, .null, .null, .null, .int 0, .int 0, .int 0, .int 0, .int 0, .int 0])), (q0, .inr (0, [.ref a0, .int 0])), (a0, .inl (cI, 256, .inl (fun _ => 0))), (q1, .inr (0, [.ref a1, .int 0])), (a1, .inl (cI, 256, .inl (fun _ => 0))), (q2, .inr (0, [.ref a2, .int 0])), (a2, .inl (cI, 16, .inl (fun _ => 0))), (q3, .inr (0, [.ref a3, .int 0])), (a3, .inl (cI, 256, .inl (fun _ => 0))), (q4, .inr (0, [.ref a4, .int 0])), (a4, .inl (cI, 256, .inl (fun _ => 0)))] := hD
  refine W.widen (k := 10) (n := 1290) (Nat.le_of_ble_eq_true rfl) (Nat.le_of_ble_eq_true rfl) ?_
  refine va_putF (D := (dC, dI)) (ci := 2) (v := .ref q4) (ty := .object "LearnedLedge$Numbers") (C := RX2) (T := TX2) (N := 15) hx hb hts ziX2 tyX2 tyX2_ok nmX2 hown hK hP hD hS 0 rfl rfl 4 (by decide) zw12 (fun _ h9 => h9) rfl hin rfl (by decide +kernel) rfl rfl (Nat.le_of_ble_eq_true rfl) dX2_init_70 (fun H locs hP hD hS => ?_)
  have hP : va_P (dC, dI) vwCl [(h, .inr (2, [.ref q0, .ref q1, .ref q2, .ref q3, .ref q4, .null, .null, .null, .null, .int 0, .int 0, .int 0, .int 0, .int 0, .int 0])), (q0, .inr (0, [.ref a0, .int 0])), (a0, .inl (cI, 256, .inl (fun _ => 0))), (q1, .inr (0, [.ref a1, .int 0])), (a1, .inl (cI, 256, .inl (fun _ => 0))), (q2, .inr (0, [.ref a2, .int 0])), (a2, .inl (cI, 16, .inl (fun _ => 0))), (q3, .inr (0, [.ref a3, .int 0])), (a3, .inl (cI, 256, .inl (fun _ => 0))), (q4, .inr (0, [.ref a4, .int 0])), (a4, .inl (cI, 256, .inl (fun _ => 0)))] H := hP
  have hD : va_D A [(h, .inr (2, [.ref q0, .ref q1, .ref q2, .ref q3, .ref q4, .null, .null, .null, .null, .int 0, .int 0, .int 0, .int 0, .int 0, .int 0])), (q0, .inr (0, [.ref a0, .int 0])), (a0, .inl (cI, 256, .inl (fun _ => 0))), (q1, .inr (0, [.ref a1, .int 0])), (a1, .inl (cI, 256, .inl (fun _ => 0))), (q2, .inr (0, [.ref a2, .int 0])), (a2, .inl (cI, 16, .inl (fun _ => 0))), (q3, .inr (0, [.ref a3, .int 0])), (a3, .inl (cI, 256, .inl (fun _ => 0))), (q4, .inr (0, [.ref a4, .int 0])), (a4, .inl (cI, 256, .inl (fun _ => 0)))] := hD
  refine lv_aload_n hx hb dX2_init_73 rfl (lv_at hl 0 rfl) ?_
  refine va_new (ci := 0) (fs := [.null, .int 0]) (C := RX0) (T := TX0) (N := 2) hx hb hts ziX0 tyX0 tyX0_ok hown zw3 zw4 zw5 hK hP hD hS hA rfl (fun j hj => by rcases (show j = 0 ∨ j = 1 by omega) with rfl | rfl <;> rfl) (Nat.le_of_ble_eq_true rfl) (Nat.le_of_ble_eq_true rfl) dX2_init_74 (fun q5 H hP hD hS => ?_)
  have hP : va_P (dC, dI) vwCl [(h, .inr (2, [.ref q0, .ref q1, .ref q2, .ref q3, .ref q4, .null, .null, .null, .null, .int 0, .int 0, .int 0, .int 0, .int 0, .int 0])), (q0, .inr (0, [.ref a0, .int 0])), (a0, .inl (cI, 256, .inl (fun _ => 0))), (q1, .inr (0, [.ref a1, .int 0])), (a1, .inl (cI, 256, .inl (fun _ => 0))), (q2, .inr (0, [.ref a2, .int 0])), (a2, .inl (cI, 16, .inl (fun _ => 0))), (q3, .inr (0, [.ref a3, .int 0])), (a3, .inl (cI, 256, .inl (fun _ => 0))), (q4, .inr (0, [.ref a4, .int 0])), (a4, .inl (cI, 256, .inl (fun _ => 0))), (q5, .inr (0, [.null, .int 0]))] H := hP
  have hD : va_D A [(h, .inr (2, [.ref q0, .ref q1, .ref q2, .ref q3, .ref q4, .null, .null, .null, .null, .int 0, .int 0, .int 0, .int 0, .int 0, .int 0])), (q0, .inr (0, [.ref a0, .int 0])), (a0, .inl (cI, 256, .inl (fun _ => 0))), (q1, .inr (0, [.ref a1, .int 0])), (a1, .inl (cI, 256, .inl (fun _ => 0))), (q2, .inr (0, [.ref a2, .int 0])), (a2, .inl (cI, 16, .inl (fun _ => 0))), (q3, .inr (0, [.ref a3, .int 0])), (a3, .inl (cI, 256, .inl (fun _ => 0))), (q4, .inr (0, [.ref a4, .int 0])), (a4, .inl (cI, 256, .inl (fun _ => 0))), (q5, .inr (0, [.null, .int 0]))] := hD
  refine W.widen (k := 11) (n := 1292) (Nat.le_of_ble_eq_true rfl) (Nat.le_of_ble_eq_true rfl) ?_
  refine lv_dup hx hb dX2_init_77 rfl ?_
  refine lv_sipush (v := 256) hx hb dX2_init_78 (by decide) ?_
  have hPc := hP.sub (ws' := [(q5, .inr (0, [.null, .int 0]))]) [11] rfl
  have hDc := hD.sub (ws' := [(q5, .inr (0, [.null, .int 0]))]) [11] (by decide) rfl
  have hKc := hK.sub (tys' := []) [] rfl
  have hFc := va_free (wc := [(q5, .inr (0, [.null, .int 0]))]) hD hS hA [11] rfl
  refine va_callv (va_runI (As := [.int 256]) (rest := [.ref q5, .ref h]) ⟨hx, hb, hml, hown, hts⟩ (c_X0_init l dC dI q5 256 256 (by decide) (by decide) (Nat.le_of_ble_eq_true rfl) H.size) (cwI 1 hts gX2_init_X0_init rfl rfl rfl zw5 zw7 zw6 rfl (by decide +kernel) ⟨(Nat.le_of_ble_eq_true rfl), (Nat.le_of_ble_eq_true rfl)⟩) (z_preI hKc hPc hDc) rfl rfl hl.1 rfl (lv_room (Nat.le_of_ble_eq_true rfl)) dX2_init_81 ⟨(Nat.le_of_ble_eq_true rfl), (Nat.le_of_ble_eq_true rfl)⟩) hS (fun q _ h => hFc q h) hFc (fun u t H1 locs ht hvm hw hB hz1 hk1 hS => ?_)
  obtain ⟨cA5, a5⟩ := u
  obtain ⟨hP1, hK1, hD1⟩ := hB
  rw [ht] at hP1
  have hK1 := va_K.moved hvm.symm hK1
  have hP1 : va_P (dC, dI) vwCl [(q5, .inr (0, [.ref a5, .int 0])), (a5, .inl (cA5, 256, .inl (fun _ => 0)))] H1 := hP1
  have hD1 : va_D _ [(q5, .inr (0, [.ref a5, .int 0])), (a5, .inl (cA5, 256, .inl (fun _ => 0)))] := hD1
  rw [show cA5 = cI from z_arrEq2 hK hK1] at hP1 hD1
  obtain ⟨hP, hD⟩ := va_join (wr := [(h, .inr (2, [.ref q0, .ref q1, .ref q2, .ref q3, .ref q4, .null, .null, .null, .null, .int 0, .int 0, .int 0, .int 0, .int 0, .int 0])), (q0, .inr (0, [.ref a0, .int 0])), (a0, .inl (cI, 256, .inl (fun _ => 0))), (q1, .inr (0, [.ref a1, .int 0])), (a1, .inl (cI, 256, .inl (fun _ => 0))), (q2, .inr (0, [.ref a2, .int 0])), (a2, .inl (cI, 16, .inl (fun _ => 0))), (q3, .inr (0, [.ref a3, .int 0])), (a3, .inl (cI, 256, .inl (fun _ => 0))), (q4, .inr (0, [.ref a4, .int 0])), (a4, .inl (cI, 256, .inl (fun _ => 0)))]) (w1 := [(q5, .inr (0, [.ref a5, .int 0])), (a5, .inl (cI, 256, .inl (fun _ => 0)))]) hP hD [11] [0, 1, 2, 3, 4, 5, 6, 7, 8, 9, 10] rfl rfl (by decide) (by decide) hk1 hFc hP1 hD1
  generalize H1 = H at hP hS ⊢
  have hP : va_P (dC, dI) vwCl [(h, .inr (2, [.ref q0, .ref q1, .ref q2, .ref q3, .ref q4, .null, .null, .null, .null, .int 0, .int 0, .int 0, .int 0, .int 0, .int 0])), (q0, .inr (0, [.ref a0, .int 0])), (a0, .inl (cI, 256, .inl (fun _ => 0))), (q1, .inr (0, [.ref a1, .int 0])), (a1, .inl (cI, 256, .inl (fun _ => 0))), (q2, .inr (0, [.ref a2, .int 0])), (a2, .inl (cI, 16, .inl (fun _ => 0))), (q3, .inr (0, [.ref a3, .int 0])), (a3, .inl (cI, 256, .inl (fun _ => 0))), (q4, .inr (0, [.ref a4, .int 0])), (a4, .inl (cI, 256, .inl (fun _ => 0))), (q5, .inr (0, [.ref a5, .int 0])), (a5, .inl (cI, 256, .inl (fun _ => 0)))] H := hP
  have hD : va_D A [(h, .inr (2, [.ref q0, .ref q1, .ref q2, .ref q3, .ref q4, .null, .null, .null, .null, .int 0, .int 0, .int 0, .int 0, .int 0, .int 0])), (q0, .inr (0, [.ref a0, .int 0])), (a0, .inl (cI, 256, .inl (fun _ => 0))), (q1, .inr (0, [.ref a1, .int 0])), (a1, .inl (cI, 256, .inl (fun _ => 0))), (q2, .inr (0, [.ref a2, .int 0])), (a2, .inl (cI, 16, .inl (fun _ => 0))), (q3, .inr (0, [.ref a3, .int 0])), (a3, .inl (cI, 256, .inl (fun _ => 0))), (q4, .inr (0, [.ref a4, .int 0])), (a4, .inl (cI, 256, .inl (fun _ => 0))), (q5, .inr (0, [.ref a5, .int 0])), (a5, .inl (cI, 256, .inl (fun _ => 0)))] := hD
  refine W.widen (k := 12) (n := 1548) (Nat.le_of_ble_eq_true rfl) (Nat.le_of_ble_eq_true rfl) ?_
  refine va_putF (D := (dC, dI)) (ci := 2) (v := .ref q5) (ty := .object "LearnedLedge$Numbers") (C := RX2) (T := TX2) (N := 15) hx hb hts ziX2 tyX2 tyX2_ok nmX2 hown hK hP hD hS 0 rfl rfl 5 (by decide) zw13 (fun _ h9 => h9) rfl hin rfl (by decide +kernel) rfl rfl (Nat.le_of_ble_eq_true rfl) dX2_init_84 (fun H locs hP hD hS => ?_)
  have hP : va_P (dC, dI) vwCl [(h, .inr (2, [.ref q0, .ref q1, .ref q2, .ref q3, .ref q4, .ref q5, .null, .null, .null, .int 0, .int 0, .int 0, .int 0, .int 0, .int 0])), (q0, .inr (0, [.ref a0, .int 0])), (a0, .inl (cI, 256, .inl (fun _ => 0))), (q1, .inr (0, [.ref a1, .int 0])), (a1, .inl (cI, 256, .inl (fun _ => 0))), (q2, .inr (0, [.ref a2, .int 0])), (a2, .inl (cI, 16, .inl (fun _ => 0))), (q3, .inr (0, [.ref a3, .int 0])), (a3, .inl (cI, 256, .inl (fun _ => 0))), (q4, .inr (0, [.ref a4, .int 0])), (a4, .inl (cI, 256, .inl (fun _ => 0))), (q5, .inr (0, [.ref a5, .int 0])), (a5, .inl (cI, 256, .inl (fun _ => 0)))] H := hP
  have hD : va_D A [(h, .inr (2, [.ref q0, .ref q1, .ref q2, .ref q3, .ref q4, .ref q5, .null, .null, .null, .int 0, .int 0, .int 0, .int 0, .int 0, .int 0])), (q0, .inr (0, [.ref a0, .int 0])), (a0, .inl (cI, 256, .inl (fun _ => 0))), (q1, .inr (0, [.ref a1, .int 0])), (a1, .inl (cI, 256, .inl (fun _ => 0))), (q2, .inr (0, [.ref a2, .int 0])), (a2, .inl (cI, 16, .inl (fun _ => 0))), (q3, .inr (0, [.ref a3, .int 0])), (a3, .inl (cI, 256, .inl (fun _ => 0))), (q4, .inr (0, [.ref a4, .int 0])), (a4, .inl (cI, 256, .inl (fun _ => 0))), (q5, .inr (0, [.ref a5, .int 0])), (a5, .inl (cI, 256, .inl (fun _ => 0)))] := hD
  refine lv_aload_n hx hb dX2_init_87 rfl (lv_at hl 0 rfl) ?_
  refine va_new (ci := 1) (fs := [.int 0, .int 0, .int 0, .long 0, .long 0, .long 0, .long 0]) (C := RX1) (T := TX1) (N := 7) hx hb hts ziX1 tyX1 tyX1_ok hown zw14 zw15 zw16 hK hP hD hS hA rfl (fun j hj => by rcases (show j = 0 ∨ j = 1 ∨ j = 2 ∨ j = 3 ∨ j = 4 ∨ j = 5 ∨ j = 6 by omega) with rfl | rfl | rfl | rfl | rfl | rfl | rfl <;> rfl) (Nat.le_of_ble_eq_true rfl) (Nat.le_of_ble_eq_true rfl) dX2_init_88 (fun q6 H hP hD hS => ?_)
  have hP : va_P (dC, dI) vwCl [(h, .inr (2, [.ref q0, .ref q1, .ref q2, .ref q3, .ref q4, .ref q5, .null, .null, .null, .int 0, .int 0, .int 0, .int 0, .int 0, .int 0])), (q0, .inr (0, [.ref a0, .int 0])), (a0, .inl (cI, 256, .inl (fun _ => 0))), (q1, .inr (0, [.ref a1, .int 0])), (a1, .inl (cI, 256, .inl (fun _ => 0))), (q2, .inr (0, [.ref a2, .int 0])), (a2, .inl (cI, 16, .inl (fun _ => 0))), (q3, .inr (0, [.ref a3, .int 0])), (a3, .inl (cI, 256, .inl (fun _ => 0))), (q4, .inr (0, [.ref a4, .int 0])), (a4, .inl (cI, 256, .inl (fun _ => 0))), (q5, .inr (0, [.ref a5, .int 0])), (a5, .inl (cI, 256, .inl (fun _ => 0))), (q6, .inr (1, [.int 0, .int 0, .int 0, .long 0, .long 0, .long 0, .long 0]))] H := hP
  have hD : va_D A [(h, .inr (2, [.ref q0, .ref q1, .ref q2, .ref q3, .ref q4, .ref q5, .null, .null, .null, .int 0, .int 0, .int 0, .int 0, .int 0, .int 0])), (q0, .inr (0, [.ref a0, .int 0])), (a0, .inl (cI, 256, .inl (fun _ => 0))), (q1, .inr (0, [.ref a1, .int 0])), (a1, .inl (cI, 256, .inl (fun _ => 0))), (q2, .inr (0, [.ref a2, .int 0])), (a2, .inl (cI, 16, .inl (fun _ => 0))), (q3, .inr (0, [.ref a3, .int 0])), (a3, .inl (cI, 256, .inl (fun _ => 0))), (q4, .inr (0, [.ref a4, .int 0])), (a4, .inl (cI, 256, .inl (fun _ => 0))), (q5, .inr (0, [.ref a5, .int 0])), (a5, .inl (cI, 256, .inl (fun _ => 0))), (q6, .inr (1, [.int 0, .int 0, .int 0, .long 0, .long 0, .long 0, .long 0]))] := hD
  refine W.widen (k := 13) (n := 1555) (Nat.le_of_ble_eq_true rfl) (Nat.le_of_ble_eq_true rfl) ?_
  refine lv_dup hx hb dX2_init_91 rfl ?_
  have hPc := hP.sub (ws' := [(q6, .inr (1, [.int 0, .int 0, .int 0, .long 0, .long 0, .long 0, .long 0]))]) [13] rfl
  have hDc := hD.sub (ws' := [(q6, .inr (1, [.int 0, .int 0, .int 0, .long 0, .long 0, .long 0, .long 0]))]) [13] (by decide) rfl
  have hKc := hK.sub (tys' := []) [] rfl
  have hFc := va_free (wc := [(q6, .inr (1, [.int 0, .int 0, .int 0, .long 0, .long 0, .long 0, .long 0]))]) hD hS hA [13] rfl
  refine va_callv (va_runIN (As := []) (rest := [.ref q6, .ref h]) ⟨hx, hb, hml, hown, hts⟩ (c_X1_init l dC dI q6 H.size) ⟨va_cnB (host := RX2) (own := RX2) (index := 35) 0 hts gX2_init_X1_init_n35 rfl rfl rfl hNn zw16 (by decide +kernel) ⟨(Nat.le_of_ble_eq_true rfl), (Nat.le_of_ble_eq_true rfl)⟩, rfl, zw17⟩ (z_preI hKc hPc hDc) rfl rfl hl.1 rfl (lv_room (Nat.le_of_ble_eq_true rfl)) dX2_init_92 ⟨(Nat.le_of_ble_eq_true rfl), (Nat.le_of_ble_eq_true rfl)⟩) hS (fun q _ h => hFc q h) hFc (fun u t H1 locs ht hvm hw hB hz1 hk1 hS => ?_)
  obtain ⟨hP1, hK1, hD1⟩ := hB
  rw [ht] at hP1
  obtain ⟨hP, hD⟩ := va_join (wr := [(h, .inr (2, [.ref q0, .ref q1, .ref q2, .ref q3, .ref q4, .ref q5, .null, .null, .null, .int 0, .int 0, .int 0, .int 0, .int 0, .int 0])), (q0, .inr (0, [.ref a0, .int 0])), (a0, .inl (cI, 256, .inl (fun _ => 0))), (q1, .inr (0, [.ref a1, .int 0])), (a1, .inl (cI, 256, .inl (fun _ => 0))), (q2, .inr (0, [.ref a2, .int 0])), (a2, .inl (cI, 16, .inl (fun _ => 0))), (q3, .inr (0, [.ref a3, .int 0])), (a3, .inl (cI, 256, .inl (fun _ => 0))), (q4, .inr (0, [.ref a4, .int 0])), (a4, .inl (cI, 256, .inl (fun _ => 0))), (q5, .inr (0, [.ref a5, .int 0])), (a5, .inl (cI, 256, .inl (fun _ => 0)))]) (w1 := [(q6, .inr (1, [.int 0, .int 0, .int 0, .long 0, .long 1, .long 1, .long 0]))]) hP hD [13] [0, 1, 2, 3, 4, 5, 6, 7, 8, 9, 10, 11, 12] rfl rfl (by decide) (by decide) hk1 hFc hP1 hD1
  generalize H1 = H at hP hS ⊢
  have hP : va_P (dC, dI) vwCl [(h, .inr (2, [.ref q0, .ref q1, .ref q2, .ref q3, .ref q4, .ref q5, .null, .null, .null, .int 0, .int 0, .int 0, .int 0, .int 0, .int 0])), (q0, .inr (0, [.ref a0, .int 0])), (a0, .inl (cI, 256, .inl (fun _ => 0))), (q1, .inr (0, [.ref a1, .int 0])), (a1, .inl (cI, 256, .inl (fun _ => 0))), (q2, .inr (0, [.ref a2, .int 0])), (a2, .inl (cI, 16, .inl (fun _ => 0))), (q3, .inr (0, [.ref a3, .int 0])), (a3, .inl (cI, 256, .inl (fun _ => 0))), (q4, .inr (0, [.ref a4, .int 0])), (a4, .inl (cI, 256, .inl (fun _ => 0))), (q5, .inr (0, [.ref a5, .int 0])), (a5, .inl (cI, 256, .inl (fun _ => 0))), (q6, .inr (1, [.int 0, .int 0, .int 0, .long 0, .long 1, .long 1, .long 0]))] H := hP
  have hD : va_D A [(h, .inr (2, [.ref q0, .ref q1, .ref q2, .ref q3, .ref q4, .ref q5, .null, .null, .null, .int 0, .int 0, .int 0, .int 0, .int 0, .int 0])), (q0, .inr (0, [.ref a0, .int 0])), (a0, .inl (cI, 256, .inl (fun _ => 0))), (q1, .inr (0, [.ref a1, .int 0])), (a1, .inl (cI, 256, .inl (fun _ => 0))), (q2, .inr (0, [.ref a2, .int 0])), (a2, .inl (cI, 16, .inl (fun _ => 0))), (q3, .inr (0, [.ref a3, .int 0])), (a3, .inl (cI, 256, .inl (fun _ => 0))), (q4, .inr (0, [.ref a4, .int 0])), (a4, .inl (cI, 256, .inl (fun _ => 0))), (q5, .inr (0, [.ref a5, .int 0])), (a5, .inl (cI, 256, .inl (fun _ => 0))), (q6, .inr (1, [.int 0, .int 0, .int 0, .long 0, .long 1, .long 1, .long 0]))] := hD
  refine W.widen (k := 13) (n := 1555) (Nat.le_of_ble_eq_true rfl) (Nat.le_of_ble_eq_true rfl) ?_
  refine va_putF (D := (dC, dI)) (ci := 2) (v := .ref q6) (ty := .object "LearnedLedge$SlopeRange") (C := RX2) (T := TX2) (N := 15) hx hb hts ziX2 tyX2 tyX2_ok nmX2 hown hK hP hD hS 0 rfl rfl 6 (by decide) zw18 (fun _ h9 => h9) rfl hin rfl (by decide +kernel) rfl rfl (Nat.le_of_ble_eq_true rfl) dX2_init_95 (fun H locs hP hD hS => ?_)
  have hP : va_P (dC, dI) vwCl [(h, .inr (2, [.ref q0, .ref q1, .ref q2, .ref q3, .ref q4, .ref q5, .ref q6, .null, .null, .int 0, .int 0, .int 0, .int 0, .int 0, .int 0])), (q0, .inr (0, [.ref a0, .int 0])), (a0, .inl (cI, 256, .inl (fun _ => 0))), (q1, .inr (0, [.ref a1, .int 0])), (a1, .inl (cI, 256, .inl (fun _ => 0))), (q2, .inr (0, [.ref a2, .int 0])), (a2, .inl (cI, 16, .inl (fun _ => 0))), (q3, .inr (0, [.ref a3, .int 0])), (a3, .inl (cI, 256, .inl (fun _ => 0))), (q4, .inr (0, [.ref a4, .int 0])), (a4, .inl (cI, 256, .inl (fun _ => 0))), (q5, .inr (0, [.ref a5, .int 0])), (a5, .inl (cI, 256, .inl (fun _ => 0))), (q6, .inr (1, [.int 0, .int 0, .int 0, .long 0, .long 1, .long 1, .long 0]))] H := hP
  have hD : va_D A [(h, .inr (2, [.ref q0, .ref q1, .ref q2, .ref q3, .ref q4, .ref q5, .ref q6, .null, .null, .int 0, .int 0, .int 0, .int 0, .int 0, .int 0])), (q0, .inr (0, [.ref a0, .int 0])), (a0, .inl (cI, 256, .inl (fun _ => 0))), (q1, .inr (0, [.ref a1, .int 0])), (a1, .inl (cI, 256, .inl (fun _ => 0))), (q2, .inr (0, [.ref a2, .int 0])), (a2, .inl (cI, 16, .inl (fun _ => 0))), (q3, .inr (0, [.ref a3, .int 0])), (a3, .inl (cI, 256, .inl (fun _ => 0))), (q4, .inr (0, [.ref a4, .int 0])), (a4, .inl (cI, 256, .inl (fun _ => 0))), (q5, .inr (0, [.ref a5, .int 0])), (a5, .inl (cI, 256, .inl (fun _ => 0))), (q6, .inr (1, [.int 0, .int 0, .int 0, .long 0, .long 1, .long 1, .long 0]))] := hD
  refine lv_aload_n hx hb dX2_init_98 rfl (lv_at hl 0 rfl) ?_
  refine va_new (ci := 0) (fs := [.null, .int 0]) (C := RX0) (T := TX0) (N := 2) hx hb hts ziX0 tyX0 tyX0_ok hown zw3 zw4 zw5 hK hP hD hS hA rfl (fun j hj => by rcases (show j = 0 ∨ j = 1 by omega) with rfl | rfl <;> rfl) (Nat.le_of_ble_eq_true rfl) (Nat.le_of_ble_eq_true rfl) dX2_init_99 (fun q7 H hP hD hS => ?_)
  have hP : va_P (dC, dI) vwCl [(h, .inr (2, [.ref q0, .ref q1, .ref q2, .ref q3, .ref q4, .ref q5, .ref q6, .null, .null, .int 0, .int 0, .int 0, .int 0, .int 0, .int 0])), (q0, .inr (0, [.ref a0, .int 0])), (a0, .inl (cI, 256, .inl (fun _ => 0))), (q1, .inr (0, [.ref a1, .int 0])), (a1, .inl (cI, 256, .inl (fun _ => 0))), (q2, .inr (0, [.ref a2, .int 0])), (a2, .inl (cI, 16, .inl (fun _ => 0))), (q3, .inr (0, [.ref a3, .int 0])), (a3, .inl (cI, 256, .inl (fun _ => 0))), (q4, .inr (0, [.ref a4, .int 0])), (a4, .inl (cI, 256, .inl (fun _ => 0))), (q5, .inr (0, [.ref a5, .int 0])), (a5, .inl (cI, 256, .inl (fun _ => 0))), (q6, .inr (1, [.int 0, .int 0, .int 0, .long 0, .long 1, .long 1, .long 0])), (q7, .inr (0, [.null, .int 0]))] H := hP
  have hD : va_D A [(h, .inr (2, [.ref q0, .ref q1, .ref q2, .ref q3, .ref q4, .ref q5, .ref q6, .null, .null, .int 0, .int 0, .int 0, .int 0, .int 0, .int 0])), (q0, .inr (0, [.ref a0, .int 0])), (a0, .inl (cI, 256, .inl (fun _ => 0))), (q1, .inr (0, [.ref a1, .int 0])), (a1, .inl (cI, 256, .inl (fun _ => 0))), (q2, .inr (0, [.ref a2, .int 0])), (a2, .inl (cI, 16, .inl (fun _ => 0))), (q3, .inr (0, [.ref a3, .int 0])), (a3, .inl (cI, 256, .inl (fun _ => 0))), (q4, .inr (0, [.ref a4, .int 0])), (a4, .inl (cI, 256, .inl (fun _ => 0))), (q5, .inr (0, [.ref a5, .int 0])), (a5, .inl (cI, 256, .inl (fun _ => 0))), (q6, .inr (1, [.int 0, .int 0, .int 0, .long 0, .long 1, .long 1, .long 0])), (q7, .inr (0, [.null, .int 0]))] := hD
  refine W.widen (k := 14) (n := 1557) (Nat.le_of_ble_eq_true rfl) (Nat.le_of_ble_eq_true rfl) ?_
  refine lv_dup hx hb dX2_init_102 rfl ?_
  refine lv_sipush (v := 256) hx hb dX2_init_103 (by decide) ?_
  have hPc := hP.sub (ws' := [(q7, .inr (0, [.null, .int 0]))]) [14] rfl
  have hDc := hD.sub (ws' := [(q7, .inr (0, [.null, .int 0]))]) [14] (by decide) rfl
  have hKc := hK.sub (tys' := []) [] rfl
  have hFc := va_free (wc := [(q7, .inr (0, [.null, .int 0]))]) hD hS hA [14] rfl
  refine va_callv (va_runI (As := [.int 256]) (rest := [.ref q7, .ref h]) ⟨hx, hb, hml, hown, hts⟩ (c_X0_init l dC dI q7 256 256 (by decide) (by decide) (Nat.le_of_ble_eq_true rfl) H.size) (cwI 1 hts gX2_init_X0_init rfl rfl rfl zw5 zw7 zw6 rfl (by decide +kernel) ⟨(Nat.le_of_ble_eq_true rfl), (Nat.le_of_ble_eq_true rfl)⟩) (z_preI hKc hPc hDc) rfl rfl hl.1 rfl (lv_room (Nat.le_of_ble_eq_true rfl)) dX2_init_106 ⟨(Nat.le_of_ble_eq_true rfl), (Nat.le_of_ble_eq_true rfl)⟩) hS (fun q _ h => hFc q h) hFc (fun u t H1 locs ht hvm hw hB hz1 hk1 hS => ?_)
  obtain ⟨cA7, a7⟩ := u
  obtain ⟨hP1, hK1, hD1⟩ := hB
  rw [ht] at hP1
  have hK1 := va_K.moved hvm.symm hK1
  have hP1 : va_P (dC, dI) vwCl [(q7, .inr (0, [.ref a7, .int 0])), (a7, .inl (cA7, 256, .inl (fun _ => 0)))] H1 := hP1
  have hD1 : va_D _ [(q7, .inr (0, [.ref a7, .int 0])), (a7, .inl (cA7, 256, .inl (fun _ => 0)))] := hD1
  rw [show cA7 = cI from z_arrEq2 hK hK1] at hP1 hD1
  obtain ⟨hP, hD⟩ := va_join (wr := [(h, .inr (2, [.ref q0, .ref q1, .ref q2, .ref q3, .ref q4, .ref q5, .ref q6, .null, .null, .int 0, .int 0, .int 0, .int 0, .int 0, .int 0])), (q0, .inr (0, [.ref a0, .int 0])), (a0, .inl (cI, 256, .inl (fun _ => 0))), (q1, .inr (0, [.ref a1, .int 0])), (a1, .inl (cI, 256, .inl (fun _ => 0))), (q2, .inr (0, [.ref a2, .int 0])), (a2, .inl (cI, 16, .inl (fun _ => 0))), (q3, .inr (0, [.ref a3, .int 0])), (a3, .inl (cI, 256, .inl (fun _ => 0))), (q4, .inr (0, [.ref a4, .int 0])), (a4, .inl (cI, 256, .inl (fun _ => 0))), (q5, .inr (0, [.ref a5, .int 0])), (a5, .inl (cI, 256, .inl (fun _ => 0))), (q6, .inr (1, [.int 0, .int 0, .int 0, .long 0, .long 1, .long 1, .long 0]))]) (w1 := [(q7, .inr (0, [.ref a7, .int 0])), (a7, .inl (cI, 256, .inl (fun _ => 0)))]) hP hD [14] [0, 1, 2, 3, 4, 5, 6, 7, 8, 9, 10, 11, 12, 13] rfl rfl (by decide) (by decide) hk1 hFc hP1 hD1
  generalize H1 = H at hP hS ⊢
  have hP : va_P (dC, dI) vwCl [(h, .inr (2, [.ref q0, .ref q1, .ref q2, .ref q3, .ref q4, .ref q5, .ref q6, .null, .null, .int 0, .int 0, .int 0, .int 0, .int 0, .int 0])), (q0, .inr (0, [.ref a0, .int 0])), (a0, .inl (cI, 256, .inl (fun _ => 0))), (q1, .inr (0, [.ref a1, .int 0])), (a1, .inl (cI, 256, .inl (fun _ => 0))), (q2, .inr (0, [.ref a2, .int 0])), (a2, .inl (cI, 16, .inl (fun _ => 0))), (q3, .inr (0, [.ref a3, .int 0])), (a3, .inl (cI, 256, .inl (fun _ => 0))), (q4, .inr (0, [.ref a4, .int 0])), (a4, .inl (cI, 256, .inl (fun _ => 0))), (q5, .inr (0, [.ref a5, .int 0])), (a5, .inl (cI, 256, .inl (fun _ => 0))), (q6, .inr (1, [.int 0, .int 0, .int 0, .long 0, .long 1, .long 1, .long 0])), (q7, .inr (0, [.ref a7, .int 0])), (a7, .inl (cI, 256, .inl (fun _ => 0)))] H := hP
  have hD : va_D A [(h, .inr (2, [.ref q0, .ref q1, .ref q2, .ref q3, .ref q4, .ref q5, .ref q6, .null, .null, .int 0, .int 0, .int 0, .int 0, .int 0, .int 0])), (q0, .inr (0, [.ref a0, .int 0])), (a0, .inl (cI, 256, .inl (fun _ => 0))), (q1, .inr (0, [.ref a1, .int 0])), (a1, .inl (cI, 256, .inl (fun _ => 0))), (q2, .inr (0, [.ref a2, .int 0])), (a2, .inl (cI, 16, .inl (fun _ => 0))), (q3, .inr (0, [.ref a3, .int 0])), (a3, .inl (cI, 256, .inl (fun _ => 0))), (q4, .inr (0, [.ref a4, .int 0])), (a4, .inl (cI, 256, .inl (fun _ => 0))), (q5, .inr (0, [.ref a5, .int 0])), (a5, .inl (cI, 256, .inl (fun _ => 0))), (q6, .inr (1, [.int 0, .int 0, .int 0, .long 0, .long 1, .long 1, .long 0])), (q7, .inr (0, [.ref a7, .int 0])), (a7, .inl (cI, 256, .inl (fun _ => 0)))] := hD
  refine W.widen (k := 15) (n := 1813) (Nat.le_of_ble_eq_true rfl) (Nat.le_of_ble_eq_true rfl) ?_
  refine va_putF (D := (dC, dI)) (ci := 2) (v := .ref q7) (ty := .object "LearnedLedge$Numbers") (C := RX2) (T := TX2) (N := 15) hx hb hts ziX2 tyX2 tyX2_ok nmX2 hown hK hP hD hS 0 rfl rfl 7 (by decide) zw19 (fun _ h9 => h9) rfl hin rfl (by decide +kernel) rfl rfl (Nat.le_of_ble_eq_true rfl) dX2_init_109 (fun H locs hP hD hS => ?_)
  have hP : va_P (dC, dI) vwCl [(h, .inr (2, [.ref q0, .ref q1, .ref q2, .ref q3, .ref q4, .ref q5, .ref q6, .ref q7, .null, .int 0, .int 0, .int 0, .int 0, .int 0, .int 0])), (q0, .inr (0, [.ref a0, .int 0])), (a0, .inl (cI, 256, .inl (fun _ => 0))), (q1, .inr (0, [.ref a1, .int 0])), (a1, .inl (cI, 256, .inl (fun _ => 0))), (q2, .inr (0, [.ref a2, .int 0])), (a2, .inl (cI, 16, .inl (fun _ => 0))), (q3, .inr (0, [.ref a3, .int 0])), (a3, .inl (cI, 256, .inl (fun _ => 0))), (q4, .inr (0, [.ref a4, .int 0])), (a4, .inl (cI, 256, .inl (fun _ => 0))), (q5, .inr (0, [.ref a5, .int 0])), (a5, .inl (cI, 256, .inl (fun _ => 0))), (q6, .inr (1, [.int 0, .int 0, .int 0, .long 0, .long 1, .long 1, .long 0])), (q7, .inr (0, [.ref a7, .int 0])), (a7, .inl (cI, 256, .inl (fun _ => 0)))] H := hP
  have hD : va_D A [(h, .inr (2, [.ref q0, .ref q1, .ref q2, .ref q3, .ref q4, .ref q5, .ref q6, .ref q7, .null, .int 0, .int 0, .int 0, .int 0, .int 0, .int 0])), (q0, .inr (0, [.ref a0, .int 0])), (a0, .inl (cI, 256, .inl (fun _ => 0))), (q1, .inr (0, [.ref a1, .int 0])), (a1, .inl (cI, 256, .inl (fun _ => 0))), (q2, .inr (0, [.ref a2, .int 0])), (a2, .inl (cI, 16, .inl (fun _ => 0))), (q3, .inr (0, [.ref a3, .int 0])), (a3, .inl (cI, 256, .inl (fun _ => 0))), (q4, .inr (0, [.ref a4, .int 0])), (a4, .inl (cI, 256, .inl (fun _ => 0))), (q5, .inr (0, [.ref a5, .int 0])), (a5, .inl (cI, 256, .inl (fun _ => 0))), (q6, .inr (1, [.int 0, .int 0, .int 0, .long 0, .long 1, .long 1, .long 0])), (q7, .inr (0, [.ref a7, .int 0])), (a7, .inl (cI, 256, .inl (fun _ => 0)))] := hD
  refine lv_aload_n hx hb dX2_init_112 rfl (lv_at hl 0 rfl) ?_
  refine va_new (ci := 0) (fs := [.null, .int 0]) (C := RX0) (T := TX0) (N := 2) hx hb hts ziX0 tyX0 tyX0_ok hown zw3 zw4 zw5 hK hP hD hS hA rfl (fun j hj => by rcases (show j = 0 ∨ j = 1 by omega) with rfl | rfl <;> rfl) (Nat.le_of_ble_eq_true rfl) (Nat.le_of_ble_eq_true rfl) dX2_init_113 (fun q8 H hP hD hS => ?_)
  have hP : va_P (dC, dI) vwCl [(h, .inr (2, [.ref q0, .ref q1, .ref q2, .ref q3, .ref q4, .ref q5, .ref q6, .ref q7, .null, .int 0, .int 0, .int 0, .int 0, .int 0, .int 0])), (q0, .inr (0, [.ref a0, .int 0])), (a0, .inl (cI, 256, .inl (fun _ => 0))), (q1, .inr (0, [.ref a1, .int 0])), (a1, .inl (cI, 256, .inl (fun _ => 0))), (q2, .inr (0, [.ref a2, .int 0])), (a2, .inl (cI, 16, .inl (fun _ => 0))), (q3, .inr (0, [.ref a3, .int 0])), (a3, .inl (cI, 256, .inl (fun _ => 0))), (q4, .inr (0, [.ref a4, .int 0])), (a4, .inl (cI, 256, .inl (fun _ => 0))), (q5, .inr (0, [.ref a5, .int 0])), (a5, .inl (cI, 256, .inl (fun _ => 0))), (q6, .inr (1, [.int 0, .int 0, .int 0, .long 0, .long 1, .long 1, .long 0])), (q7, .inr (0, [.ref a7, .int 0])), (a7, .inl (cI, 256, .inl (fun _ => 0))), (q8, .inr (0, [.null, .int 0]))] H := hP
  have hD : va_D A [(h, .inr (2, [.ref q0, .ref q1, .ref q2, .ref q3, .ref q4, .ref q5, .ref q6, .ref q7, .null, .int 0, .int 0, .int 0, .int 0, .int 0, .int 0])), (q0, .inr (0, [.ref a0, .int 0])), (a0, .inl (cI, 256, .inl (fun _ => 0))), (q1, .inr (0, [.ref a1, .int 0])), (a1, .inl (cI, 256, .inl (fun _ => 0))), (q2, .inr (0, [.ref a2, .int 0])), (a2, .inl (cI, 16, .inl (fun _ => 0))), (q3, .inr (0, [.ref a3, .int 0])), (a3, .inl (cI, 256, .inl (fun _ => 0))), (q4, .inr (0, [.ref a4, .int 0])), (a4, .inl (cI, 256, .inl (fun _ => 0))), (q5, .inr (0, [.ref a5, .int 0])), (a5, .inl (cI, 256, .inl (fun _ => 0))), (q6, .inr (1, [.int 0, .int 0, .int 0, .long 0, .long 1, .long 1, .long 0])), (q7, .inr (0, [.ref a7, .int 0])), (a7, .inl (cI, 256, .inl (fun _ => 0))), (q8, .inr (0, [.null, .int 0]))] := hD
  refine W.widen (k := 16) (n := 1815) (Nat.le_of_ble_eq_true rfl) (Nat.le_of_ble_eq_true rfl) ?_
  refine lv_dup hx hb dX2_init_116 rfl ?_
  refine lv_sipush (v := 256) hx hb dX2_init_117 (by decide) ?_
  have hPc := hP.sub (ws' := [(q8, .inr (0, [.null, .int 0]))]) [16] rfl
  have hDc := hD.sub (ws' := [(q8, .inr (0, [.null, .int 0]))]) [16] (by decide) rfl
  have hKc := hK.sub (tys' := []) [] rfl
  have hFc := va_free (wc := [(q8, .inr (0, [.null, .int 0]))]) hD hS hA [16] rfl
  refine va_callv (va_runI (As := [.int 256]) (rest := [.ref q8, .ref h]) ⟨hx, hb, hml, hown, hts⟩ (c_X0_init l dC dI q8 256 256 (by decide) (by decide) (Nat.le_of_ble_eq_true rfl) H.size) (cwI 1 hts gX2_init_X0_init rfl rfl rfl zw5 zw7 zw6 rfl (by decide +kernel) ⟨(Nat.le_of_ble_eq_true rfl), (Nat.le_of_ble_eq_true rfl)⟩) (z_preI hKc hPc hDc) rfl rfl hl.1 rfl (lv_room (Nat.le_of_ble_eq_true rfl)) dX2_init_120 ⟨(Nat.le_of_ble_eq_true rfl), (Nat.le_of_ble_eq_true rfl)⟩) hS (fun q _ h => hFc q h) hFc (fun u t H1 locs ht hvm hw hB hz1 hk1 hS => ?_)
  obtain ⟨cA8, a8⟩ := u
  obtain ⟨hP1, hK1, hD1⟩ := hB
  rw [ht] at hP1
  have hK1 := va_K.moved hvm.symm hK1
  have hP1 : va_P (dC, dI) vwCl [(q8, .inr (0, [.ref a8, .int 0])), (a8, .inl (cA8, 256, .inl (fun _ => 0)))] H1 := hP1
  have hD1 : va_D _ [(q8, .inr (0, [.ref a8, .int 0])), (a8, .inl (cA8, 256, .inl (fun _ => 0)))] := hD1
  rw [show cA8 = cI from z_arrEq2 hK hK1] at hP1 hD1
  obtain ⟨hP, hD⟩ := va_join (wr := [(h, .inr (2, [.ref q0, .ref q1, .ref q2, .ref q3, .ref q4, .ref q5, .ref q6, .ref q7, .null, .int 0, .int 0, .int 0, .int 0, .int 0, .int 0])), (q0, .inr (0, [.ref a0, .int 0])), (a0, .inl (cI, 256, .inl (fun _ => 0))), (q1, .inr (0, [.ref a1, .int 0])), (a1, .inl (cI, 256, .inl (fun _ => 0))), (q2, .inr (0, [.ref a2, .int 0])), (a2, .inl (cI, 16, .inl (fun _ => 0))), (q3, .inr (0, [.ref a3, .int 0])), (a3, .inl (cI, 256, .inl (fun _ => 0))), (q4, .inr (0, [.ref a4, .int 0])), (a4, .inl (cI, 256, .inl (fun _ => 0))), (q5, .inr (0, [.ref a5, .int 0])), (a5, .inl (cI, 256, .inl (fun _ => 0))), (q6, .inr (1, [.int 0, .int 0, .int 0, .long 0, .long 1, .long 1, .long 0])), (q7, .inr (0, [.ref a7, .int 0])), (a7, .inl (cI, 256, .inl (fun _ => 0)))]) (w1 := [(q8, .inr (0, [.ref a8, .int 0])), (a8, .inl (cI, 256, .inl (fun _ => 0)))]) hP hD [16] [0, 1, 2, 3, 4, 5, 6, 7, 8, 9, 10, 11, 12, 13, 14, 15] rfl rfl (by decide) (by decide) hk1 hFc hP1 hD1
  generalize H1 = H at hP hS ⊢
  have hP : va_P (dC, dI) vwCl [(h, .inr (2, [.ref q0, .ref q1, .ref q2, .ref q3, .ref q4, .ref q5, .ref q6, .ref q7, .null, .int 0, .int 0, .int 0, .int 0, .int 0, .int 0])), (q0, .inr (0, [.ref a0, .int 0])), (a0, .inl (cI, 256, .inl (fun _ => 0))), (q1, .inr (0, [.ref a1, .int 0])), (a1, .inl (cI, 256, .inl (fun _ => 0))), (q2, .inr (0, [.ref a2, .int 0])), (a2, .inl (cI, 16, .inl (fun _ => 0))), (q3, .inr (0, [.ref a3, .int 0])), (a3, .inl (cI, 256, .inl (fun _ => 0))), (q4, .inr (0, [.ref a4, .int 0])), (a4, .inl (cI, 256, .inl (fun _ => 0))), (q5, .inr (0, [.ref a5, .int 0])), (a5, .inl (cI, 256, .inl (fun _ => 0))), (q6, .inr (1, [.int 0, .int 0, .int 0, .long 0, .long 1, .long 1, .long 0])), (q7, .inr (0, [.ref a7, .int 0])), (a7, .inl (cI, 256, .inl (fun _ => 0))), (q8, .inr (0, [.ref a8, .int 0])), (a8, .inl (cI, 256, .inl (fun _ => 0)))] H := hP
  have hD : va_D A [(h, .inr (2, [.ref q0, .ref q1, .ref q2, .ref q3, .ref q4, .ref q5, .ref q6, .ref q7, .null, .int 0, .int 0, .int 0, .int 0, .int 0, .int 0])), (q0, .inr (0, [.ref a0, .int 0])), (a0, .inl (cI, 256, .inl (fun _ => 0))), (q1, .inr (0, [.ref a1, .int 0])), (a1, .inl (cI, 256, .inl (fun _ => 0))), (q2, .inr (0, [.ref a2, .int 0])), (a2, .inl (cI, 16, .inl (fun _ => 0))), (q3, .inr (0, [.ref a3, .int 0])), (a3, .inl (cI, 256, .inl (fun _ => 0))), (q4, .inr (0, [.ref a4, .int 0])), (a4, .inl (cI, 256, .inl (fun _ => 0))), (q5, .inr (0, [.ref a5, .int 0])), (a5, .inl (cI, 256, .inl (fun _ => 0))), (q6, .inr (1, [.int 0, .int 0, .int 0, .long 0, .long 1, .long 1, .long 0])), (q7, .inr (0, [.ref a7, .int 0])), (a7, .inl (cI, 256, .inl (fun _ => 0))), (q8, .inr (0, [.ref a8, .int 0])), (a8, .inl (cI, 256, .inl (fun _ => 0)))] := hD
  refine W.widen (k := 17) (n := 2071) (Nat.le_of_ble_eq_true rfl) (Nat.le_of_ble_eq_true rfl) ?_
  refine va_putF (D := (dC, dI)) (ci := 2) (v := .ref q8) (ty := .object "LearnedLedge$Numbers") (C := RX2) (T := TX2) (N := 15) hx hb hts ziX2 tyX2 tyX2_ok nmX2 hown hK hP hD hS 0 rfl rfl 8 (by decide) zw20 (fun _ h9 => h9) rfl hin rfl (by decide +kernel) rfl rfl (Nat.le_of_ble_eq_true rfl) dX2_init_123 (fun H locs hP hD hS => ?_)
  have hP : va_P (dC, dI) vwCl [(h, .inr (2, [.ref q0, .ref q1, .ref q2, .ref q3, .ref q4, .ref q5, .ref q6, .ref q7, .ref q8, .int 0, .int 0, .int 0, .int 0, .int 0, .int 0])), (q0, .inr (0, [.ref a0, .int 0])), (a0, .inl (cI, 256, .inl (fun _ => 0))), (q1, .inr (0, [.ref a1, .int 0])), (a1, .inl (cI, 256, .inl (fun _ => 0))), (q2, .inr (0, [.ref a2, .int 0])), (a2, .inl (cI, 16, .inl (fun _ => 0))), (q3, .inr (0, [.ref a3, .int 0])), (a3, .inl (cI, 256, .inl (fun _ => 0))), (q4, .inr (0, [.ref a4, .int 0])), (a4, .inl (cI, 256, .inl (fun _ => 0))), (q5, .inr (0, [.ref a5, .int 0])), (a5, .inl (cI, 256, .inl (fun _ => 0))), (q6, .inr (1, [.int 0, .int 0, .int 0, .long 0, .long 1, .long 1, .long 0])), (q7, .inr (0, [.ref a7, .int 0])), (a7, .inl (cI, 256, .inl (fun _ => 0))), (q8, .inr (0, [.ref a8, .int 0])), (a8, .inl (cI, 256, .inl (fun _ => 0)))] H := hP
  have hD : va_D A [(h, .inr (2, [.ref q0, .ref q1, .ref q2, .ref q3, .ref q4, .ref q5, .ref q6, .ref q7, .ref q8, .int 0, .int 0, .int 0, .int 0, .int 0, .int 0])), (q0, .inr (0, [.ref a0, .int 0])), (a0, .inl (cI, 256, .inl (fun _ => 0))), (q1, .inr (0, [.ref a1, .int 0])), (a1, .inl (cI, 256, .inl (fun _ => 0))), (q2, .inr (0, [.ref a2, .int 0])), (a2, .inl (cI, 16, .inl (fun _ => 0))), (q3, .inr (0, [.ref a3, .int 0])), (a3, .inl (cI, 256, .inl (fun _ => 0))), (q4, .inr (0, [.ref a4, .int 0])), (a4, .inl (cI, 256, .inl (fun _ => 0))), (q5, .inr (0, [.ref a5, .int 0])), (a5, .inl (cI, 256, .inl (fun _ => 0))), (q6, .inr (1, [.int 0, .int 0, .int 0, .long 0, .long 1, .long 1, .long 0])), (q7, .inr (0, [.ref a7, .int 0])), (a7, .inl (cI, 256, .inl (fun _ => 0))), (q8, .inr (0, [.ref a8, .int 0])), (a8, .inl (cI, 256, .inl (fun _ => 0)))] := hD
  refine lv_aload_n hx hb dX2_init_126 rfl (lv_at hl 0 rfl) ?_
  refine lv_iconst (v := 2) hx hb dX2_init_127 (by decide) ?_
  refine va_put (D := (dC, dI)) (ci := 2) (v := .int 2) (ty := .int) (C := RX2) (T := TX2) (N := 15) hx hb hts ziX2 tyX2 tyX2_ok nmX2 hown hK hP hD hS 0 rfl rfl 9 (by decide) zw21 (fun _ h9 => h9) rfl (by decide +kernel) rfl rfl (Nat.le_of_ble_eq_true rfl) dX2_init_128 (fun H locs hP hD hS => ?_)
  have hP : va_P (dC, dI) vwCl [(h, .inr (2, [.ref q0, .ref q1, .ref q2, .ref q3, .ref q4, .ref q5, .ref q6, .ref q7, .ref q8, .int 2, .int 0, .int 0, .int 0, .int 0, .int 0])), (q0, .inr (0, [.ref a0, .int 0])), (a0, .inl (cI, 256, .inl (fun _ => 0))), (q1, .inr (0, [.ref a1, .int 0])), (a1, .inl (cI, 256, .inl (fun _ => 0))), (q2, .inr (0, [.ref a2, .int 0])), (a2, .inl (cI, 16, .inl (fun _ => 0))), (q3, .inr (0, [.ref a3, .int 0])), (a3, .inl (cI, 256, .inl (fun _ => 0))), (q4, .inr (0, [.ref a4, .int 0])), (a4, .inl (cI, 256, .inl (fun _ => 0))), (q5, .inr (0, [.ref a5, .int 0])), (a5, .inl (cI, 256, .inl (fun _ => 0))), (q6, .inr (1, [.int 0, .int 0, .int 0, .long 0, .long 1, .long 1, .long 0])), (q7, .inr (0, [.ref a7, .int 0])), (a7, .inl (cI, 256, .inl (fun _ => 0))), (q8, .inr (0, [.ref a8, .int 0])), (a8, .inl (cI, 256, .inl (fun _ => 0)))] H := hP
  have hD : va_D A [(h, .inr (2, [.ref q0, .ref q1, .ref q2, .ref q3, .ref q4, .ref q5, .ref q6, .ref q7, .ref q8, .int 2, .int 0, .int 0, .int 0, .int 0, .int 0])), (q0, .inr (0, [.ref a0, .int 0])), (a0, .inl (cI, 256, .inl (fun _ => 0))), (q1, .inr (0, [.ref a1, .int 0])), (a1, .inl (cI, 256, .inl (fun _ => 0))), (q2, .inr (0, [.ref a2, .int 0])), (a2, .inl (cI, 16, .inl (fun _ => 0))), (q3, .inr (0, [.ref a3, .int 0])), (a3, .inl (cI, 256, .inl (fun _ => 0))), (q4, .inr (0, [.ref a4, .int 0])), (a4, .inl (cI, 256, .inl (fun _ => 0))), (q5, .inr (0, [.ref a5, .int 0])), (a5, .inl (cI, 256, .inl (fun _ => 0))), (q6, .inr (1, [.int 0, .int 0, .int 0, .long 0, .long 1, .long 1, .long 0])), (q7, .inr (0, [.ref a7, .int 0])), (a7, .inl (cI, 256, .inl (fun _ => 0))), (q8, .inr (0, [.ref a8, .int 0])), (a8, .inl (cI, 256, .inl (fun _ => 0)))] := hD
  refine lv_aload_n hx hb dX2_init_131 rfl (lv_at hl 0 rfl) ?_
  refine lv_iconst (v := 4) hx hb dX2_init_132 (by decide) ?_
  refine va_put (D := (dC, dI)) (ci := 2) (v := .int 4) (ty := .int) (C := RX2) (T := TX2) (N := 15) hx hb hts ziX2 tyX2 tyX2_ok nmX2 hown hK hP hD hS 0 rfl rfl 10 (by decide) zw22 (fun _ h9 => h9) rfl (by decide +kernel) rfl rfl (Nat.le_of_ble_eq_true rfl) dX2_init_133 (fun H locs hP hD hS => ?_)
  have hP : va_P (dC, dI) vwCl [(h, .inr (2, [.ref q0, .ref q1, .ref q2, .ref q3, .ref q4, .ref q5, .ref q6, .ref q7, .ref q8, .int 2, .int 4, .int 0, .int 0, .int 0, .int 0])), (q0, .inr (0, [.ref a0, .int 0])), (a0, .inl (cI, 256, .inl (fun _ => 0))), (q1, .inr (0, [.ref a1, .int 0])), (a1, .inl (cI, 256, .inl (fun _ => 0))), (q2, .inr (0, [.ref a2, .int 0])), (a2, .inl (cI, 16, .inl (fun _ => 0))), (q3, .inr (0, [.ref a3, .int 0])), (a3, .inl (cI, 256, .inl (fun _ => 0))), (q4, .inr (0, [.ref a4, .int 0])), (a4, .inl (cI, 256, .inl (fun _ => 0))), (q5, .inr (0, [.ref a5, .int 0])), (a5, .inl (cI, 256, .inl (fun _ => 0))), (q6, .inr (1, [.int 0, .int 0, .int 0, .long 0, .long 1, .long 1, .long 0])), (q7, .inr (0, [.ref a7, .int 0])), (a7, .inl (cI, 256, .inl (fun _ => 0))), (q8, .inr (0, [.ref a8, .int 0])), (a8, .inl (cI, 256, .inl (fun _ => 0)))] H := hP
  have hD : va_D A [(h, .inr (2, [.ref q0, .ref q1, .ref q2, .ref q3, .ref q4, .ref q5, .ref q6, .ref q7, .ref q8, .int 2, .int 4, .int 0, .int 0, .int 0, .int 0])), (q0, .inr (0, [.ref a0, .int 0])), (a0, .inl (cI, 256, .inl (fun _ => 0))), (q1, .inr (0, [.ref a1, .int 0])), (a1, .inl (cI, 256, .inl (fun _ => 0))), (q2, .inr (0, [.ref a2, .int 0])), (a2, .inl (cI, 16, .inl (fun _ => 0))), (q3, .inr (0, [.ref a3, .int 0])), (a3, .inl (cI, 256, .inl (fun _ => 0))), (q4, .inr (0, [.ref a4, .int 0])), (a4, .inl (cI, 256, .inl (fun _ => 0))), (q5, .inr (0, [.ref a5, .int 0])), (a5, .inl (cI, 256, .inl (fun _ => 0))), (q6, .inr (1, [.int 0, .int 0, .int 0, .long 0, .long 1, .long 1, .long 0])), (q7, .inr (0, [.ref a7, .int 0])), (a7, .inl (cI, 256, .inl (fun _ => 0))), (q8, .inr (0, [.ref a8, .int 0])), (a8, .inl (cI, 256, .inl (fun _ => 0)))] := hD
  refine lv_aload_n hx hb dX2_init_136 rfl (lv_at hl 0 rfl) ?_
  refine lv_iconst (v := 0) hx hb dX2_init_137 (by decide) ?_
  refine va_put (D := (dC, dI)) (ci := 2) (v := .int 0) (ty := .int) (C := RX2) (T := TX2) (N := 15) hx hb hts ziX2 tyX2 tyX2_ok nmX2 hown hK hP hD hS 0 rfl rfl 11 (by decide) zw23 (fun _ h9 => h9) rfl (by decide +kernel) rfl rfl (Nat.le_of_ble_eq_true rfl) dX2_init_138 (fun H locs hP hD hS => ?_)
  have hP : va_P (dC, dI) vwCl [(h, .inr (2, [.ref q0, .ref q1, .ref q2, .ref q3, .ref q4, .ref q5, .ref q6, .ref q7, .ref q8, .int 2, .int 4, .int 0, .int 0, .int 0, .int 0])), (q0, .inr (0, [.ref a0, .int 0])), (a0, .inl (cI, 256, .inl (fun _ => 0))), (q1, .inr (0, [.ref a1, .int 0])), (a1, .inl (cI, 256, .inl (fun _ => 0))), (q2, .inr (0, [.ref a2, .int 0])), (a2, .inl (cI, 16, .inl (fun _ => 0))), (q3, .inr (0, [.ref a3, .int 0])), (a3, .inl (cI, 256, .inl (fun _ => 0))), (q4, .inr (0, [.ref a4, .int 0])), (a4, .inl (cI, 256, .inl (fun _ => 0))), (q5, .inr (0, [.ref a5, .int 0])), (a5, .inl (cI, 256, .inl (fun _ => 0))), (q6, .inr (1, [.int 0, .int 0, .int 0, .long 0, .long 1, .long 1, .long 0])), (q7, .inr (0, [.ref a7, .int 0])), (a7, .inl (cI, 256, .inl (fun _ => 0))), (q8, .inr (0, [.ref a8, .int 0])), (a8, .inl (cI, 256, .inl (fun _ => 0)))] H := hP
  have hD : va_D A [(h, .inr (2, [.ref q0, .ref q1, .ref q2, .ref q3, .ref q4, .ref q5, .ref q6, .ref q7, .ref q8, .int 2, .int 4, .int 0, .int 0, .int 0, .int 0])), (q0, .inr (0, [.ref a0, .int 0])), (a0, .inl (cI, 256, .inl (fun _ => 0))), (q1, .inr (0, [.ref a1, .int 0])), (a1, .inl (cI, 256, .inl (fun _ => 0))), (q2, .inr (0, [.ref a2, .int 0])), (a2, .inl (cI, 16, .inl (fun _ => 0))), (q3, .inr (0, [.ref a3, .int 0])), (a3, .inl (cI, 256, .inl (fun _ => 0))), (q4, .inr (0, [.ref a4, .int 0])), (a4, .inl (cI, 256, .inl (fun _ => 0))), (q5, .inr (0, [.ref a5, .int 0])), (a5, .inl (cI, 256, .inl (fun _ => 0))), (q6, .inr (1, [.int 0, .int 0, .int 0, .long 0, .long 1, .long 1, .long 0])), (q7, .inr (0, [.ref a7, .int 0])), (a7, .inl (cI, 256, .inl (fun _ => 0))), (q8, .inr (0, [.ref a8, .int 0])), (a8, .inl (cI, 256, .inl (fun _ => 0)))] := hD
  refine lv_aload_n hx hb dX2_init_141 rfl (lv_at hl 0 rfl) ?_
  refine lv_iconst (v := 0) hx hb dX2_init_142 (by decide) ?_
  refine va_put (D := (dC, dI)) (ci := 2) (v := .int 0) (ty := .int) (C := RX2) (T := TX2) (N := 15) hx hb hts ziX2 tyX2 tyX2_ok nmX2 hown hK hP hD hS 0 rfl rfl 12 (by decide) zw24 (fun _ h9 => h9) rfl (by decide +kernel) rfl rfl (Nat.le_of_ble_eq_true rfl) dX2_init_143 (fun H locs hP hD hS => ?_)
  have hP : va_P (dC, dI) vwCl [(h, .inr (2, [.ref q0, .ref q1, .ref q2, .ref q3, .ref q4, .ref q5, .ref q6, .ref q7, .ref q8, .int 2, .int 4, .int 0, .int 0, .int 0, .int 0])), (q0, .inr (0, [.ref a0, .int 0])), (a0, .inl (cI, 256, .inl (fun _ => 0))), (q1, .inr (0, [.ref a1, .int 0])), (a1, .inl (cI, 256, .inl (fun _ => 0))), (q2, .inr (0, [.ref a2, .int 0])), (a2, .inl (cI, 16, .inl (fun _ => 0))), (q3, .inr (0, [.ref a3, .int 0])), (a3, .inl (cI, 256, .inl (fun _ => 0))), (q4, .inr (0, [.ref a4, .int 0])), (a4, .inl (cI, 256, .inl (fun _ => 0))), (q5, .inr (0, [.ref a5, .int 0])), (a5, .inl (cI, 256, .inl (fun _ => 0))), (q6, .inr (1, [.int 0, .int 0, .int 0, .long 0, .long 1, .long 1, .long 0])), (q7, .inr (0, [.ref a7, .int 0])), (a7, .inl (cI, 256, .inl (fun _ => 0))), (q8, .inr (0, [.ref a8, .int 0])), (a8, .inl (cI, 256, .inl (fun _ => 0)))] H := hP
  have hD : va_D A [(h, .inr (2, [.ref q0, .ref q1, .ref q2, .ref q3, .ref q4, .ref q5, .ref q6, .ref q7, .ref q8, .int 2, .int 4, .int 0, .int 0, .int 0, .int 0])), (q0, .inr (0, [.ref a0, .int 0])), (a0, .inl (cI, 256, .inl (fun _ => 0))), (q1, .inr (0, [.ref a1, .int 0])), (a1, .inl (cI, 256, .inl (fun _ => 0))), (q2, .inr (0, [.ref a2, .int 0])), (a2, .inl (cI, 16, .inl (fun _ => 0))), (q3, .inr (0, [.ref a3, .int 0])), (a3, .inl (cI, 256, .inl (fun _ => 0))), (q4, .inr (0, [.ref a4, .int 0])), (a4, .inl (cI, 256, .inl (fun _ => 0))), (q5, .inr (0, [.ref a5, .int 0])), (a5, .inl (cI, 256, .inl (fun _ => 0))), (q6, .inr (1, [.int 0, .int 0, .int 0, .long 0, .long 1, .long 1, .long 0])), (q7, .inr (0, [.ref a7, .int 0])), (a7, .inl (cI, 256, .inl (fun _ => 0))), (q8, .inr (0, [.ref a8, .int 0])), (a8, .inl (cI, 256, .inl (fun _ => 0)))] := hD
  refine lv_aload_n hx hb dX2_init_146 rfl (lv_at hl 0 rfl) ?_
  refine lv_iconst (v := 0) hx hb dX2_init_147 (by decide) ?_
  refine va_put (D := (dC, dI)) (ci := 2) (v := .int 0) (ty := .int) (C := RX2) (T := TX2) (N := 15) hx hb hts ziX2 tyX2 tyX2_ok nmX2 hown hK hP hD hS 0 rfl rfl 13 (by decide) zw25 (fun _ h9 => h9) rfl (by decide +kernel) rfl rfl (Nat.le_of_ble_eq_true rfl) dX2_init_148 (fun H locs hP hD hS => ?_)
  have hP : va_P (dC, dI) vwCl [(h, .inr (2, [.ref q0, .ref q1, .ref q2, .ref q3, .ref q4, .ref q5, .ref q6, .ref q7, .ref q8, .int 2, .int 4, .int 0, .int 0, .int 0, .int 0])), (q0, .inr (0, [.ref a0, .int 0])), (a0, .inl (cI, 256, .inl (fun _ => 0))), (q1, .inr (0, [.ref a1, .int 0])), (a1, .inl (cI, 256, .inl (fun _ => 0))), (q2, .inr (0, [.ref a2, .int 0])), (a2, .inl (cI, 16, .inl (fun _ => 0))), (q3, .inr (0, [.ref a3, .int 0])), (a3, .inl (cI, 256, .inl (fun _ => 0))), (q4, .inr (0, [.ref a4, .int 0])), (a4, .inl (cI, 256, .inl (fun _ => 0))), (q5, .inr (0, [.ref a5, .int 0])), (a5, .inl (cI, 256, .inl (fun _ => 0))), (q6, .inr (1, [.int 0, .int 0, .int 0, .long 0, .long 1, .long 1, .long 0])), (q7, .inr (0, [.ref a7, .int 0])), (a7, .inl (cI, 256, .inl (fun _ => 0))), (q8, .inr (0, [.ref a8, .int 0])), (a8, .inl (cI, 256, .inl (fun _ => 0)))] H := hP
  have hD : va_D A [(h, .inr (2, [.ref q0, .ref q1, .ref q2, .ref q3, .ref q4, .ref q5, .ref q6, .ref q7, .ref q8, .int 2, .int 4, .int 0, .int 0, .int 0, .int 0])), (q0, .inr (0, [.ref a0, .int 0])), (a0, .inl (cI, 256, .inl (fun _ => 0))), (q1, .inr (0, [.ref a1, .int 0])), (a1, .inl (cI, 256, .inl (fun _ => 0))), (q2, .inr (0, [.ref a2, .int 0])), (a2, .inl (cI, 16, .inl (fun _ => 0))), (q3, .inr (0, [.ref a3, .int 0])), (a3, .inl (cI, 256, .inl (fun _ => 0))), (q4, .inr (0, [.ref a4, .int 0])), (a4, .inl (cI, 256, .inl (fun _ => 0))), (q5, .inr (0, [.ref a5, .int 0])), (a5, .inl (cI, 256, .inl (fun _ => 0))), (q6, .inr (1, [.int 0, .int 0, .int 0, .long 0, .long 1, .long 1, .long 0])), (q7, .inr (0, [.ref a7, .int 0])), (a7, .inl (cI, 256, .inl (fun _ => 0))), (q8, .inr (0, [.ref a8, .int 0])), (a8, .inl (cI, 256, .inl (fun _ => 0)))] := hD
  refine lv_aload_n hx hb dX2_init_151 rfl (lv_at hl 0 rfl) ?_
  refine lv_iconst (v := 0) hx hb dX2_init_152 (by decide) ?_
  refine va_put (D := (dC, dI)) (ci := 2) (v := .int 0) (ty := .int) (C := RX2) (T := TX2) (N := 15) hx hb hts ziX2 tyX2 tyX2_ok nmX2 hown hK hP hD hS 0 rfl rfl 14 (by decide) zw26 (fun _ h9 => h9) rfl (by decide +kernel) rfl rfl (Nat.le_of_ble_eq_true rfl) dX2_init_153 (fun H locs hP hD hS => ?_)
  have hP : va_P (dC, dI) vwCl [(h, .inr (2, [.ref q0, .ref q1, .ref q2, .ref q3, .ref q4, .ref q5, .ref q6, .ref q7, .ref q8, .int 2, .int 4, .int 0, .int 0, .int 0, .int 0])), (q0, .inr (0, [.ref a0, .int 0])), (a0, .inl (cI, 256, .inl (fun _ => 0))), (q1, .inr (0, [.ref a1, .int 0])), (a1, .inl (cI, 256, .inl (fun _ => 0))), (q2, .inr (0, [.ref a2, .int 0])), (a2, .inl (cI, 16, .inl (fun _ => 0))), (q3, .inr (0, [.ref a3, .int 0])), (a3, .inl (cI, 256, .inl (fun _ => 0))), (q4, .inr (0, [.ref a4, .int 0])), (a4, .inl (cI, 256, .inl (fun _ => 0))), (q5, .inr (0, [.ref a5, .int 0])), (a5, .inl (cI, 256, .inl (fun _ => 0))), (q6, .inr (1, [.int 0, .int 0, .int 0, .long 0, .long 1, .long 1, .long 0])), (q7, .inr (0, [.ref a7, .int 0])), (a7, .inl (cI, 256, .inl (fun _ => 0))), (q8, .inr (0, [.ref a8, .int 0])), (a8, .inl (cI, 256, .inl (fun _ => 0)))] H := hP
  have hD : va_D A [(h, .inr (2, [.ref q0, .ref q1, .ref q2, .ref q3, .ref q4, .ref q5, .ref q6, .ref q7, .ref q8, .int 2, .int 4, .int 0, .int 0, .int 0, .int 0])), (q0, .inr (0, [.ref a0, .int 0])), (a0, .inl (cI, 256, .inl (fun _ => 0))), (q1, .inr (0, [.ref a1, .int 0])), (a1, .inl (cI, 256, .inl (fun _ => 0))), (q2, .inr (0, [.ref a2, .int 0])), (a2, .inl (cI, 16, .inl (fun _ => 0))), (q3, .inr (0, [.ref a3, .int 0])), (a3, .inl (cI, 256, .inl (fun _ => 0))), (q4, .inr (0, [.ref a4, .int 0])), (a4, .inl (cI, 256, .inl (fun _ => 0))), (q5, .inr (0, [.ref a5, .int 0])), (a5, .inl (cI, 256, .inl (fun _ => 0))), (q6, .inr (1, [.int 0, .int 0, .int 0, .long 0, .long 1, .long 1, .long 0])), (q7, .inr (0, [.ref a7, .int 0])), (a7, .inl (cI, 256, .inl (fun _ => 0))), (q8, .inr (0, [.ref a8, .int 0])), (a8, .inl (cI, 256, .inl (fun _ => 0)))] := hD
  exact W.vret hx hb hr (fun t ht hW => ⟨⟨(cI, zAd [h, q0, a0, q1, a1, q2, a2, q3, a3, q4, a4, q5, a5, q6, q7, a7, q8, a8]), rfl, rfl, by rw [ht]; exact hP, va_K.moved hW.alike hK, hD⟩, hS.F ht⟩) hS.2.2 dX2_init_156
