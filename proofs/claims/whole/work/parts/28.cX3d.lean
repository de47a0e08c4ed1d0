set_option maxHeartbeats 4000000 in
set_option maxRecDepth 100000 in
theorem c_X3_appendMany (l : Launch) (dC : Nat → ClassId) (dI : Nat → Nat → Nat) (cI : ClassId) (cZ : ClassId) (md : Nat → Nat) (yth : Int32) (ybd : Int32) (yro : Int32) (yrow : Nat → Int32) (ymk : Nat → Int32) (yrm : Int32) (yst : Nat → Int32) (ypc : Int32) (ybu : Nat → Int32) (ybn : Int32) (ymg : Int32) (ysp : Int32) (yjn : Int32) (ymd : Nat → Int32) (ybg : Nat → Int32) (ymm : Int32) (yup : Int64) (yun : Int64) (F : Nat) (p1 : Int32) (p2 : Int32) (p3 : Int32) (sz : Nat) (r : Int32) (u_yth : Int32) (u_yrow : Nat → Int32) (u_ymk : Nat → Int32) (u_yrm : Int32) (u_yst : Nat → Int32) (u_ypc : Int32) (u_yup : Int64) (u_yun : Int64) (hm : X3_appendMany F yth ybd yrow ymk yrm yst ypc ybu ybn yup yun p1 p2 p3 = some (r, u_yth, u_yrow, u_ymk, u_yrm, u_yst, u_ypc, u_yup, u_yun)) : Met l yX3_appendMany wsX3_appendMany ({ frames := 2, cells := 0, slots := 0, locals := 53 }) (va_Pc [.ref (md 0), .int p1, .int p2, .int p3] (zW (dC, dI) (wM cI cZ md yth ybd yro yrow ymk yrm yst ypc ybu ybn ymg ysp yjn ymd ybg ymm yup yun) [(cI, .int), (cZ, .boolean)] sz)) (zQi (dC, dI) (wM cI cZ md u_yth ybd yro u_yrow u_ymk u_yrm u_yst u_ypc ybu ybn ymg ysp yjn ymd ybg ymm u_yup u_yun) [(cI, .int), (cZ, .boolean)] (va_A (wM cI cZ md yth ybd yro yrow ymk yrm yst ypc ybu ybn ymg ysp yjn ymd ybg ymm yup yun) sz) r) 0 0 (va_A (wM cI cZ md yth ybd yro yrow ymk yrm yst ypc ybu ybn ymg ysp yjn ymd ybg ymm yup yun) sz) := by
  refine Met.ofW (cc := cX3_appendMany) (maxL := 6) (ret := (some .int)) (by decide) rfl ?_
  intro p e s m args below meth c s₁ B hml hv
  obtain ⟨rfl, hsz, hP, hK, hD0⟩ := hv
  have hx := B.exec
  have hb := B.bytes
  have hr := B.returns
  have hts := atoms_spec (ws := wsX3_appendMany) B.pre
  have hown : s.vm.findClass RX3 = some m.cls := findClass_of_methodNamed B.named
  have hlocks := B.notSynchronized
  subst hsz
  have hD := hD0.self (sz := s.heap.size)
  generalize hAe : va_A (wM cI cZ md yth ybd yro yrow ymk yrm yst ypc ybu ybn ymg ysp yjn ymd ybg ymm yup yun) s.heap.size = A at hD ⊢
  have hA : ∀ q : Nat, s.heap.size ≤ q → A q := fun q h => by rw [← hAe]; exact Or.inr h
  have hS : va_S A s.heap s.heap [] := va_S.rf
  generalize eL : ([] : List Loc) = locs at hS ⊢
  obtain ⟨H, eH⟩ : ∃ z : Heap, z = s.heap := ⟨_, rfl⟩
  have hP : va_P (dC, dI) vwCl (wM cI cZ md yth ybd yro yrow ymk yrm yst ypc ybu ybn ymg ysp yjn ymd ybg ymm yup yun) H := by rw [eH]; exact hP
  have hS : va_S A s.heap H locs := by rw [eH]; exact hS
  refine z_heap eH ?_
  have hl := lv_entry ([.ref (md 0), .int p1, .int p2, .int p3]) (n := 6) (Nat.le_of_ble_eq_true rfl)
  rw [lg_entry_eq]
  generalize (lg_sl ([.ref (md 0), .int p1, .int p2, .int p3]) ++ List.replicate (6 - (lg_sl ([.ref (md 0), .int p1, .int p2, .int p3])).length) Slot.unset).toArray = ls at hl ⊢
  have hl : lv_has ls 6 [(0, .ref (md 0)), (1, .int p1), (2, .int p2), (3, .int p3)] := hl
  have zw0 := hts (.fieldLink RX3 36 "LearnedLedgeModel" "thrown" "I") (List.mem_cons_of_mem _ (List.mem_append_left _ (List.mem_append_left _ (List.mem_of_getElem? (i := 0) rfl))))
  have zw1 := hts (.fieldLink RX3 48 "LearnedLedgeModel" "pieces" "I") (List.mem_cons_of_mem _ (List.mem_append_left _ (List.mem_append_left _ (List.mem_of_getElem? (i := 1) rfl))))
  have ziX3 : ∀ w ∈ u_ws RX3 TX3 18, w ∈ wsX3_appendMany := (fun _ h9 => (List.mem_cons_of_mem _ (List.mem_append_right _ h9)))
  refine lv_iload_n hx hb dX3_appendMany_0 rfl (lv_at hl 1 rfl) ?_
  obtain ⟨r1, h_1, hm⟩ := ob hm
  refine z_callSi (As := [.int p1]) (rest := []) ⟨hx, hb, hml, hown, hts⟩ (c_X3_isKey l dC dI F p1 r1 h_1) (va_cwS 1 hts gX3_appendMany_X3_isKey rfl rfl rfl ks_X3_isKey ⟨Nat.le_of_ble_eq_true rfl, Nat.le_of_ble_eq_true rfl⟩) (hK.sub (tys' := []) [] rfl) z_P0 rfl hl.1 rfl (Nat.le_of_ble_eq_true rfl) dX3_appendMany_1 ⟨Nat.zero_le _, Nat.zero_le _⟩ ?_
  obtain ⟨y35, e_y35⟩ : ∃ y : Int32, y = (if r1 = 0 then 0 else (if p2 < 1 then 0 else (if 10000 < p2 then 0 else (if p3 < 1 then 0 else (if 100 < p3 then 0 else 1))))) := ⟨_, rfl⟩
  have hm := bnd_e hm e_y35
  have J_35 : W p l e (headSpec wsX3_appendMany ({ frames := 2, cells := 0, slots := 0, locals := 53 } : Room)).room s m ([.ref (md 0), .int p1, .int p2, .int p3] : List Value).toArray below meth c H locs 0 0 (MQ below (zQi (dC, dI) (wM cI cZ md u_yth ybd yro u_yrow u_ymk u_yrm u_yst u_ypc ybu ybn ymg ysp yjn ymd ybg ymm u_yup u_yun) [(cI, .int), (cZ, .boolean)] A r) ([.ref (md 0), .int p1, .int p2, .int p3] : List Value).toArray s 0 0 A) (F0 m 35 ls [.int y35]) := by
    refine lv_istore (lv' := [(4, .int y35), (0, .ref (md 0)), (1, .int p1), (2, .int p2), (3, .int p3)]) hx hb dX3_appendMany_35 hl (by decide) rfl (fun ls hl => ?_)
    refine lv_aload_n hx hb dX3_appendMany_37 rfl (lv_at hl 1 rfl) ?_
    refine lv_iload hx hb dX3_appendMany_38 (lv_at hl 0 rfl) ?_
    obtain ⟨z_85, hq_85, hm⟩ := ob hm
    have J_85 : ∀ (y85 : Int32), z_85 = y85 → W p l e (headSpec wsX3_appendMany ({ frames := 2, cells := 0, slots := 0, locals := 53 } : Room)).room s m ([.ref (md 0), .int p1, .int p2, .int p3] : List Value).toArray below meth c H locs 0 0 (MQ below (zQi (dC, dI) (wM cI cZ md u_yth ybd yro u_yrow u_ymk u_yrm u_yst u_ypc ybu ybn ymg ysp yjn ymd ybg ymm u_yup u_yun) [(cI, .int), (cZ, .boolean)] A r) ([.ref (md 0), .int p1, .int p2, .int p3] : List Value).toArray s 0 0 A) (F0 m 85 ls [.int y85, .ref (md 0)]) := by
      intro y85 ez
      rw [ez] at hm
      refine va_put (D := (dC, dI)) (ci := 3) (v := .int y85) (ty := .int) (C := RX3) (T := TX3) (N := 18) hx hb hts ziX3 tyX3 tyX3_ok nmX3 hown hK hP hD hS 0 rfl rfl 0 (by decide) zw0 (fun _ h9 => h9) rfl (by decide +kernel) rfl rfl (Nat.le_of_ble_eq_true rfl) dX3_appendMany_85 (fun H locs hP hD hS => ?_)
      have hP : va_P (dC, dI) vwCl (wM cI cZ md y85 ybd yro yrow ymk yrm yst ypc ybu ybn ymg ysp yjn ymd ybg ymm yup yun) H := hP
      have hD : va_D A (wM cI cZ md y85 ybd yro yrow ymk yrm yst ypc ybu ybn ymg ysp yjn ymd ybg ymm yup yun) := hD
      refine lv_iconst (v := 0) hx hb dX3_appendMany_88 (by decide) ?_
      refine lv_istore (lv' := [(5, .int 0), (4, .int y35), (0, .ref (md 0)), (1, .int p1), (2, .int p2), (3, .int p3)]) hx hb dX3_appendMany_89 hl (by decide) rfl (fun ls hl => ?_)
      obtain ⟨z_91, hq_91, hm⟩ := ob hm
      have K_91 : ∀ (yrowx91 : Nat → Int32), ∀ (ymkx91 : Nat → Int32), ∀ (yrmx91 : Int32), ∀ (ystx91 : Nat → Int32), ∀ (ypcx91 : Int32), ∀ (yupx91 : Int64), ∀ (yunx91 : Int64), z_91 = (yrowx91, ymkx91, yrmx91, ystx91, ypcx91, yupx91, yunx91) → ∀ (H : Heap) (locs : List Loc), va_P (dC, dI) vwCl (wM cI cZ md y85 ybd yro yrowx91 ymkx91 yrmx91 ystx91 ypcx91 ybu ybn ymg ysp yjn ymd ybg ymm yupx91 yunx91) H → va_D A (wM cI cZ md y85 ybd yro yrowx91 ymkx91 yrmx91 ystx91 ypcx91 ybu ybn ymg ysp yjn ymd ybg ymm yupx91 yunx91) → va_S A s.heap H locs → ∀ (ls : Array Slot), lv_has ls 6 [(0, .ref (md 0))] → W p l e (headSpec wsX3_appendMany ({ frames := 2, cells := 0, slots := 0, locals := 53 } : Room)).room s m ([.ref (md 0), .int p1, .int p2, .int p3] : List Value).toArray below meth c H locs 0 0 (MQ below (zQi (dC, dI) (wM cI cZ md u_yth ybd yro u_yrow u_ymk u_yrm u_yst u_ypc ybu ybn ymg ysp yjn ymd ybg ymm u_yup u_yun) [(cI, .int), (cZ, .boolean)] A r) ([.ref (md 0), .int p1, .int p2, .int p3] : List Value).toArray s 0 0 A) (F0 m 120 ls []) := by
        intro yrowx91 ymkx91 yrmx91 ystx91 ypcx91 yupx91 yunx91 ez H locs hP hD hS ls hl
        rw [ez] at hm
        refine lv_aload_n hx hb dX3_appendMany_120 rfl (lv_at hl 0 rfl) ?_
        refine va_get (D := (dC, dI)) (ci := 3) (v := .int ypcx91) (C := RX3) (T := TX3) (N := 18) hx hb hts ziX3 hown hK hP 0 rfl rfl 7 (by decide) zw1 (fun _ h9 => h9) rfl dX3_appendMany_121 ?_
        cases o2 hm
        exact W.iret hx hb hr (fun t ht hW => ⟨⟨_, (), rfl, rfl, by rw [ht]; exact hP, va_K.moved hW.alike hK, hD⟩, hS.F ht⟩) hS.2.2 dX3_appendMany_124
      have L_91 : ∀ (n : Nat) (x5 : Int32) (yrowl91 : Nat → Int32) (ymkl91 : Nat → Int32) (yrml91 : Int32) (ystl91 : Nat → Int32) (ypcl91 : Int32) (yupl91 : Int64) (yunl91 : Int64), X3_appendMany_L91 p1 p2 p3 ybd F y85 n x5 yrowl91 ymkl91 yrml91 ystl91 ypcl91 yupl91 yunl91 = some z_91 → ∀ (H : Heap) (locs : List Loc), va_P (dC, dI) vwCl (wM cI cZ md y85 ybd yro yrowl91 ymkl91 yrml91 ystl91 ypcl91 ybu ybn ymg ysp yjn ymd ybg ymm yupl91 yunl91) H → va_D A (wM cI cZ md y85 ybd yro yrowl91 ymkl91 yrml91 ystl91 ypcl91 ybu ybn ymg ysp yjn ymd ybg ymm yupl91 yunl91) → va_S A s.heap H locs → ∀ (ls : Array Slot), lv_has ls 6 [(5, .int x5), (0, .ref (md 0)), (1, .int p1), (2, .int p2), (3, .int p3)] → W p l e (headSpec wsX3_appendMany ({ frames := 2, cells := 0, slots := 0, locals := 53 } : Room)).room s m ([.ref (md 0), .int p1, .int p2, .int p3] : List Value).toArray below meth c H locs 0 0 (MQ below (zQi (dC, dI) (wM cI cZ md u_yth ybd yro u_yrow u_ymk u_yrm u_yst u_ypc ybu ybn ymg ysp yjn ymd ybg ymm u_yup u_yun) [(cI, .int), (cZ, .boolean)] A r) ([.ref (md 0), .int p1, .int p2, .int p3] : List Value).toArray s 0 0 A) (F0 m 91 ls []) := by
        intro n
        induction n with
        | zero => intro x5 yrowl91 ymkl91 yrml91 ystl91 ypcl91 yupl91 yunl91 hm; cases hm
        | succ n ih_91 =>
          intro x5 yrowl91 ymkl91 yrml91 ystl91 ypcl91 yupl91 yunl91 hm H locs hP hD hS ls hl
          refine lv_iload hx hb dX3_appendMany_91 (lv_at hl 0 rfl) ?_
          refine lv_iload_n hx hb dX3_appendMany_93 rfl (lv_at hl 4 rfl) ?_
          refine lv_icmp_ge (tgt := 120) hx hb dX3_appendMany_94 (by decide) (fun c_94 => ?_) (fun c_94 => ?_)
          · have hm := it_t hm c_94
            exact K_91 yrowl91 ymkl91 yrml91 ystl91 ypcl91 yupl91 yunl91 (o2 hm) _ _ hP hD hS _ (lv_sub hl [1] rfl)
          · have hm := it_f hm c_94
            refine lv_aload_n hx hb dX3_appendMany_97 rfl (lv_at hl 1 rfl) ?_
            refine va_get (D := (dC, dI)) (ci := 3) (v := .int y85) (C := RX3) (T := TX3) (N := 18) hx hb hts ziX3 hown hK hP 0 rfl rfl 0 (by decide) zw0 (fun _ h9 => h9) rfl dX3_appendMany_98 ?_
            refine lv_if_ne (tgt := 120) hx hb dX3_appendMany_101 (by decide) (fun c_101 => ?_) (fun c_101 => ?_)
            · have hm := it_f hm c_101
              exact K_91 yrowl91 ymkl91 yrml91 ystl91 ypcl91 yupl91 yunl91 (o2 hm) _ _ hP hD hS _ (lv_sub hl [1] rfl)
            · have hm := it_t hm c_101
              refine lv_aload_n hx hb dX3_appendMany_104 rfl (lv_at hl 1 rfl) ?_
              refine lv_iload_n hx hb dX3_appendMany_105 rfl (lv_at hl 2 rfl) ?_
              refine lv_iload_n hx hb dX3_appendMany_106 rfl (lv_at hl 3 rfl) ?_
              refine lv_iload hx hb dX3_appendMany_107 (lv_at hl 0 rfl) ?_
              refine lv_imul hx hb dX3_appendMany_109 ?_
              refine lv_iadd hx hb dX3_appendMany_110 ?_
              obtain ⟨⟨yrow111, ymk111, yrm111, yst111, ypc111, yup111, yun111⟩, h_111, hm⟩ := ob hm
              refine z_callWv (wc := (wM cI cZ md y85 ybd yro yrowl91 ymkl91 yrml91 ystl91 ypcl91 ybu ybn ymg ysp yjn ymd ybg ymm yupl91 yunl91)) (w1 := (wM cI cZ md y85 ybd yro yrow111 ymk111 yrm111 yst111 ypc111 ybu ybn ymg ysp yjn ymd ybg ymm yup111 yun111)) (ws := (wM cI cZ md y85 ybd yro yrowl91 ymkl91 yrml91 ystl91 ypcl91 ybu ybn ymg ysp yjn ymd ybg ymm yupl91 yunl91)) (ws' := (wM cI cZ md y85 ybd yro yrow111 ymk111 yrm111 yst111 ypc111 ybu ybn ymg ysp yjn ymd ybg ymm yup111 yun111)) (As := [.int (p1 + (p2 * x5))]) (rest := []) (ci := 3) (q := (RX3, TX3, 18)) ⟨hx, hb, hml, hown, hts⟩ (c_X3_ends l dC dI cI cZ md y85 ybd yro yrowl91 ymkl91 yrml91 ystl91 ypcl91 ybu ybn ymg ysp yjn ymd ybg ymm yupl91 yunl91 F (p1 + (p2 * x5)) H.size yrow111 ymk111 yrm111 yst111 ypc111 yup111 yun111 h_111) (cwV 1 hts gX3_appendMany_X3_ends rfl rfl rfl kv_X3_ends ⟨Nat.le_of_ble_eq_true rfl, Nat.le_of_ble_eq_true rfl⟩) hK hP hD hS hA (z_spAll (wM cI cZ md y85 ybd yro yrowl91 ymkl91 yrml91 ystl91 ypcl91 ybu ybn ymg ysp yjn ymd ybg ymm yupl91 yunl91) (wM cI cZ md y85 ybd yro yrow111 ymk111 yrm111 yst111 ypc111 ybu ybn ymg ysp yjn ymd ybg ymm yup111 yun111)) ((paM cI cZ md y85 ybd yro yrow111 ymk111 yrm111 yst111 ypc111 ybu ybn ymg ysp yjn ymd ybg ymm yup111 yun111).trans (paM cI cZ md y85 ybd yro yrowl91 ymkl91 yrml91 ystl91 ypcl91 ybu ybn ymg ysp yjn ymd ybg ymm yupl91 yunl91).symm) rfl rfl rfl rfl hl.1 rfl (Nat.le_of_ble_eq_true rfl) dX3_appendMany_111 ⟨Nat.zero_le _, Nat.zero_le _⟩ (fun H locs hP hD hS => ?_)
              obtain ⟨x5_1, e_x5_1⟩ : ∃ y : Int32, y = x5 + 1 := ⟨_, rfl⟩
              have hm := bnd_e hm e_x5_1
              refine lv_iinc (v := x5_1) (lv' := [(5, .int x5_1), (0, .ref (md 0)), (1, .int p1), (2, .int p2), (3, .int p3)]) hx hb dX3_appendMany_114 hl (k := 0) rfl (by rw [e_x5_1]; rfl) (by decide) rfl (fun ls hl => ?_)
              refine lv_goto (tgt := 91) hx hb dX3_appendMany_117 (by decide) ?_
              exact ih_91 x5_1 yrow111 ymk111 yrm111 yst111 ypc111 yup111 yun111 hm _ _ hP hD hS _ (lv_sub hl [0, 1, 2, 3, 4] rfl)
      exact L_91 F 0 yrow ymk yrm yst ypc yup yun hq_91 _ _ hP hD hS _ (lv_sub hl [0, 2, 3, 4, 5] rfl)
    have hm := hq_85
    refine lv_if_eq (tgt := 56) hx hb dX3_appendMany_40 (by decide) (fun c_40 => ?_) (fun c_40 => ?_)
    · have hm := it_t hm c_40
      refine lv_iconst (v := 1) hx hb dX3_appendMany_56 (by decide) ?_
      refine lv_goto (tgt := 85) hx hb dX3_appendMany_57 (by decide) ?_
      exact J_85 1 (o2 hm)
    · have hm := it_f hm c_40
      refine lv_iload_n hx hb dX3_appendMany_43 rfl (lv_at hl 2 rfl) ?_
      refine lv_iload_n hx hb dX3_appendMany_44 rfl (lv_at hl 3 rfl) ?_
      refine lv_iload_n hx hb dX3_appendMany_45 rfl (lv_at hl 4 rfl) ?_
      refine lv_iconst (v := 1) hx hb dX3_appendMany_46 (by decide) ?_
      refine lv_isub hx hb dX3_appendMany_47 ?_
      refine lv_imul hx hb dX3_appendMany_48 ?_
      refine lv_iadd hx hb dX3_appendMany_49 ?_
      obtain ⟨r50, h_50, hm⟩ := ob hm
      refine z_callSi (As := [.int (p1 + (p2 * (p3 - 1)))]) (rest := [.ref (md 0)]) ⟨hx, hb, hml, hown, hts⟩ (c_X3_isKey l dC dI F (p1 + (p2 * (p3 - 1))) r50 h_50) (va_cwS 1 hts gX3_appendMany_X3_isKey rfl rfl rfl ks_X3_isKey ⟨Nat.le_of_ble_eq_true rfl, Nat.le_of_ble_eq_true rfl⟩) (hK.sub (tys' := []) [] rfl) z_P0 rfl hl.1 rfl (Nat.le_of_ble_eq_true rfl) dX3_appendMany_50 ⟨Nat.zero_le _, Nat.zero_le _⟩ ?_
      refine lv_if_ne (tgt := 60) hx hb dX3_appendMany_53 (by decide) (fun c_53 => ?_) (fun c_53 => ?_)
      · have hm := it_f hm c_53
        refine lv_aload_n hx hb dX3_appendMany_60 rfl (lv_at hl 1 rfl) ?_
        obtain ⟨r61, h_61, hm⟩ := ob hm
        refine z_callRi (As := []) (rest := [.ref (md 0)]) (ci := 3) (q := (RX3, TX3, 18)) ⟨hx, hb, hml, hown, hts⟩ (c_X3_many l dC dI cI cZ md yth ybd yro yrow ymk yrm yst ypc ybu ybn ymg ysp yjn ymd ybg ymm yup yun F r61 h_61) (cwV 0 hts gX3_appendMany_X3_many rfl rfl rfl kv_X3_many ⟨Nat.le_of_ble_eq_true rfl, Nat.le_of_ble_eq_true rfl⟩) hK hP rfl rfl rfl rfl hl.1 rfl (Nat.le_of_ble_eq_true rfl) dX3_appendMany_61 ⟨Nat.zero_le _, Nat.zero_le _⟩ ?_
        refine lv_iload_n hx hb dX3_appendMany_64 rfl (lv_at hl 4 rfl) ?_
        refine lv_iadd hx hb dX3_appendMany_65 ?_
        refine lv_sipush (v := 256) hx hb dX3_appendMany_66 (by decide) ?_
        refine lv_icmp_gt (tgt := 80) hx hb dX3_appendMany_69 (by decide) (fun c_69 => ?_) (fun c_69 => ?_)
        · have hm := it_t hm c_69
          refine lv_iconst (v := 2) hx hb dX3_appendMany_80 (by decide) ?_
          refine lv_goto (tgt := 85) hx hb dX3_appendMany_81 (by decide) ?_
          exact J_85 2 (o2 hm)
        · have hm := it_f hm c_69
          refine lv_aload_n hx hb dX3_appendMany_72 rfl (lv_at hl 1 rfl) ?_
          refine lv_iload_n hx hb dX3_appendMany_73 rfl (lv_at hl 2 rfl) ?_
          obtain ⟨r74, h_74, hm⟩ := ob hm
          refine z_callRi (As := [.int p1]) (rest := [.ref (md 0)]) (ci := 3) (q := (RX3, TX3, 18)) ⟨hx, hb, hml, hown, hts⟩ (c_X3_isAbove l dC dI cI cZ md yth ybd yro yrow ymk yrm yst ypc ybu ybn ymg ysp yjn ymd ybg ymm yup yun F p1 r74 h_74) (cwV 1 hts gX3_appendMany_X3_isAbove rfl rfl rfl kv_X3_isAbove ⟨Nat.le_of_ble_eq_true rfl, Nat.le_of_ble_eq_true rfl⟩) hK hP rfl rfl rfl rfl hl.1 rfl (Nat.le_of_ble_eq_true rfl) dX3_appendMany_74 ⟨Nat.zero_le _, Nat.zero_le _⟩ ?_
          refine lv_if_ne (tgt := 84) hx hb dX3_appendMany_77 (by decide) (fun c_77 => ?_) (fun c_77 => ?_)
          · have hm := it_f hm c_77
            refine lv_iconst (v := 0) hx hb dX3_appendMany_84 (by decide) ?_
            exact J_85 0 (o2 hm)
          · have hm := it_t hm c_77
            refine lv_iconst (v := 2) hx hb dX3_appendMany_80 (by decide) ?_
            refine lv_goto (tgt := 85) hx hb dX3_appendMany_81 (by decide) ?_
            exact J_85 2 (o2 hm)
      · have hm := it_t hm c_53
        refine lv_iconst (v := 1) hx hb dX3_appendMany_56 (by decide) ?_
        refine lv_goto (tgt := 85) hx hb dX3_appendMany_57 (by decide) ?_
        exact J_85 1 (o2 hm)
  refine lv_if_eq (tgt := 34) hx hb dX3_appendMany_4 (by decide) (fun c_4 => ?_) (fun c_4 => ?_)
  · refine lv_iconst (v := 0) hx hb dX3_appendMany_34 (by decide) ?_
    have e9 : y35 = 0 := by rw [e_y35, if_pos c_4]
    rw [e9] at J_35
    exact J_35
  · refine lv_iload_n hx hb dX3_appendMany_7 rfl (lv_at hl 2 rfl) ?_
    refine lv_iconst (v := 1) hx hb dX3_appendMany_8 (by decide) ?_
    refine lv_icmp_lt (tgt := 34) hx hb dX3_appendMany_9 (by decide) (fun c_9 => ?_) (fun c_9 => ?_)
    · refine lv_iconst (v := 0) hx hb dX3_appendMany_34 (by decide) ?_
      have e9 : y35 = 0 := by rw [e_y35, if_neg c_4, if_pos c_9]
      rw [e9] at J_35
      exact J_35
    · refine lv_iload_n hx hb dX3_appendMany_12 rfl (lv_at hl 2 rfl) ?_
      refine lv_sipush (v := 10000) hx hb dX3_appendMany_13 (by decide) ?_
      refine lv_icmp_gt (tgt := 34) hx hb dX3_appendMany_16 (by decide) (fun c_16 => ?_) (fun c_16 => ?_)
      · refine lv_iconst (v := 0) hx hb dX3_appendMany_34 (by decide) ?_
        have e9 : y35 = 0 := by rw [e_y35, if_neg c_4, if_neg c_9, if_pos c_16]
        rw [e9] at J_35
        exact J_35
      · refine lv_iload_n hx hb dX3_appendMany_19 rfl (lv_at hl 3 rfl) ?_
        refine lv_iconst (v := 1) hx hb dX3_appendMany_20 (by decide) ?_
        refine lv_icmp_lt (tgt := 34) hx hb dX3_appendMany_21 (by decide) (fun c_21 => ?_) (fun c_21 => ?_)
        · refine lv_iconst (v := 0) hx hb dX3_appendMany_34 (by decide) ?_
          have e9 : y35 = 0 := by rw [e_y35, if_neg c_4, if_neg c_9, if_neg c_16, if_pos c_21]
          rw [e9] at J_35
          exact J_35
        · refine lv_iload_n hx hb dX3_appendMany_24 rfl (lv_at hl 3 rfl) ?_
          refine lv_bipush (v := 100) hx hb dX3_appendMany_25 (by decide) ?_
          refine lv_icmp_gt (tgt := 34) hx hb dX3_appendMany_27 (by decide) (fun c_27 => ?_) (fun c_27 => ?_)
          · refine lv_iconst (v := 0) hx hb dX3_appendMany_34 (by decide) ?_
            have e9 : y35 = 0 := by rw [e_y35, if_neg c_4, if_neg c_9, if_neg c_16, if_neg c_21, if_pos c_27]
            rw [e9] at J_35
            exact J_35
          · refine lv_iconst (v := 1) hx hb dX3_appendMany_30 (by decide) ?_
            refine lv_goto (tgt := 35) hx hb dX3_appendMany_31 (by decide) ?_
            have e9 : y35 = 1 := by rw [e_y35, if_neg c_4, if_neg c_9, if_neg c_16, if_neg c_21, if_neg c_27]
            rw [e9] at J_35
            exact J_35
set_option maxHeartbeats 4000000 in
set_option maxRecDepth 100000 in
theorem c_X3_makes (l : Launch) (dC : Nat → ClassId) (dI : Nat → Nat → Nat) (cI : ClassId) (cZ : ClassId) (md : Nat → Nat) (yth : Int32) (ybd : Int32) (yro : Int32) (yrow : Nat → Int32) (ymk : Nat → Int32) (yrm : Int32) (yst : Nat → Int32) (ypc : Int32) (ybu : Nat → Int32) (ybn : Int32) (ymg : Int32) (ysp : Int32) (yjn : Int32) (ymd : Nat → Int32) (ybg : Nat → Int32) (ymm : Int32) (yup : Int64) (yun : Int64) (F : Nat) (p1 : Int32) (sz : Nat) (u_ymd : Nat → Int32) (u_ymm : Int32) (hm : X3_makes F ymd ymm p1 = some (u_ymd, u_ymm)) : Met l yX3_makes wsX3_makes ({ frames := 0, cells := 0, slots := 0, locals := 0 }) (va_Pc [.ref (md 0), .int p1] (zW (dC, dI) (wM cI cZ md yth ybd yro yrow ymk yrm yst ypc ybu ybn ymg ysp yjn ymd ybg ymm yup yun) [(cI, .int), (cZ, .boolean)] sz)) (zQv (dC, dI) (wM cI cZ md yth ybd yro yrow ymk yrm yst ypc ybu ybn ymg ysp yjn u_ymd ybg u_ymm yup yun) [(cI, .int), (cZ, .boolean)] (va_A (wM cI cZ md yth ybd yro yrow ymk yrm yst ypc ybu ybn ymg ysp yjn ymd ybg ymm yup yun) sz)) 0 0 (va_A (wM cI cZ md yth ybd yro yrow ymk yrm yst ypc ybu ybn ymg ysp yjn ymd ybg ymm yup yun) sz) := by
  refine Met.ofW (cc := cX3_makes) (maxL := 3) (ret := none) (by decide) rfl ?_
  intro p e s m args below meth c s₁ B hml hv
  obtain ⟨rfl, hsz, hP, hK, hD0⟩ := hv
  have hx := B.exec
  have hb := B.bytes
  have hr := B.returns
  have hts := atoms_spec (ws := wsX3_makes) B.pre
  have hown : s.vm.findClass RX3 = some m.cls := findClass_of_methodNamed B.named
  have hlocks := B.notSynchronized
  subst hsz
  have hD := hD0.self (sz := s.heap.size)
  generalize hAe : va_A (wM cI cZ md yth ybd yro yrow ymk yrm yst ypc ybu ybn ymg ysp yjn ymd ybg ymm yup yun) s.heap.size = A at hD ⊢
  have hA : ∀ q : Nat, s.heap.size ≤ q → A q := fun q h => by rw [← hAe]; exact Or.inr h
  have hS : va_S A s.heap s.heap [] := va_S.rf
  generalize eL : ([] : List Loc) = locs at hS ⊢
  obtain ⟨H, eH⟩ : ∃ z : Heap, z = s.heap := ⟨_, rfl⟩
  have hP : va_P (dC, dI) vwCl (wM cI cZ md yth ybd yro yrow ymk yrm yst ypc ybu ybn ymg ysp yjn ymd ybg ymm yup yun) H := by rw [eH]; exact hP
  have hS : va_S A s.heap H locs := by rw [eH]; exact hS
  refine z_heap eH ?_
  have hl := lv_entry ([.ref (md 0), .int p1]) (n := 3) (Nat.le_of_ble_eq_true rfl)
  rw [lg_entry_eq]
  generalize (lg_sl ([.ref (md 0), .int p1]) ++ List.replicate (3 - (lg_sl ([.ref (md 0), .int p1])).length) Slot.unset).toArray = ls at hl ⊢
  have hl : lv_has ls 3 [(0, .ref (md 0)), (1, .int p1)] := hl
  have zw0 := hts (.fieldLink RX3 102 "LearnedLedgeModel" "madeMany" "I") (List.mem_cons_of_mem _ (List.mem_append_left _ (List.mem_of_getElem? (i := 0) rfl)))
  have zw1 := hts (.fieldLink RX3 30 "LearnedLedgeModel" "made" "[I") (List.mem_cons_of_mem _ (List.mem_append_left _ (List.mem_of_getElem? (i := 1) rfl)))
  have ziX3 : ∀ w ∈ u_ws RX3 TX3 18, w ∈ wsX3_makes := (fun _ h9 => (List.mem_cons_of_mem _ (List.mem_append_right _ h9)))
  refine lv_aload_n hx hb dX3_makes_0 rfl (lv_at hl 0 rfl) ?_
  refine va_get (D := (dC, dI)) (ci := 3) (v := .int ymm) (C := RX3) (T := TX3) (N := 18) hx hb hts ziX3 hown hK hP 0 rfl rfl 15 (by decide) zw0 (fun _ h9 => h9) rfl dX3_makes_1 ?_
  refine lv_istore_n (lv' := [(2, .int ymm), (0, .ref (md 0)), (1, .int p1)]) hx hb dX3_makes_4 rfl hl (by decide) rfl (fun ls hl => ?_)
  obtain ⟨z_5, hq_5, hm⟩ := ob hm
  have K_5 : ∀ (x2_2 : Int32), ∀ (ymdx5 : Nat → Int32), z_5 = (x2_2, ymdx5) → ∀ (H : Heap) (locs : List Loc), va_P (dC, dI) vwCl (wM cI cZ md yth ybd yro yrow ymk yrm yst ypc ybu ybn ymg ysp yjn ymdx5 ybg ymm yup yun) H → va_D A (wM cI cZ md yth ybd yro yrow ymk yrm yst ypc ybu ybn ymg ysp yjn ymdx5 ybg ymm yup yun) → va_S A s.heap H locs → ∀ (ls : Array Slot), lv_has ls 3 [(2, .int x2_2), (0, .ref (md 0)), (1, .int p1)] → W p l e (headSpec wsX3_makes ({ frames := 0, cells := 0, slots := 0, locals := 0 } : Room)).room s m ([.ref (md 0), .int p1] : List Value).toArray below meth c H locs 0 0 (MQ below (zQv (dC, dI) (wM cI cZ md yth ybd yro yrow ymk yrm yst ypc ybu ybn ymg ysp yjn u_ymd ybg u_ymm yup yun) [(cI, .int), (cZ, .boolean)] A) ([.ref (md 0), .int p1] : List Value).toArray s 0 0 A) (F0 m 41 ls []) := by
    intro x2_2 ymdx5 ez H locs hP hD hS ls hl
    rw [ez] at hm
    refine lv_aload_n hx hb dX3_makes_41 rfl (lv_at hl 1 rfl) ?_
    refine va_get (D := (dC, dI)) (ci := 3) (v := .ref (md 5)) (C := RX3) (T := TX3) (N := 18) hx hb hts ziX3 hown hK hP 0 rfl rfl 13 (by decide) zw1 (fun _ h9 => h9) rfl dX3_makes_42 ?_
    refine lv_iload_n hx hb dX3_makes_45 rfl (lv_at hl 0 rfl) ?_
    refine lv_iload_n hx hb dX3_makes_46 rfl (lv_at hl 2 rfl) ?_
    obtain ⟨c_47, hm⟩ := ck hm
    refine va_iast hx hb hK hP hD hS 5 0 rfl rfl c_47 dX3_makes_47 (fun H locs hP hD hS => ?_)
    have hP : va_P (dC, dI) vwCl (wM cI cZ md yth ybd yro yrow ymk yrm yst ypc ybu ybn ymg ysp yjn (upd ymdx5 (Int32.toNatClampNeg x2_2) p1) ybg ymm yup yun) H := hP
    have hD : va_D A (wM cI cZ md yth ybd yro yrow ymk yrm yst ypc ybu ybn ymg ysp yjn (upd ymdx5 (Int32.toNatClampNeg x2_2) p1) ybg ymm yup yun) := hD
    refine lv_aload_n hx hb dX3_makes_48 rfl (lv_at hl 1 rfl) ?_
    refine lv_dup hx hb dX3_makes_49 rfl ?_
    refine va_get (D := (dC, dI)) (ci := 3) (v := .int ymm) (C := RX3) (T := TX3) (N := 18) hx hb hts ziX3 hown hK hP 0 rfl rfl 15 (by decide) zw0 (fun _ h9 => h9) rfl dX3_makes_50 ?_
    refine lv_iconst (v := 1) hx hb dX3_makes_53 (by decide) ?_
    refine lv_iadd hx hb dX3_makes_54 ?_
    refine va_put (D := (dC, dI)) (ci := 3) (v := .int (ymm + 1)) (ty := .int) (C := RX3) (T := TX3) (N := 18) hx hb hts ziX3 tyX3 tyX3_ok nmX3 hown hK hP hD hS 0 rfl rfl 15 (by decide) zw0 (fun _ h9 => h9) rfl (by decide +kernel) rfl rfl (Nat.le_of_ble_eq_true rfl) dX3_makes_55 (fun H locs hP hD hS => ?_)
    have hP : va_P (dC, dI) vwCl (wM cI cZ md yth ybd yro yrow ymk yrm yst ypc ybu ybn ymg ysp yjn (upd ymdx5 (Int32.toNatClampNeg x2_2) p1) ybg (ymm + 1) yup yun) H := hP
    have hD : va_D A (wM cI cZ md yth ybd yro yrow ymk yrm yst ypc ybu ybn ymg ysp yjn (upd ymdx5 (Int32.toNatClampNeg x2_2) p1) ybg (ymm + 1) yup yun) := hD
    cases o2 hm
    exact W.vret hx hb hr (fun t ht hW => ⟨⟨(), rfl, trivial, by rw [ht]; exact hP, va_K.moved hW.alike hK, hD⟩, hS.F ht⟩) hS.2.2 dX3_makes_58
  have L_5 : ∀ (n : Nat) (x2 : Int32) (ymdl5 : Nat → Int32), X3_makes_L5 p1 n x2 ymdl5 = some z_5 → ∀ (H : Heap) (locs : List Loc), va_P (dC, dI) vwCl (wM cI cZ md yth ybd yro yrow ymk yrm yst ypc ybu ybn ymg ysp yjn ymdl5 ybg ymm yup yun) H → va_D A (wM cI cZ md yth ybd yro yrow ymk yrm yst ypc ybu ybn ymg ysp yjn ymdl5 ybg ymm yup yun) → va_S A s.heap H locs → ∀ (ls : Array Slot), lv_has ls 3 [(2, .int x2), (0, .ref (md 0)), (1, .int p1)] → W p l e (headSpec wsX3_makes ({ frames := 0, cells := 0, slots := 0, locals := 0 } : Room)).room s m ([.ref (md 0), .int p1] : List Value).toArray below meth c H locs 0 0 (MQ below (zQv (dC, dI) (wM cI cZ md yth ybd yro yrow ymk yrm yst ypc ybu ybn ymg ysp yjn u_ymd ybg u_ymm yup yun) [(cI, .int), (cZ, .boolean)] A) ([.ref (md 0), .int p1] : List Value).toArray s 0 0 A) (F0 m 5 ls []) := by
    intro n
    induction n with
    | zero => intro x2 ymdl5 hm; cases hm
    | succ n ih_5 =>
      intro x2 ymdl5 hm H locs hP hD hS ls hl
      refine lv_iload_n hx hb dX3_makes_5 rfl (lv_at hl 0 rfl) ?_
      refine lv_if_le (tgt := 41) hx hb dX3_makes_6 (by decide) (fun c_6 => ?_) (fun c_6 => ?_)
      · have hm := it_t hm c_6
        exact K_5 x2 ymdl5 (o2 hm) _ _ hP hD hS _ (lv_sub hl [0, 1, 2] rfl)
      · have hm := it_f hm c_6
        refine lv_aload_n hx hb dX3_makes_9 rfl (lv_at hl 1 rfl) ?_
        refine va_get (D := (dC, dI)) (ci := 3) (v := .ref (md 5)) (C := RX3) (T := TX3) (N := 18) hx hb hts ziX3 hown hK hP 0 rfl rfl 13 (by decide) zw1 (fun _ h9 => h9) rfl dX3_makes_10 ?_
        refine lv_iload_n hx hb dX3_makes_13 rfl (lv_at hl 0 rfl) ?_
        refine lv_iconst (v := 1) hx hb dX3_makes_14 (by decide) ?_
        refine lv_isub hx hb dX3_makes_15 ?_
        obtain ⟨c_16, hm⟩ := ck hm
        refine va_iald hx hb hK hP 5 0 rfl rfl c_16 dX3_makes_16 ?_
        refine lv_iload_n hx hb dX3_makes_17 rfl (lv_at hl 2 rfl) ?_
        refine lv_icmp_le (tgt := 41) hx hb dX3_makes_18 (by decide) (fun c_18 => ?_) (fun c_18 => ?_)
        · have hm := it_t hm c_18
          exact K_5 x2 ymdl5 (o2 hm) _ _ hP hD hS _ (lv_sub hl [0, 1, 2] rfl)
        · have hm := it_f hm c_18
          refine lv_aload_n hx hb dX3_makes_21 rfl (lv_at hl 1 rfl) ?_
          refine va_get (D := (dC, dI)) (ci := 3) (v := .ref (md 5)) (C := RX3) (T := TX3) (N := 18) hx hb hts ziX3 hown hK hP 0 rfl rfl 13 (by decide) zw1 (fun _ h9 => h9) rfl dX3_makes_22 ?_
          refine lv_iload_n hx hb dX3_makes_25 rfl (lv_at hl 0 rfl) ?_
          refine lv_aload_n hx hb dX3_makes_26 rfl (lv_at hl 1 rfl) ?_
          refine va_get (D := (dC, dI)) (ci := 3) (v := .ref (md 5)) (C := RX3) (T := TX3) (N := 18) hx hb hts ziX3 hown hK hP 0 rfl rfl 13 (by decide) zw1 (fun _ h9 => h9) rfl dX3_makes_27 ?_
          refine lv_iload_n hx hb dX3_makes_30 rfl (lv_at hl 0 rfl) ?_
          refine lv_iconst (v := 1) hx hb dX3_makes_31 (by decide) ?_
          refine lv_isub hx hb dX3_makes_32 ?_
          obtain ⟨c_33, hm⟩ := ck hm
          refine va_iald hx hb hK hP 5 0 rfl rfl c_33 dX3_makes_33 ?_
          obtain ⟨c_34, hm⟩ := ck hm
          refine va_iast hx hb hK hP hD hS 5 0 rfl rfl c_34 dX3_makes_34 (fun H locs hP hD hS => ?_)
          have hP : va_P (dC, dI) vwCl (wM cI cZ md yth ybd yro yrow ymk yrm yst ypc ybu ybn ymg ysp yjn (upd ymdl5 (Int32.toNatClampNeg x2) (ymdl5 (Int32.toNatClampNeg (x2 - 1)))) ybg ymm yup yun) H := hP
          have hD : va_D A (wM cI cZ md yth ybd yro yrow ymk yrm yst ypc ybu ybn ymg ysp yjn (upd ymdl5 (Int32.toNatClampNeg x2) (ymdl5 (Int32.toNatClampNeg (x2 - 1)))) ybg ymm yup yun) := hD
          obtain ⟨x2_1, e_x2_1⟩ : ∃ y : Int32, y = x2 + (-1) := ⟨_, rfl⟩
          have hm := bnd_e hm e_x2_1
          refine lv_iinc (v := x2_1) (lv' := [(2, .int x2_1), (0, .ref (md 0)), (1, .int p1)]) hx hb dX3_makes_35 hl (k := 0) rfl (by rw [e_x2_1]; rfl) (by decide) rfl (fun ls hl => ?_)
          refine lv_goto (tgt := 5) hx hb dX3_makes_38 (by decide) ?_
          exact ih_5 x2_1 (upd ymdl5 (Int32.toNatClampNeg x2) (ymdl5 (Int32.toNatClampNeg (x2 - 1)))) hm _ _ hP hD hS _ (lv_sub hl [0, 1, 2] rfl)
  exact L_5 F ymm ymd hq_5 _ _ hP hD hS _ (lv_sub hl [0, 1, 2] rfl)
