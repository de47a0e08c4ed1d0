/-! what the start gives -/
def zFL : List Cond := flatC (Jvm.Cond.and given_1 narrow_1)
theorem zs_82 {b : Nat} {s : State} (hts : ∀ w ∈ lw_tbl, w.before #[Value.ref b] s = true) (hq : ∀ w ∈ zFL, w.before #[Value.ref b] s = true) : ∃ a, vk_R RX2 82 "step or many out of range" a s := by
  obtain ⟨a, c, cA, kA, q1, -⟩ := Cond.exactly_spec (args := #[Value.ref b]) (first := s) (o := none) (s := s) (idx := []) (t := .string RX2 82) (cls := "java/lang/String") (hq (.exactly (.string RX2 82) "java/lang/String") (List.mem_of_getElem? (i := 84) (by decide +kernel)))
  exact ⟨a, vk_R.of (hts (.stringRef RX2 82 "step or many out of range") (List.mem_of_getElem? (i := 304) (by decide +kernel))) q1⟩
theorem zs_100 {b : Nat} {s : State} (hts : ∀ w ∈ lw_tbl, w.before #[Value.ref b] s = true) (hq : ∀ w ∈ zFL, w.before #[Value.ref b] s = true) : ∃ a, vk_R RX2 100 "key is there, or no room" a s := by
  obtain ⟨a, c, cA, kA, q1, -⟩ := Cond.exactly_spec (args := #[Value.ref b]) (first := s) (o := none) (s := s) (idx := []) (t := .string RX2 100) (cls := "java/lang/String") (hq (.exactly (.string RX2 100) "java/lang/String") (List.mem_of_getElem? (i := 115) (by decide +kernel)))
  exact ⟨a, vk_R.of (hts (.stringRef RX2 100 "key is there, or no room") (List.mem_of_getElem? (i := 319) (by decide +kernel))) q1⟩
theorem zs_111 {b : Nat} {s : State} (hts : ∀ w ∈ lw_tbl, w.before #[Value.ref b] s = true) (hq : ∀ w ∈ zFL, w.before #[Value.ref b] s = true) : ∃ a, vk_R RX2 111 "key is not there" a s := by
  obtain ⟨a, c, cA, kA, q1, -⟩ := Cond.exactly_spec (args := #[Value.ref b]) (first := s) (o := none) (s := s) (idx := []) (t := .string RX2 111) (cls := "java/lang/String") (hq (.exactly (.string RX2 111) "java/lang/String") (List.mem_of_getElem? (i := 146) (by decide +kernel)))
  exact ⟨a, vk_R.of (hts (.stringRef RX2 111 "key is not there") (List.mem_of_getElem? (i := 388) (by decide +kernel))) q1⟩
theorem zs_126 {b : Nat} {s : State} (hts : ∀ w ∈ lw_tbl, w.before #[Value.ref b] s = true) (hq : ∀ w ∈ zFL, w.before #[Value.ref b] s = true) : ∃ a, vk_R RX2 126 "bound or room out of range" a s := by
  obtain ⟨a, c, cA, kA, q1, -⟩ := Cond.exactly_spec (args := #[Value.ref b]) (first := s) (o := none) (s := s) (idx := []) (t := .string RX2 126) (cls := "java/lang/String") (hq (.exactly (.string RX2 126) "java/lang/String") (List.mem_of_getElem? (i := 170) (by decide +kernel)))
  exact ⟨a, vk_R.of (hts (.stringRef RX2 126 "bound or room out of range") (List.mem_of_getElem? (i := 411) (by decide +kernel))) q1⟩
theorem zs_142 {b : Nat} {s : State} (hts : ∀ w ∈ lw_tbl, w.before #[Value.ref b] s = true) (hq : ∀ w ∈ zFL, w.before #[Value.ref b] s = true) : ∃ a, vk_R RX2 142 "not so many keys" a s := by
  obtain ⟨a, c, cA, kA, q1, -⟩ := Cond.exactly_spec (args := #[Value.ref b]) (first := s) (o := none) (s := s) (idx := []) (t := .string RX2 142) (cls := "java/lang/String") (hq (.exactly (.string RX2 142) "java/lang/String") (List.mem_of_getElem? (i := 205) (by decide +kernel)))
  exact ⟨a, vk_R.of (hts (.stringRef RX2 142 "not so many keys") (List.mem_of_getElem? (i := 494) (by decide +kernel))) q1⟩
theorem zs_148 {b : Nat} {s : State} (hts : ∀ w ∈ lw_tbl, w.before #[Value.ref b] s = true) (hq : ∀ w ∈ zFL, w.before #[Value.ref b] s = true) : ∃ a, vk_R RX2 148 "all keys are less" a s := by
  obtain ⟨a, c, cA, kA, q1, -⟩ := Cond.exactly_spec (args := #[Value.ref b]) (first := s) (o := none) (s := s) (idx := []) (t := .string RX2 148) (cls := "java/lang/String") (hq (.exactly (.string RX2 148) "java/lang/String") (List.mem_of_getElem? (i := 231) (by decide +kernel)))
  exact ⟨a, vk_R.of (hts (.stringRef RX2 148 "all keys are less") (List.mem_of_getElem? (i := 513) (by decide +kernel))) q1⟩
theorem zs_190 {b : Nat} {s : State} (hts : ∀ w ∈ lw_tbl, w.before #[Value.ref b] s = true) (hq : ∀ w ∈ zFL, w.before #[Value.ref b] s = true) : ∃ a, vk_R RX2 190 "key out of range" a s := by
  obtain ⟨a, c, cA, kA, q1, -⟩ := Cond.exactly_spec (args := #[Value.ref b]) (first := s) (o := none) (s := s) (idx := []) (t := .string RX2 190) (cls := "java/lang/String") (hq (.exactly (.string RX2 190) "java/lang/String") (List.mem_of_getElem? (i := 30) (by decide +kernel)))
  exact ⟨a, vk_R.of (hts (.stringRef RX2 190 "key out of range") (List.mem_of_getElem? (i := 192) (by decide +kernel))) q1⟩
theorem zs_195 {b : Nat} {s : State} (hts : ∀ w ∈ lw_tbl, w.before #[Value.ref b] s = true) (hq : ∀ w ∈ zFL, w.before #[Value.ref b] s = true) : ∃ a, vk_R RX2 195 "no such piece" a s := by
  obtain ⟨a, c, cA, kA, q1, -⟩ := Cond.exactly_spec (args := #[Value.ref b]) (first := s) (o := none) (s := s) (idx := []) (t := .string RX2 195) (cls := "java/lang/String") (hq (.exactly (.string RX2 195) "java/lang/String") (List.mem_of_getElem? (i := 259) (by decide +kernel)))
  exact ⟨a, vk_R.of (hts (.stringRef RX2 195 "no such piece") (List.mem_of_getElem? (i := 522) (by decide +kernel))) q1⟩
theorem zs_197 {b : Nat} {s : State} (hts : ∀ w ∈ lw_tbl, w.before #[Value.ref b] s = true) (hq : ∀ w ∈ zFL, w.before #[Value.ref b] s = true) : ∃ a, vk_R RX2 197 "no room, or a key is not less" a s := by
  obtain ⟨a, c, cA, kA, q1, -⟩ := Cond.exactly_spec (args := #[Value.ref b]) (first := s) (o := none) (s := s) (idx := []) (t := .string RX2 197) (cls := "java/lang/String") (hq (.exactly (.string RX2 197) "java/lang/String") (List.mem_of_getElem? (i := 50) (by decide +kernel)))
  exact ⟨a, vk_R.of (hts (.stringRef RX2 197 "no room, or a key is not less") (List.mem_of_getElem? (i := 252) (by decide +kernel))) q1⟩
theorem zV_start {b : Nat} {s : State} (hts : ∀ w ∈ lw_tbl, w.before #[Value.ref b] s = true) (hgv : (Jvm.Cond.and given_1 narrow_1).before #[Value.ref b] s = true) : ∃ sa : Nat → Nat, zV sa (fun q : Nat => s.heap.size ≤ q) s s.heap := by
  have hq : ∀ w ∈ zFL, w.before #[Value.ref b] s = true := flat_of_before _ hgv
  obtain ⟨a82, h82⟩ := zs_82 hts hq
  obtain ⟨a100, h100⟩ := zs_100 hts hq
  obtain ⟨a111, h111⟩ := zs_111 hts hq
  obtain ⟨a126, h126⟩ := zs_126 hts hq
  obtain ⟨a142, h142⟩ := zs_142 hts hq
  obtain ⟨a148, h148⟩ := zs_148 hts hq
  obtain ⟨a190, h190⟩ := zs_190 hts hq
  obtain ⟨a195, h195⟩ := zs_195 hts hq
  obtain ⟨a197, h197⟩ := zs_197 hts hq
  refine ⟨fun k => if k = 82 then a82 else if k = 100 then a100 else if k = 111 then a111 else if k = 126 then a126 else if k = 142 then a142 else if k = 148 then a148 else if k = 190 then a190 else if k = 195 then a195 else if k = 197 then a197 else 0, ?_, ?_, ?_, ?_⟩
  · intro k hk
    simp only [zTxs, List.mem_cons, List.not_mem_nil, or_false] at hk
    rcases hk with rfl | rfl | rfl | rfl | rfl | rfl | rfl | rfl | rfl
    · exact h82
    · exact h100
    · exact h111
    · exact h126
    · exact h142
    · exact h148
    · exact h190
    · exact h195
    · exact h197
  · intro w hw
    simp only [zNg, List.mem_cons, List.not_mem_nil, or_false] at hw
    rcases hw with rfl | rfl | rfl | rfl | rfl | rfl | rfl
    · exact va_Nw.of rfl (hts (.declares (Bundle.initS "java/lang/RuntimeException")) (List.mem_of_getElem? (i := 154) (by decide +kernel)))
    · exact va_Nw.of rfl (hts (.declares (Bundle.initS "java/lang/Exception")) (List.mem_of_getElem? (i := 156) (by decide +kernel)))
    · exact va_Nw.of rfl (hts (.declares (Bundle.initS Bundle.tN)) (List.mem_of_getElem? (i := 158) (by decide +kernel)))
    · exact va_Nw.of rfl (hts (.castable (xN 1) (xN 1)) (List.mem_of_getElem? (i := 152) (by decide +kernel)))
    · exact va_Nw.of rfl (hts (.castable (xN 2) (xN 2)) (List.mem_of_getElem? (i := 245) (by decide +kernel)))
    · exact va_Nw.of rfl (hts (.castable (xN 3) (xN 3)) (List.mem_of_getElem? (i := 487) (by decide +kernel)))
    · exact va_Nw.of rfl (hts (.castable (xN 4) (xN 4)) (List.mem_of_getElem? (i := 381) (by decide +kernel)))
  · exact vx_Zqof (hts (.laysStatic Bundle.tN "UNASSIGNED_STACK" Bundle.steD) (List.mem_of_getElem? (i := 177) (by decide +kernel))) (hts (.initialized Bundle.tN) (List.mem_of_getElem? (i := 35) (by decide +kernel))) (hq (.isRef (.static Bundle.tN "UNASSIGNED_STACK" Bundle.steD)) (List.mem_of_getElem? (i := 4) (by decide +kernel))) (fun a h => Nat.not_le.mpr h)
  · exact vx_Zqof (hts (.laysStatic Bundle.tN "SUPPRESSED_SENTINEL" Bundle.listD) (List.mem_of_getElem? (i := 179) (by decide +kernel))) (hts (.initialized Bundle.tN) (List.mem_of_getElem? (i := 35) (by decide +kernel))) (hq (.isRef (.static Bundle.tN "SUPPRESSED_SENTINEL" Bundle.listD)) (List.mem_of_getElem? (i := 5) (by decide +kernel))) (fun a h => Nat.not_le.mpr h)
theorem zNcs_start {b : Nat} {s : State} (hgv : (Jvm.Cond.and given_1 narrow_1).before #[Value.ref b] s = true) : zNcs s := ⟨va_Nc.of (flat_of_before _ hgv (.not (.castable (xN 2) (xN 1))) (List.mem_of_getElem? (i := 9) (by decide +kernel))), va_Nc.of (flat_of_before _ hgv (.not (.castable (xN 4) (xN 1))) (List.mem_of_getElem? (i := 10) (by decide +kernel))), va_Nc.of (flat_of_before _ hgv (.not (.castable (xN 4) (xN 2))) (List.mem_of_getElem? (i := 16) (by decide +kernel))), va_Nc.of (flat_of_before _ hgv (.not (.castable (xN 3) (xN 1))) (List.mem_of_getElem? (i := 11) (by decide +kernel))), va_Nc.of (flat_of_before _ hgv (.not (.castable (xN 3) (xN 2))) (List.mem_of_getElem? (i := 17) (by decide +kernel))), va_Nc.of (flat_of_before _ hgv (.not (.castable (xN 3) (xN 4))) (List.mem_of_getElem? (i := 23) (by decide +kernel)))⟩
theorem zNest_start {b : Nat} {s : State} (hts : ∀ w ∈ lw_tbl, w.before #[Value.ref b] s = true) : va_Nw zNest s := va_Nw.of rfl (hts zNest (List.mem_of_getElem? (i := 69) (by decide +kernel)))
set_option maxHeartbeats 4000000 in
set_option maxRecDepth 100000 in
theorem zKn {b : Nat} {s : State} (hts : ∀ w ∈ lw_tbl, w.before #[Value.ref b] s = true) : ∃ (dC : Nat → ClassId) (dI : Nat → Nat → Nat), va_K (dC, dI) vwCl [] s := by
  have htw : ∀ w ∈ wsL_law, w.before #[Value.ref b] s = true := fun w h => hts w (wsL_law_in w h)
  obtain ⟨c0, i0, hk0⟩ := u_known (C := RX0) (T := TX0) (N := 2) (n := 2) hts inX0 (hts (.instantiable RX0 2) (List.mem_of_getElem? (i := 51) (by decide +kernel)))
  obtain ⟨c1, i1, hk1⟩ := u_known (C := RX1) (T := TX1) (N := 7) (n := 7) hts inX1 (hts (.instantiable RX1 7) (List.mem_of_getElem? (i := 68) (by decide +kernel)))
  obtain ⟨c2, i2, hk2⟩ := u_known (C := RX2) (T := TX2) (N := 15) (n := 15) hts inX2 (hts (.instantiable RX2 15) (List.mem_of_getElem? (i := 43) (by decide +kernel)))
  refine ⟨fun k => if k = 0 then c0 else if k = 1 then c1 else c2, fun k => if k = 0 then i0 else if k = 1 then i1 else i2, fun k q hq => ?_, fun k q h => by simp at h⟩
  match k, hq with
  | 0, hq => cases hq; exact hk0
  | 1, hq => cases hq; exact hk1
  | 2, hq => cases hq; exact hk2
  | k + 3, hq => simp [vwCl] at hq
