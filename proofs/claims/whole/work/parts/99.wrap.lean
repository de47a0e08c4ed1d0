/-! the call merge, and the empty index -/
section MWRP
variable {F : Nat}
theorem op_merging (hF : 2000 ≤ F) {K M B S : List Int} {bd ro : Int} {zk zm zb zs zr zu zf zg : zN} {zt : zT} {zmc mg sp jc ymm : Int32} {yrow ymk yst ybu : Nat → Int32} {yrm ypc ybn : Int32} (yth : Int32) (md bg : Nat → Int32) (up un : Int64) (h : ST K M B S bd ro) (hX : XS K M B S bd zk zm zb zs zr zu zt zmc) (hY : YS K M B S yrow ymk yrm yst ypc ybu ybn) : ∃ v K' M' S' mg' sp' jc' zk' zm' zb' zs' zr' zu' zt' zf' zg' zmc' yrow' ymk' yrm' yst' ypc' ybn' md' bg' mm' up' un', X2_merge F zk zm zb zs zr zu zt zf zg (J bd) zmc mg sp jc = some (v, zk', zm', zb', zs', zr', zu', zt', zf', zg', zmc', mg', sp', jc') ∧ X3_merge F yth (J bd) yrow ymk yrm yst ypc ybu ybn mg sp jc md bg ymm up un = some (v, 0, yrow', ymk', yrm', yst', ypc', ybn', mg', sp', jc', md', bg', mm', up', un') ∧ ST K' M' [] S' bd ro ∧ XS K' M' [] S' bd zk' zm' zb' zs' zr' zu' zt' zmc' ∧ YS K' M' [] S' yrow' ymk' yrm' yst' ypc' ybu ybn' := by
  obtain ⟨K', M', S', sp', jc', zk', zm', zb', zs', zr', zu', zt', zf', zg', zmc', yrow', ymk', yrm', yst', ypc', ybn', md', bg', mm', up', un', e1, e2, e3, e4, e5, e6, e7⟩ := op_merge (ro := ro) (zf := zf) (zg := zg) (mg := mg) (sp := sp) (jc := jc) (ymm := ymm) hF yth md bg up un h.1 hX hY
  refine ⟨J S'.length, K', M', S', mg + 1, sp', jc', zk', zm', zb', zs', zr', zu', zt', zf', zg', zmc', yrow', ymk', yrm', yst', ypc', ybn', md', bg', mm', up', un', ?_, ?_, e5 ⟨h.2.1, h.2.2.1⟩, e6, e7⟩
  · unfold X2_merge
    rw [e1]
    simp only [Option.bind_some]
    rw [length_J e6.2.2.2.1.1]
    rfl
  · unfold X3_merge
    rw [e2]
    simp only [Option.bind_some]
    rw [e3]
/-- the empty index -/
theorem ST_empty : ST [] [] [] [] 2 4 := by
  refine ⟨⟨Srt_nil, fun i h => by simp at h, rfl, fun j h => by simp at h, Srt_nil, fun i h => by simp at h, fun i j h _ => by simp at h, by simp, ⟨Srt_nil, fun i h => by simp at h, fun h => by simp at h, fun h => by simp at h⟩, fun i h => by simp at h, by omega, by omega⟩, by omega, by omega, by simp⟩
theorem XS_empty {zk zm zb zs zr zu : zN} {zt : zT} (h1 : zk.2 = 0) (h2 : zm.2 = 0) (h3 : zb.2 = 0) (h4 : zs.2 = 0) (h5 : zr.2 = 0) (h6 : zu.2 = 0) : XS [] [] [] [] 2 zk zm zb zs zr zu zt 0 := by
  have r : ∀ {N : Nat} (z : zN), N ≤ 256 → z.2 = 0 → RN N z [] := fun {N} z hN hz => ⟨by simp, hN, by rw [hz]; exact J_0, fun i hi => by simp at hi, fun i hi => by simp at hi⟩
  refine ⟨r zk (Nat.le_refl _) h1, r zm (Nat.le_refl _) h2, r zb (by omega) h3, ?_, J_0⟩
  exact PI_nil zt (r zs (Nat.le_refl _) h4) (r zr (Nat.le_refl _) h5) (r zu (Nat.le_refl _) h6)
theorem YS_empty {yrow ymk yst ybu : Nat → Int32} : YS [] [] [] [] yrow ymk 0 yst 0 ybu 0 :=
  ⟨⟨by simp, fun i h => by simp at h⟩, ⟨by simp, fun i h => by simp at h⟩, ⟨by simp, fun i h => by simp at h⟩, ⟨by simp, fun i h => by simp at h⟩, J_0, J_0, J_0⟩
end MWRP
