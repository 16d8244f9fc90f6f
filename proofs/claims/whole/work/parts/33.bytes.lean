/-! BOTH SIDES WRITE THE SAME BYTES (mine) -/
theorem by_sh (w : Int32) {k : Nat} (hk : k + 8 ≤ 32) : (w.toBitVec >>> k).setWidth 8 = (w.toBitVec.sshiftRight k).setWidth 8 := by
  apply BitVec.eq_of_getLsbD_eq
  intro i hi
  rw [BitVec.getLsbD_setWidth, BitVec.getLsbD_setWidth, BitVec.getLsbD_ushiftRight, BitVec.getLsbD_sshiftRight]
  have h1 : k + i < 32 := by omega
  have h2 : ¬ 32 ≤ i := by omega
  simp [h1, h2, hi]
theorem by_0 (w : Int32) : bk w 0 = bs w 0 := by
  have a1 : ((0 : Int32).toUInt32 &&& Int32.toUInt32 31) = 0 := by decide
  have a2 : ((0 : Int32) &&& 31) = 0 := by decide
  rw [bk, bs, a1, a2]
  refine congrArg (fun z => vp_nar .byte (Int8.toInt32 z)) ?_
  apply Int8.toBitVec_inj.mp
  have e := by_sh w (k := 0) (by omega)
  simp
theorem by_8 (w : Int32) : bk w 8 = bs w 8 := by
  have a1 : ((8 : Int32).toUInt32 &&& Int32.toUInt32 31) = 8 := by decide
  have a2 : ((8 : Int32) &&& 31) = 8 := by decide
  rw [bk, bs, a1, a2]
  refine congrArg (fun z => vp_nar .byte (Int8.toInt32 z)) ?_
  apply Int8.toBitVec_inj.mp
  have e := by_sh w (k := 8) (by omega)
  simp [BitVec.signExtend_eq_setWidth_of_le] at e ⊢
  exact e
theorem by_16 (w : Int32) : bk w 16 = bs w 16 := by
  have a1 : ((16 : Int32).toUInt32 &&& Int32.toUInt32 31) = 16 := by decide
  have a2 : ((16 : Int32) &&& 31) = 16 := by decide
  rw [bk, bs, a1, a2]
  refine congrArg (fun z => vp_nar .byte (Int8.toInt32 z)) ?_
  apply Int8.toBitVec_inj.mp
  have e := by_sh w (k := 16) (by omega)
  simp [BitVec.signExtend_eq_setWidth_of_le] at e ⊢
  exact e
theorem by_24 (w : Int32) : bk w 24 = bs w 24 := by
  have a1 : ((24 : Int32).toUInt32 &&& Int32.toUInt32 31) = 24 := by decide
  have a2 : ((24 : Int32) &&& 31) = 24 := by decide
  rw [bk, bs, a1, a2]
  refine congrArg (fun z => vp_nar .byte (Int8.toInt32 z)) ?_
  apply Int8.toBitVec_inj.mp
  have e := by_sh w (k := 24) (by omega)
  simp [BitVec.signExtend_eq_setWidth_of_le] at e ⊢
  exact e
theorem by_ap (f : Nat → Int32) (n : Nat) (w : Int32) : ap4 f n w = as4 f n w := by
  rw [ap4, as4, by_24, by_16, by_8, by_0]
