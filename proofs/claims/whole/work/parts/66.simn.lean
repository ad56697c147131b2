theorem bv8 (a : BitVec 32) : (a.signExtend 8).signExtend 32 = (a <<< 24).sshiftRight 24 := by
  apply BitVec.eq_of_getLsbD_eq
  intro i hi
  simp only [BitVec.getLsbD_signExtend, BitVec.getLsbD_sshiftRight, BitVec.getLsbD_shiftLeft, BitVec.msb_eq_getLsbD_last]
  sorry
theorem bv16 (a : BitVec 32) : (a.signExtend 16).signExtend 32 = (a <<< 16).sshiftRight 16 := by
  sorry
theorem i8_sh (a : Int32) : a.toInt8.toInt32 = a <<< (24 : Int32) >>> (24 : Int32) := by
  apply Int32.toBitVec_inj.mp
  rw [Int32.toBitVec_toInt32]
  sorry
