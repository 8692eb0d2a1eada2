theorem sh_56 : ((56 : Int32).toInt64 &&& 63).toBitVec.smod 64 = 56#64 := by decide
theorem sh_48 : ((48 : Int32).toInt64 &&& 63).toBitVec.smod 64 = 48#64 := by decide
theorem nar8 (v : Int64) : v.toInt32.toInt8.toInt32.toInt64 = v <<< ((56 : Int32).toInt64 &&& 63) >>> ((56 : Int32).toInt64 &&& 63) := by
  apply Int64.toBitVec_inj.1
  show ((v.toBitVec.signExtend 32).signExtend 8 |>.signExtend 32 |>.signExtend 64) = ((v.toBitVec <<< (((56 : Int32).toInt64 &&& 63).toBitVec.smod 64)).sshiftRight' (((56 : Int32).toInt64 &&& 63).toBitVec.smod 64))
  rw [sh_56]
  apply BitVec.eq_of_getLsbD_eq
  intro i hi
  simp [BitVec.getLsbD_signExtend, BitVec.getLsbD_sshiftRight, BitVec.msb_eq_getLsbD_last]
  sorry
