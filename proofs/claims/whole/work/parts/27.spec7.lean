theorem sh_56 : ((56 : Int32).toInt64 &&& 63).toBitVec.smod 64 = 56#64 := by decide
theorem sh_48 : ((48 : Int32).toInt64 &&& 63).toBitVec.smod 64 = 48#64 := by decide
theorem nar8 (v : Int64) : v.toInt32.toInt8.toInt32.toInt64 = v <<< ((56 : Int32).toInt64 &&& 63) >>> ((56 : Int32).toInt64 &&& 63) := by
  apply Int64.toBitVec_inj.1
  show ((v.toBitVec.signExtend 32).signExtend 8 |>.signExtend 32 |>.signExtend 64) = ((v.toBitVec <<< (((56 : Int32).toInt64 &&& 63).toBitVec.smod 64)).sshiftRight' (((56 : Int32).toInt64 &&& 63).toBitVec.smod 64))
  rw [sh_56]
  apply BitVec.eq_of_getLsbD_eq
  intro i hi
  simp only [BitVec.sshiftRight', BitVec.shiftLeft_eq', BitVec.getLsbD_signExtend, BitVec.getLsbD_sshiftRight, BitVec.msb_eq_getLsbD_last, BitVec.getLsbD_shiftLeft, BitVec.toNat_ofNat]
  have e56 : 56 % 2 ^ 64 = 56 := rfl
  rw [e56]
  have h64 : ¬ 64 ≤ i := by omega
  by_cases h8 : i < 8
  · have h32 : i < 32 := by omega
    have q1 : 56 + i < 64 := by omega
    have q2 : ¬ 56 + i < 56 := by omega
    simp [hi, h8, h32, h64, q1, q2]
  · have q1 : ¬ 56 + i < 64 := by omega
    simp [hi, h8, h64, q1]; exact fun h _ => h
theorem nar16 (v : Int64) : v.toInt32.toInt16.toInt32.toInt64 = v <<< ((48 : Int32).toInt64 &&& 63) >>> ((48 : Int32).toInt64 &&& 63) := by
  apply Int64.toBitVec_inj.1
  show ((v.toBitVec.signExtend 32).signExtend 16 |>.signExtend 32 |>.signExtend 64) = ((v.toBitVec <<< (((48 : Int32).toInt64 &&& 63).toBitVec.smod 64)).sshiftRight' (((48 : Int32).toInt64 &&& 63).toBitVec.smod 64))
  rw [sh_48]
  apply BitVec.eq_of_getLsbD_eq
  intro i hi
  simp only [BitVec.sshiftRight', BitVec.shiftLeft_eq', BitVec.getLsbD_signExtend, BitVec.getLsbD_sshiftRight, BitVec.msb_eq_getLsbD_last, BitVec.getLsbD_shiftLeft, BitVec.toNat_ofNat]
  have e56 : 48 % 2 ^ 64 = 48 := rfl
  rw [e56]
  have h64 : ¬ 64 ≤ i := by omega
  by_cases h8 : i < 16
  · have h32 : i < 32 := by omega
    have q1 : 48 + i < 64 := by omega
    have q2 : ¬ 48 + i < 48 := by omega
    simp [hi, h8, h32, h64, q1, q2]
  · have q1 : ¬ 48 + i < 64 := by omega
    simp [hi, h8, h64, q1]; exact fun h _ => h
