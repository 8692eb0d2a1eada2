theorem sh_56 : ((56 : Int32).toInt64 &&& 63).toBitVec.smod 64 = 56#64 := by decide
theorem sh_48 : ((48 : Int32).toInt64 &&& 63).toBitVec.smod 64 = 48#64 := by decide
theorem nar8 (v : Int64) : v.toInt32.toInt8.toInt32.toInt64 = v <<< ((56 : Int32).toInt64 &&& 63) >>> ((56 : Int32).toInt64 &&& 63) := by
  apply Int64.toBitVec_inj.1
  show ((v.toBitVec.signExtend 32).signExtend 8 |>.signExtend 32 |>.signExtend 64) = ((v.toBitVec <<< (((56 : Int32).toInt64 &&& 63).toBitVec.smod 64)).sshiftRight' (((56 : Int32).toInt64 &&& 63).toBitVec.smod 64))
  rw [sh_56]
  apply BitVec.eq_of_getLsbD_eq
  intro i hi
  simp only [BitVec.sshiftRight', BitVec.shiftLeft_eq', BitVec.getLsbD_signExtend, BitVec.getLsbD_sshiftRight, BitVec.msb_eq_getLsbD_last, BitVec.getLsbD_shiftLeft, BitVec.toNat_ofNat]
  have e56 : 56 % 2 ^ 64 = 56 := rfl
  rw [e56]
  have h64 : ¬ 64 ≤ i := by omega
  by_cases h8 : i < 8
  · have h32 : i < 32 := by omega
    have q1 : 56 + i < 64 := by omega
    have q2 : ¬ 56 + i < 56 := by omega
    simp [hi, h8, h32, h64, q1, q2]
  · have q1 : ¬ 56 + i < 64 := by omega
    simp [hi, h8, h64, q1]; exact fun h _ => h
theorem nar16 (v : Int64) : v.toInt32.toInt16.toInt32.toInt64 = v <<< ((48 : Int32).toInt64 &&& 63) >>> ((48 : Int32).toInt64 &&& 63) := by
  apply Int64.toBitVec_inj.1
  show ((v.toBitVec.signExtend 32).signExtend 16 |>.signExtend 32 |>.signExtend 64) = ((v.toBitVec <<< (((48 : Int32).toInt64 &&& 63).toBitVec.smod 64)).sshiftRight' (((48 : Int32).toInt64 &&& 63).toBitVec.smod 64))
  rw [sh_48]
  apply BitVec.eq_of_getLsbD_eq
  intro i hi
  simp only [BitVec.sshiftRight', BitVec.shiftLeft_eq', BitVec.getLsbD_signExtend, BitVec.getLsbD_sshiftRight, BitVec.msb_eq_getLsbD_last, BitVec.getLsbD_shiftLeft, BitVec.toNat_ofNat]
  have e56 : 48 % 2 ^ 64 = 48 := rfl
  rw [e56]
  have h64 : ¬ 64 ≤ i := by omega
  by_cases h8 : i < 16
  · have h32 : i < 32 := by omega
    have q1 : 48 + i < 64 := by omega
    have q2 : ¬ 48 + i < 48 := by omega
    simp [hi, h8, h32, h64, q1, q2]
  · have q1 : ¬ 48 + i < 64 := by omega
    simp [hi, h8, h64, q1]; exact fun h _ => h
theorem nar_q8 : ∀ q, q < 6 → (nI q).toInt64.toInt32.toInt8.toInt32.toInt64 = (nI q).toInt64 := by decide
theorem nar_q16 : ∀ q, q < 6 → (nI q).toInt64.toInt32.toInt16.toInt32.toInt64 = (nI q).toInt64 := by decide
theorem nar_hold {bt x : Int32} {P : Nat} (h : x = -1 ∨ ∃ q, q < P ∧ x = nI q) (hP : P ≤ 6) : nar bt x.toInt64 = x.toInt64 := by
  unfold nar
  split
  · rw [← nar8]
    rcases h with rfl | ⟨q, hq, rfl⟩
    · decide
    · exact nar_q8 q (by omega)
  · split
    · rw [← nar16]
      rcases h with rfl | ⟨q, hq, rfl⟩
      · decide
      · exact nar_q16 q (by omega)
    · rfl
theorem up_ne {α : Type} {N : Nat → α} {s : Nat} {f : α} {j : Nat} (h : j ≠ s) : va_up N s f j = N j := if_neg h
theorem rdB_t2 {S : HS} {P G g z m q : Nat} {v : Nat → Int64} (hq : q < 100) : rdB S P G g z v (100 * m + q) = true ↔ rdP (st (st S 6 g (nI m)) 7 g (nI q)) P G g z v := by
  rw [rdB_t, show (100 * m + q) / 100 = m by omega, show (100 * m + q) % 100 = q by omega]
theorem rdB_f2 {S : HS} {P G g z m q : Nat} {v : Nat → Int64} (hq : q < 100) : rdB S P G g z v (100 * m + q) = false ↔ ¬ rdP (st (st S 6 g (nI m)) 7 g (nI q)) P G g z v := by
  rw [rdB_f, show (100 * m + q) / 100 = m by omega, show (100 * m + q) % 100 = q by omega]
