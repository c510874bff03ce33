/-! the reference: a byte of a number -/
theorem sgn_bm {b : Nat} (h : b < 256) : (sgn b).toInt = (b : Int).bmod 256 := by
  unfold sgn
  split
  · rw [nI_toInt (by omega), Int.bmod_def]
    omega
  · rename_i q
    rw [Int32.toInt_sub, nI_toInt (by omega), nI_toInt (by omega), Int.bmod_def, Int.bmod_def]
    omega
theorem i8_sgn {y : Int32} {b : Nat} (hb : b < 256) (h : y.toInt.bmod 256 = (b : Int).bmod 256) : y.toInt8.toInt32 = sgn b := by
  apply Int32.toInt_inj.mp
  rw [sgn_bm hb, ← h]
  simp

theorem shr_i {x : Int32} {k : Nat} (hk : k = 0 ∨ k = 8 ∨ k = 16 ∨ k = 24) : (x >>> (nI k &&& 31)).toInt = x.toInt / 2 ^ k := by
  rcases hk with rfl | rfl | rfl | rfl
  · rw [show (nI 0 &&& 31 : Int32) = 0 from by decide]
    simp
  · show ((x >>> (nI 8 &&& 31)).toBitVec).toInt = x.toBitVec.toInt / 2 ^ 8
    rw [Int32.toBitVec_shiftRight, BitVec.sshiftRight', BitVec.toInt_sshiftRight, Int.shiftRight_eq_div_pow]
    rfl
  · show ((x >>> (nI 16 &&& 31)).toBitVec).toInt = x.toBitVec.toInt / 2 ^ 16
    rw [Int32.toBitVec_shiftRight, BitVec.sshiftRight', BitVec.toInt_sshiftRight, Int.shiftRight_eq_div_pow]
    rfl
  · show ((x >>> (nI 24 &&& 31)).toBitVec).toInt = x.toBitVec.toInt / 2 ^ 24
    rw [Int32.toBitVec_shiftRight, BitVec.sshiftRight', BitVec.toInt_sshiftRight, Int.shiftRight_eq_div_pow]
    rfl

