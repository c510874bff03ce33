/-! the reference: a byte of a number -/
theorem sgn_bm {b : Nat} (h : b < 256) : (sgn b).toInt = (b : Int).bmod 256 := by
  unfold sgn
  split
  · rw [nI_toInt (by omega), Int.bmod_def]
    omega
  · rename_i q
    rw [Int32.toInt_sub, nI_toInt (by omega), nI_toInt (by omega), Int.bmod_def, Int.bmod_def]
    omega
theorem i8_sgn {y : Int32} {b : Nat} (hb : b < 256) (h : y.toInt.bmod 256 = (b : Int).bmod 256) : y.toInt8.toInt32 = sgn b := by
  apply Int32.toInt_inj.mp
  rw [sgn_bm hb, ← h]
  simp

