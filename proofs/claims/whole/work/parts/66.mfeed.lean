/-! the reference: a byte of a number -/
theorem sgn_bm {b : Nat} (h : b < 256) : (sgn b).toInt = (b : Int).bmod 256 := by
  unfold sgn
  split
  · rw [nI_toInt (by omega), Int.bmod_def]
    omega
  · rename_i q
    rw [Int32.toInt_sub, nI_toInt (by omega), nI_toInt (by omega), Int.bmod_def, Int.bmod_def]
    omega
theorem i8_sgn {y : Int32} {b : Nat} (hb : b < 256) (h : y.toInt.bmod 256 = (b : Int).bmod 256) : y.toInt8.toInt32 = sgn b := by
  apply Int32.toInt_inj.mp
  rw [sgn_bm hb, ← h]
  simp

theorem shr_i {x : Int32} {k : Nat} (hk : k = 0 ∨ k = 8 ∨ k = 16 ∨ k = 24) : (x >>> (nI k &&& 31)).toInt = x.toInt / 2 ^ k := by
  rcases hk with rfl | rfl | rfl | rfl
  · rw [show (nI 0 &&& 31 : Int32) = 0 from by decide]
    simp
  · show ((x >>> (nI 8 &&& 31)).toBitVec).toInt = x.toBitVec.toInt / 2 ^ 8
    rw [Int32.toBitVec_shiftRight, BitVec.sshiftRight', BitVec.toInt_sshiftRight, Int.shiftRight_eq_div_pow]
    rfl
  · show ((x >>> (nI 16 &&& 31)).toBitVec).toInt = x.toBitVec.toInt / 2 ^ 16
    rw [Int32.toBitVec_shiftRight, BitVec.sshiftRight', BitVec.toInt_sshiftRight, Int.shiftRight_eq_div_pow]
    rfl
  · show ((x >>> (nI 24 &&& 31)).toBitVec).toInt = x.toBitVec.toInt / 2 ^ 24
    rw [Int32.toBitVec_shiftRight, BitVec.sshiftRight', BitVec.toInt_sshiftRight, Int.shiftRight_eq_div_pow]
    rfl

theorem byn_n {x : Int32} {k : Nat} (hk : k = 0 ∨ k = 8 ∨ k = 16 ∨ k = 24) : byn x (nI k) = x.toBitVec.toNat / 2 ^ k % 256 := by
  obtain ⟨h1, h2⟩ := byn_ok x (nI k)
  have h3 : (bya x (nI k)).toBitVec.toNat = byn x (nI k) := by
    rw [h2]
    show (BitVec.ofNat 32 (byn x (nI k))).toNat = _
    rw [BitVec.toNat_ofNat]
    omega
  rw [← h3]
  unfold bya
  rw [Int32.toBitVec_and, BitVec.toNat_and]
  have e : (nI 255).toBitVec.toNat = 2 ^ 8 - 1 := by decide
  rw [e, Nat.and_two_pow_sub_one_eq_mod]
  congr 1
  rcases hk with rfl | rfl | rfl | rfl
  · show (x.toBitVec >>> (0 : BitVec 32)).toNat = _
    simp
  · show (x.toBitVec >>> (8 : BitVec 32)).toNat = _
    simp [Nat.shiftRight_eq_div_pow]
  · show (x.toBitVec >>> (16 : BitVec 32)).toNat = _
    simp [Nat.shiftRight_eq_div_pow]
  · show (x.toBitVec >>> (24 : BitVec 32)).toNat = _
    simp [Nat.shiftRight_eq_div_pow]

theorem shr_bm {x : Int32} {k : Nat} (hk : k = 0 ∨ k = 8 ∨ k = 16 ∨ k = 24) : (x >>> (nI k &&& 31)).toInt.bmod 256 = ((byn x (nI k) : Nat) : Int).bmod 256 := by
  have hx : x.toInt = (x.toBitVec.toNat : Int) ∨ x.toInt = (x.toBitVec.toNat : Int) - 4294967296 := by
    have := BitVec.toInt_eq_toNat_cond x.toBitVec
    show x.toBitVec.toInt = _ ∨ x.toBitVec.toInt = _
    rw [this]
    split
    · exact Or.inl rfl
    · exact Or.inr rfl
  have hl := x.toBitVec.isLt
  rw [shr_i hk, byn_n hk, Int.bmod_def, Int.bmod_def]
  generalize x.toBitVec.toNat = n at *
  rcases hk with rfl | rfl | rfl | rfl <;> rcases hx with h | h <;> rw [h] <;> omega
theorem byte_ok {x : Int32} {k : Nat} (hk : k = 0 ∨ k = 8 ∨ k = 16 ∨ k = 24) : (x >>> (nI k &&& 31)).toInt8.toInt32.toInt8.toInt32 = sgn (byn x (nI k)) := by
  have h1 := byn_ok x (nI k)
  have e := i8_sgn h1.1 (shr_bm hk)
  rw [e]
  exact i8_sgn h1.1 (by rw [sgn_bm h1.1]; exact Int.bmod_bmod)

