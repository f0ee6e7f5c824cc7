theorem nar_a (n : Nat) : Int.bmod ((n : Int) * 16777216) 4294967296 / 16777216 = Int.bmod (Int.bmod (n : Int) 4294967296) 256 := by
  unfold Int.bmod
  dsimp only
  split <;> split <;> split <;> omega
theorem nar_b (n : Nat) : Int.bmod ((n : Int) * 65536) 4294967296 / 65536 = Int.bmod (Int.bmod (n : Int) 4294967296) 65536 := by
  unfold Int.bmod
  dsimp only
  split <;> split <;> split <;> omega
theorem nar8 (p : Int32) : (p <<< ((24 : Int32) &&& 31)) >>> ((24 : Int32) &&& 31) = p.toInt8.toInt32 := by
  apply Int32.toBitVec_inj.1
  rw [show (24 : Int32) &&& 31 = 24 by decide, Int32.toBitVec_shiftRight, Int32.toBitVec_shiftLeft]
  have e : (BitVec.smod (24 : Int32).toBitVec 32) = 24#32 := by decide
  rw [e]
  apply BitVec.eq_of_toInt_eq
  simp only [BitVec.toInt_signExtend, BitVec.toInt_sshiftRight, BitVec.toInt_shiftLeft, BitVec.sshiftRight_eq', BitVec.shiftLeft_eq', BitVec.toNat_ofNat, Int8.toBitVec_toInt32, Int32.toBitVec_toInt8]
  simp
  have e2 : p.toInt = ((p.toBitVec.toNat : Nat) : Int).bmod 4294967296 := BitVec.toInt_eq_toNat_bmod _
  rw [e2, Int.shiftRight_eq_div_pow, Int.shiftLeft_eq]
  exact nar_a _
theorem nar16 (p : Int32) : (p <<< ((16 : Int32) &&& 31)) >>> ((16 : Int32) &&& 31) = p.toInt16.toInt32 := by
  apply Int32.toBitVec_inj.1
  rw [show (16 : Int32) &&& 31 = 16 by decide, Int32.toBitVec_shiftRight, Int32.toBitVec_shiftLeft]
  have e : (BitVec.smod (16 : Int32).toBitVec 32) = 16#32 := by decide
  rw [e]
  apply BitVec.eq_of_toInt_eq
  simp [BitVec.toInt_signExtend, BitVec.toInt_sshiftRight, BitVec.toInt_shiftLeft]
  have e2 : p.toInt = ((p.toBitVec.toNat : Nat) : Int).bmod 4294967296 := BitVec.toInt_eq_toNat_bmod _
  rw [e2, Int.shiftRight_eq_div_pow, Int.shiftLeft_eq]
  exact nar_b _
