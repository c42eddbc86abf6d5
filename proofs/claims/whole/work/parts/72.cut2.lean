section SPCUT2
theorem toI8_arith (n : Nat) (hn : n < 18446744073709551616) : ((n * 72057594037927936 : Nat) : Int).bmod (2 ^ 64) / ((72057594037927936 : Nat) : Int) = ((n : Int).bmod (2 ^ 64)).bmod 256 := by
  simp only [Int.bmod_def, Nat.reducePow, Int.natCast_mul]
  omega
theorem toI16_arith (n : Nat) (hn : n < 18446744073709551616) : ((n * 281474976710656 : Nat) : Int).bmod (2 ^ 64) / ((281474976710656 : Nat) : Int) = ((n : Int).bmod (2 ^ 64)).bmod 65536 := by
  simp only [Int.bmod_def, Nat.reducePow, Int.natCast_mul]
  omega
theorem toI32_arith (n : Nat) (hn : n < 18446744073709551616) : ((n * 4294967296 : Nat) : Int).bmod (2 ^ 64) / ((4294967296 : Nat) : Int) = ((n : Int).bmod (2 ^ 64)).bmod 4294967296 := by
  simp only [Int.bmod_def, Nat.reducePow, Int.natCast_mul]
  omega
theorem toI8_sh (x : Int64) : ((x <<< 56) >>> 56 : Int64).toInt = x.toInt.bmod 256 := by
  have e1 : ((x <<< 56) >>> 56 : Int64).toInt = ((x.toBitVec <<< 56).sshiftRight 56).toInt := by
    show (((x <<< 56) >>> 56 : Int64).toBitVec).toInt = _
    rw [Int64.toBitVec_shiftRight, Int64.toBitVec_shiftLeft]
    rfl
  rw [e1, BitVec.toInt_sshiftRight, BitVec.toInt_shiftLeft, Int.shiftRight_eq_div_pow, show x.toInt = (x.toBitVec.toNat : Int).bmod (2 ^ 64) from BitVec.toInt_eq_toNat_bmod _, Nat.shiftLeft_eq]
  exact toI8_arith _ x.toBitVec.isLt
theorem toI16_sh (x : Int64) : ((x <<< 48) >>> 48 : Int64).toInt = x.toInt.bmod 65536 := by
  have e1 : ((x <<< 48) >>> 48 : Int64).toInt = ((x.toBitVec <<< 48).sshiftRight 48).toInt := by
    show (((x <<< 48) >>> 48 : Int64).toBitVec).toInt = _
    rw [Int64.toBitVec_shiftRight, Int64.toBitVec_shiftLeft]
    rfl
  rw [e1, BitVec.toInt_sshiftRight, BitVec.toInt_shiftLeft, Int.shiftRight_eq_div_pow, show x.toInt = (x.toBitVec.toNat : Int).bmod (2 ^ 64) from BitVec.toInt_eq_toNat_bmod _, Nat.shiftLeft_eq]
  exact toI16_arith _ x.toBitVec.isLt
theorem toI32_sh (x : Int64) : ((x <<< 32) >>> 32 : Int64).toInt = x.toInt.bmod 4294967296 := by
  have e1 : ((x <<< 32) >>> 32 : Int64).toInt = ((x.toBitVec <<< 32).sshiftRight 32).toInt := by
    show (((x <<< 32) >>> 32 : Int64).toBitVec).toInt = _
    rw [Int64.toBitVec_shiftRight, Int64.toBitVec_shiftLeft]
    rfl
  rw [e1, BitVec.toInt_sshiftRight, BitVec.toInt_shiftLeft, Int.shiftRight_eq_div_pow, show x.toInt = (x.toBitVec.toNat : Int).bmod (2 ^ 64) from BitVec.toInt_eq_toNat_bmod _, Nat.shiftLeft_eq]
  exact toI32_arith _ x.toBitVec.isLt
end SPCUT2
