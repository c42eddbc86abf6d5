section SPCUT3
theorem sh_sim (v : Int) (c : Int) (hc : ((Int32.ofInt c).toInt64 &&& 63) = (Int32.ofInt c).toInt64) : lsh 1 (lsh 0 v c) c = (((Int64.ofInt v) <<< (Int32.ofInt c).toInt64) >>> (Int32.ofInt c).toInt64 : Int64).toInt := by
  show (Int64.ofInt ((Int64.ofInt v <<< ((Int32.ofInt c).toInt64 &&& 63)).toInt) >>> ((Int32.ofInt c).toInt64 &&& 63)).toInt = _
  rw [hc, Int64.ofInt_toInt]
theorem i32_of64 (v : Int) : (Int32.ofInt v).toInt = (Int64.ofInt v).toInt.bmod 4294967296 := by
  rw [← Int64.toInt32_ofInt, Int64.toInt_toInt32]
theorem cutT_0 (v : Int) : cutT 0 v = icv 0 v := by
  have e : cutT 0 v = lsh 1 (lsh 0 v 56) 56 := by
    unfold cutT
    rw [show (64 : Int) - ib 6 8 0 = 56 by decide]
  rw [e, sh_sim v 56 (by decide), show (Int32.ofInt 56).toInt64 = 56 by decide, toI8_sh]
  show _ = (Int32.ofInt v).toInt8.toInt32.toInt
  rw [Int8.toInt_toInt32, Int32.toInt_toInt8, i32_of64]
  simp only [Int.bmod_def]
  omega
theorem cutT_1 (v : Int) : cutT 1 v = icv 1 v := by
  have e : cutT 1 v = lsh 1 (lsh 0 v 48) 48 := by
    unfold cutT
    rw [show (64 : Int) - ib 6 8 1 = 48 by decide]
  rw [e, sh_sim v 48 (by decide), show (Int32.ofInt 48).toInt64 = 48 by decide, toI16_sh]
  show _ = (Int32.ofInt v).toInt16.toInt32.toInt
  rw [Int16.toInt_toInt32, Int32.toInt_toInt16, i32_of64]
  simp only [Int.bmod_def]
  omega
theorem cutT_2 (v : Int) : cutT 2 v = (Int32.ofInt v).toInt := by
  have e : cutT 2 v = lsh 1 (lsh 0 v 32) 32 := by
    unfold cutT
    rw [show (64 : Int) - ib 6 8 2 = 32 by decide]
  rw [e, sh_sim v 32 (by decide), show (Int32.ofInt 32).toInt64 = 32 by decide, toI32_sh, i32_of64]
theorem cutT_3 {v : Int} (h : mrl v) : cutT 3 v = v := by
  have e : cutT 3 v = lsh 1 (lsh 0 v 0) 0 := by
    unfold cutT
    rw [show (64 : Int) - ib 6 8 3 = 0 by decide]
  rw [e, sh_sim v 0 (by decide), show (Int32.ofInt 0).toInt64 = 0 by decide, Int64.shiftLeft_zero, Int64.shiftRight_zero]
  exact Int64.toInt_ofInt_of_le h.1 h.2
end SPCUT3
