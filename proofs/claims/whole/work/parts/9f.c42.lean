section SPC42
theorem by_24 (x : Int32) : (x >>> ((24 : Int32) &&& 31)).toInt8.toInt32.toInt = sbT ((x.toUInt32 >>> ((24 : UInt32) &&& 31)).toInt32 &&& 255).toInt ∧ 0 ≤ ((x.toUInt32 >>> ((24 : UInt32) &&& 31)).toInt32 &&& 255).toInt ∧ ((x.toUInt32 >>> ((24 : UInt32) &&& 31)).toInt32 &&& 255).toInt ≤ 255 := by
  have h1 : (x >>> ((24 : Int32) &&& 31)).toBitVec = x.toBitVec.sshiftRight 24 := by
    rw [Int32.toBitVec_shiftRight]
    rfl
  have h2 : (x.toUInt32 >>> ((24 : UInt32) &&& 31)).toBitVec = x.toBitVec >>> 24 := by
    rw [UInt32.toBitVec_shiftRight]
    rfl
  rw [Int8.toInt_toInt32, Int32.toInt_toInt8]
  have h8 : (x >>> ((24 : Int32) &&& 31)).toInt = x.toBitVec.toInt / 2 ^ 24 := by
    show (x >>> ((24 : Int32) &&& 31)).toBitVec.toInt = _
    rw [h1, BitVec.toInt_sshiftRight]
    exact Int.shiftRight_eq_div_pow _ _
  have h3 : ((x.toUInt32 >>> ((24 : UInt32) &&& 31)).toInt32 &&& 255).toInt = ((x.toBitVec >>> 24) &&& 255#32).toInt := by
    show ((x.toUInt32 >>> ((24 : UInt32) &&& 31)).toInt32 &&& 255).toBitVec.toInt = _
    rw [Int32.toBitVec_and]
    show ((x.toUInt32 >>> ((24 : UInt32) &&& 31)).toBitVec &&& _).toInt = _
    rw [h2]
    rfl
  have h4 : ((x.toBitVec >>> 24) &&& 255#32).toInt = x.toBitVec.toNat / 2 ^ 24 % 256 := by
    rw [BitVec.toInt_eq_toNat_of_lt, BitVec.toNat_and, BitVec.toNat_ushiftRight, Nat.shiftRight_eq_div_pow, show (255#32).toNat = 2 ^ 8 - 1 from rfl, Nat.and_two_pow_sub_one_eq_mod]
    · rfl
    · rw [BitVec.toNat_and, show (255#32).toNat = 2 ^ 8 - 1 from rfl, Nat.and_two_pow_sub_one_eq_mod]
      omega
  rw [h3, h4, h8]
  have h6 := x.toBitVec.toInt_eq_toNat_cond
  have h7 := x.toBitVec.isLt
  unfold sbT
  simp only [Int.bmod]
  refine ⟨?_, by omega, by omega⟩
  split at h6 <;> split <;> split <;> omega
theorem by_16 (x : Int32) : (x >>> ((16 : Int32) &&& 31)).toInt8.toInt32.toInt = sbT ((x.toUInt32 >>> ((16 : UInt32) &&& 31)).toInt32 &&& 255).toInt ∧ 0 ≤ ((x.toUInt32 >>> ((16 : UInt32) &&& 31)).toInt32 &&& 255).toInt ∧ ((x.toUInt32 >>> ((16 : UInt32) &&& 31)).toInt32 &&& 255).toInt ≤ 255 := by
  have h1 : (x >>> ((16 : Int32) &&& 31)).toBitVec = x.toBitVec.sshiftRight 16 := by
    rw [Int32.toBitVec_shiftRight]
    rfl
  have h2 : (x.toUInt32 >>> ((16 : UInt32) &&& 31)).toBitVec = x.toBitVec >>> 16 := by
    rw [UInt32.toBitVec_shiftRight]
    rfl
  rw [Int8.toInt_toInt32, Int32.toInt_toInt8]
  have h8 : (x >>> ((16 : Int32) &&& 31)).toInt = x.toBitVec.toInt / 2 ^ 16 := by
    show (x >>> ((16 : Int32) &&& 31)).toBitVec.toInt = _
    rw [h1, BitVec.toInt_sshiftRight]
    exact Int.shiftRight_eq_div_pow _ _
  have h3 : ((x.toUInt32 >>> ((16 : UInt32) &&& 31)).toInt32 &&& 255).toInt = ((x.toBitVec >>> 16) &&& 255#32).toInt := by
    show ((x.toUInt32 >>> ((16 : UInt32) &&& 31)).toInt32 &&& 255).toBitVec.toInt = _
    rw [Int32.toBitVec_and]
    show ((x.toUInt32 >>> ((16 : UInt32) &&& 31)).toBitVec &&& _).toInt = _
    rw [h2]
    rfl
  have h4 : ((x.toBitVec >>> 16) &&& 255#32).toInt = x.toBitVec.toNat / 2 ^ 16 % 256 := by
    rw [BitVec.toInt_eq_toNat_of_lt, BitVec.toNat_and, BitVec.toNat_ushiftRight, Nat.shiftRight_eq_div_pow, show (255#32).toNat = 2 ^ 8 - 1 from rfl, Nat.and_two_pow_sub_one_eq_mod]
    · rfl
    · rw [BitVec.toNat_and, show (255#32).toNat = 2 ^ 8 - 1 from rfl, Nat.and_two_pow_sub_one_eq_mod]
      omega
  rw [h3, h4, h8]
  have h6 := x.toBitVec.toInt_eq_toNat_cond
  have h7 := x.toBitVec.isLt
  unfold sbT
  simp only [Int.bmod]
  refine ⟨?_, by omega, by omega⟩
  split at h6 <;> split <;> split <;> omega
theorem by_8 (x : Int32) : (x >>> ((8 : Int32) &&& 31)).toInt8.toInt32.toInt = sbT ((x.toUInt32 >>> ((8 : UInt32) &&& 31)).toInt32 &&& 255).toInt ∧ 0 ≤ ((x.toUInt32 >>> ((8 : UInt32) &&& 31)).toInt32 &&& 255).toInt ∧ ((x.toUInt32 >>> ((8 : UInt32) &&& 31)).toInt32 &&& 255).toInt ≤ 255 := by
  have h1 : (x >>> ((8 : Int32) &&& 31)).toBitVec = x.toBitVec.sshiftRight 8 := by
    rw [Int32.toBitVec_shiftRight]
    rfl
  have h2 : (x.toUInt32 >>> ((8 : UInt32) &&& 31)).toBitVec = x.toBitVec >>> 8 := by
    rw [UInt32.toBitVec_shiftRight]
    rfl
  rw [Int8.toInt_toInt32, Int32.toInt_toInt8]
  have h8 : (x >>> ((8 : Int32) &&& 31)).toInt = x.toBitVec.toInt / 2 ^ 8 := by
    show (x >>> ((8 : Int32) &&& 31)).toBitVec.toInt = _
    rw [h1, BitVec.toInt_sshiftRight]
    exact Int.shiftRight_eq_div_pow _ _
  have h3 : ((x.toUInt32 >>> ((8 : UInt32) &&& 31)).toInt32 &&& 255).toInt = ((x.toBitVec >>> 8) &&& 255#32).toInt := by
    show ((x.toUInt32 >>> ((8 : UInt32) &&& 31)).toInt32 &&& 255).toBitVec.toInt = _
    rw [Int32.toBitVec_and]
    show ((x.toUInt32 >>> ((8 : UInt32) &&& 31)).toBitVec &&& _).toInt = _
    rw [h2]
    rfl
  have h4 : ((x.toBitVec >>> 8) &&& 255#32).toInt = x.toBitVec.toNat / 2 ^ 8 % 256 := by
    rw [BitVec.toInt_eq_toNat_of_lt, BitVec.toNat_and, BitVec.toNat_ushiftRight, Nat.shiftRight_eq_div_pow, show (255#32).toNat = 2 ^ 8 - 1 from rfl, Nat.and_two_pow_sub_one_eq_mod]
    · rfl
    · rw [BitVec.toNat_and, show (255#32).toNat = 2 ^ 8 - 1 from rfl, Nat.and_two_pow_sub_one_eq_mod]
      omega
  rw [h3, h4, h8]
  have h6 := x.toBitVec.toInt_eq_toNat_cond
  have h7 := x.toBitVec.isLt
  unfold sbT
  simp only [Int.bmod]
  refine ⟨?_, by omega, by omega⟩
  split at h6 <;> split <;> split <;> omega
theorem by_0 (x : Int32) : (x >>> ((0 : Int32) &&& 31)).toInt8.toInt32.toInt = sbT ((x.toUInt32 >>> ((0 : UInt32) &&& 31)).toInt32 &&& 255).toInt ∧ 0 ≤ ((x.toUInt32 >>> ((0 : UInt32) &&& 31)).toInt32 &&& 255).toInt ∧ ((x.toUInt32 >>> ((0 : UInt32) &&& 31)).toInt32 &&& 255).toInt ≤ 255 := by
  have h1 : (x >>> ((0 : Int32) &&& 31)).toBitVec = x.toBitVec.sshiftRight 0 := by
    rw [Int32.toBitVec_shiftRight]
    rfl
  have h2 : (x.toUInt32 >>> ((0 : UInt32) &&& 31)).toBitVec = x.toBitVec >>> 0 := by
    rw [UInt32.toBitVec_shiftRight]
    rfl
  rw [Int8.toInt_toInt32, Int32.toInt_toInt8]
  have h8 : (x >>> ((0 : Int32) &&& 31)).toInt = x.toBitVec.toInt / 2 ^ 0 := by
    show (x >>> ((0 : Int32) &&& 31)).toBitVec.toInt = _
    rw [h1, BitVec.toInt_sshiftRight]
    exact Int.shiftRight_eq_div_pow _ _
  have h3 : ((x.toUInt32 >>> ((0 : UInt32) &&& 31)).toInt32 &&& 255).toInt = ((x.toBitVec >>> 0) &&& 255#32).toInt := by
    show ((x.toUInt32 >>> ((0 : UInt32) &&& 31)).toInt32 &&& 255).toBitVec.toInt = _
    rw [Int32.toBitVec_and]
    show ((x.toUInt32 >>> ((0 : UInt32) &&& 31)).toBitVec &&& _).toInt = _
    rw [h2]
    rfl
  have h4 : ((x.toBitVec >>> 0) &&& 255#32).toInt = x.toBitVec.toNat / 2 ^ 0 % 256 := by
    rw [BitVec.toInt_eq_toNat_of_lt, BitVec.toNat_and, BitVec.toNat_ushiftRight, Nat.shiftRight_eq_div_pow, show (255#32).toNat = 2 ^ 8 - 1 from rfl, Nat.and_two_pow_sub_one_eq_mod]
    · rfl
    · rw [BitVec.toNat_and, show (255#32).toNat = 2 ^ 8 - 1 from rfl, Nat.and_two_pow_sub_one_eq_mod]
      omega
  rw [h3, h4, h8]
  have h6 := x.toBitVec.toInt_eq_toNat_cond
  have h7 := x.toBitVec.isLt
  unfold sbT
  simp only [Int.bmod]
  refine ⟨?_, by omega, by omega⟩
  split at h6 <;> split <;> split <;> omega
/-- the sign k of four signs -/
def mbT (v : Int) (k : Int) : Int := ib 3 (ib 8 v (24 - 8 * k)) 255
theorem sb_mb (v : Int) {k : Int} (hk : 0 ≤ k ∧ k < 4) : icv 0 (ib 7 v (24 - 8 * k)) = sbT (mbT v k) ∧ 0 ≤ mbT v k ∧ mbT v k ≤ 255 := by
  have e : k = 0 ∨ k = 1 ∨ k = 2 ∨ k = 3 := by omega
  have q1 : ∀ y : Int, icv 0 (ib 7 v y) = (Int32.ofInt v >>> (Int32.ofInt y &&& 31)).toInt8.toInt32.toInt := fun y => by
    show (Int32.ofInt (Int32.ofInt v >>> (Int32.ofInt y &&& 31)).toInt).toInt8.toInt32.toInt = _
    rw [Int32.ofInt_toInt]
  have q2 : ∀ y : Int, ib 3 (ib 8 v y) 255 = (((Int32.ofInt v).toUInt32 >>> ((Int32.ofInt y).toUInt32 &&& Int32.toUInt32 31)).toInt32 &&& 255).toInt := fun y => by
    show (Int32.ofInt (((Int32.ofInt v).toUInt32 >>> ((Int32.ofInt y).toUInt32 &&& Int32.toUInt32 31)).toInt32.toInt) &&& Int32.ofInt 255).toInt = _
    rw [Int32.ofInt_toInt]
    rfl
  unfold mbT
  rw [q1, q2]
  rcases e with rfl | rfl | rfl | rfl
  · exact by_24 _
  · exact by_16 _
  · exact by_8 _
  · exact by_0 _
/-- the signs that are fed -/
def fdT (a b c d e q : Int) : Int := mbT (if q < 4 then a else if q < 8 then b else if q < 12 then c else if q < 16 then d else e) (q % 4)
theorem fd_bd (a b c d e : Int) {q : Int} (h : 0 ≤ q) : 0 ≤ fdT a b c d e q ∧ fdT a b c d e q ≤ 255 := (sb_mb _ ⟨by omega, by omega⟩).2
def apC (I' I : mM) (f : Int → Int) (n : Int) : Prop := (∀ i, i ≠ 100 → i ≠ 101 → I' i = I i) ∧ (∀ p : Int, p ≠ 1 → I' 100 p = I 100 p) ∧ I' 100 1 = I 100 1 + n ∧ ∀ j : Int, I' 101 j = if I 100 1 ≤ j ∧ j < I 100 1 + n then sbT (f (j - I 100 1)) else I 101 j
def apM (I' I : mM) (f : Int → Int) (n : Int) : Prop := (∀ i, i ≠ 200 → i ≠ 204 → I' i = I i) ∧ (∀ p : Int, p ≠ 3 → p ≠ 6 → I' 200 p = I 200 p) ∧ I' 200 3 = 0 ∧ I' 200 6 = I 200 6 + n ∧ ∀ j : Int, I' 204 j = if I 200 6 ≤ j ∧ j < I 200 6 + n then f (j - I 200 6) else I 204 j
theorem apC.tr {I I1 I2 : mM} {f g k : Int → Int} {n m : Int} (hn : 0 ≤ n) (hm : 0 ≤ m) (h : apC I1 I f n) (r : apC I2 I1 g m) (e : ∀ q : Int, 0 ≤ q → q < n + m → k q = if q < n then f q else g (q - n)) : apC I2 I k (n + m) := by
  refine ⟨fun i i0 i1 => by rw [r.1 i i0 i1]; exact h.1 i i0 i1, fun p hp => by rw [r.2.1 p hp]; exact h.2.1 p hp, by rw [r.2.2.1, h.2.2.1]; omega, fun j => ?_⟩
  have r4 := r.2.2.2 j
  have h4 := h.2.2.2 j
  rw [h.2.2.1] at r4
  by_cases z1 : I 100 1 ≤ j ∧ j < I 100 1 + n
  · rw [if_pos z1] at h4
    rw [if_neg (by omega), h4] at r4
    rw [if_pos (by omega), e _ (by omega) (by omega), if_pos (by omega)]
    exact r4
  · rw [if_neg z1] at h4
    by_cases z2 : I 100 1 + n ≤ j ∧ j < I 100 1 + n + m
    · rw [if_pos z2] at r4
      rw [if_pos (by omega), e _ (by omega) (by omega), if_neg (by omega), r4, show j - I 100 1 - n = j - (I 100 1 + n) by omega]
    · rw [if_neg z2, h4] at r4
      rw [if_neg (by omega)]
      exact r4
theorem apC.one {I I1 : mM} {f : Int → Int} {n v : Int} (hn : 0 ≤ n) (h : apC I1 I f n) (hv : v = sbT (f n)) : apC (mSet (mSet I1 101 (I 100 1 + n) v) 100 1 (I 100 1 + n + 1)) I f (n + 1) := by
  refine ⟨fun i i0 i1 => by rw [set_ne i0, set_ne i1]; exact h.1 i i0 i1, fun p hp => by rw [set_nq hp, set_ne (by decide)]; exact h.2.1 p hp, by rw [set_eq]; omega, fun j => ?_⟩
  have h4 := h.2.2.2 j
  rw [set_ne (by decide)]
  by_cases z : j = I 100 1 + n
  · rw [z, set_eq, if_pos (by omega), hv, show I 100 1 + n - I 100 1 = n by omega]
  · rw [set_nq z, h4]
    by_cases z1 : I 100 1 ≤ j ∧ j < I 100 1 + n
    · rw [if_pos z1, if_pos (by omega)]
    · rw [if_neg z1, if_neg (by omega)]
theorem apM.one {I I1 : mM} {f : Int → Int} {n v : Int} (hn : 0 ≤ n) (h : apM I1 I f n) (hv : v = f n) : apM (mSet (mSet I1 204 (I 200 6 + n) v) 200 6 (I 200 6 + n + 1)) I f (n + 1) := by
  refine ⟨fun i i0 i1 => by rw [set_ne i0, set_ne i1]; exact h.1 i i0 i1, fun p hp hq => by rw [set_nq hq, set_ne (by decide)]; exact h.2.1 p hp hq, by rw [set_nq (by decide), set_ne (by decide)]; exact h.2.2.1, by rw [set_eq]; omega, fun j => ?_⟩
  have h4 := h.2.2.2.2 j
  rw [set_ne (by decide)]
  by_cases z : j = I 200 6 + n
  · rw [z, set_eq, if_pos (by omega), hv, show I 200 6 + n - I 200 6 = n by omega]
  · rw [set_nq z, h4]
    by_cases z1 : I 200 6 ≤ j ∧ j < I 200 6 + n
    · rw [if_pos z1, if_pos (by omega)]
    · rw [if_neg z1, if_neg (by omega)]
def spX5_append : mSp := shRI (fun _ i v I Q => i = some 100 ∧ mrg v ∧ (0 ≤ I 100 1 ∧ I 100 1 ≤ 796) ∧ ∀ I' : mM, apC I' I (mbT v) 4 → Q (.inl none) I')
def SX5_append : Nat → mSp := fun a => match a with
  | _ => fun _ _ _ _ => False
theorem cutsX5_append {t : Nat} {bs : List Bool} (h : cutX5_append t = some bs) : (t = 3 ∧ bs = [true, true, true]) := by
  unfold cutX5_append at h
  simp only [mLk] at h
  by_cases h0 : 3 = t
  · subst h0
    simp at h
    exact ⟨rfl, h.symm⟩
  rw [if_neg h0] at h
  cases h
set_option maxRecDepth 100000 in
set_option maxHeartbeats 1000000 in
theorem vcX5_append (fl : Nat → Bool) (avs : List mV) (I : mM) (Q : mO → mM → Prop) (hsp : spX5_append fl avs I Q) : mVC SX5_append fl Q kX5_append cutX5_append 3 avs I := by
  obtain ⟨i, v, rfl, h0⟩ := shRI_inv hsp
  obtain ⟨rfl, rv, h1, h⟩ := h0
  refine ⟨rfl, (fun m pc lv st I1 => st = [] ∧ ∃ k : Nat, lv = [some (mR (some 100)), some (mI v), some (mI (24 - 8 * k))] ∧ m = 10 - k ∧ k ≤ 4 ∧ apC I1 I (mbT v) k), ?_, ?_⟩
  · intro n t bs hbs lv st I1 hc
    rcases cutsX5_append hbs with ⟨rfl, rfl⟩
    rw [sfxX5_append_3]
    obtain ⟨rfl, k, rfl, hm, hk, hA⟩ := hc
    have e1 := hA.2.2.1
    rcases Nat.lt_or_ge k 4 with z | z
    · have sb := sb_mb v (k := k) ⟨by omega, by omega⟩
      have bd := sb_bd sb.2
      have ho := hA.one (by omega) (v := icv 0 (ib 7 v (24 - 8 * k))) sb.1
      simp only [false_and, and_false, true_or, or_true, false_or, or_false, true_and, and_true, true_implies, false_implies, implies_true, not_true_eq_false, not_false_eq_true, and_self, List.length_cons, List.length_nil, mNoCut_, mCat_n, mCat_I, mCat_L, mCat_R, mIsL_n, mIsL_I, mIsL_R, mIsL_L, Nat.reduceAdd, Nat.reduceSub, Nat.reduceLeDiff, Nat.reduceLT, Nat.reduceEqDiff, Nat.zero_le, Int.reduceEq, Int.reduceLT, Int.reduceLE, Int.reduceNeg, Int.reduceAdd, if_true, if_false, reduceIte, reduceCtorEq, Bool.false_eq_true, ne_eq, qCmp_0, qCmp_1, qCmp_2, qCmp_3, qCmp_4, qCmp_5, ib_0, ib_1, ib_2, lb_0, lb_1, lb_2, dv_0, dv_1, wq_ic, wq_ld_i, wq_ld_a, wq_st_i, wq_iinc, wq_ib, wq_icv, wq_icmp, wq_if, wq_goto, wq_get, mGet_0, mGet_1, mGet_2, mGet_3, wq_putI, wq_putL, wq_astI, wq_astL, wq_dupI, wq_dupR, dup_I, dup_R, wq_ret0, wq_ret1, wq_ret2, wq_ret3, wq_ret4, mrg_24_, stI2, ldI2, ldR0, fk_5_1, mrg_800_, fk_5_0, ldI1, mrg_1_, wqinc2, mPut_s, mPut_I0, mPut_R0, mPut_L0, mPut_I1, mPut_R1, mPut_L1, mrg_0_, mGo_n, sfxX5_append_3, cutX5_append_3, sfxX5_append_46, cutX5_append_46, wq_cut, mGo_c, mMask_t, mMask_f, mMask_n, kX5_append_46, kX5_append_3, kX5_append_0, sk_100, al_100, rf_100_0, sk_101, al_101, sn_101, mrg, mrl, mSet_ap, ncast, Option.some.injEq, e1]
      exact ⟨⟨by omega, by omega⟩, fun w => by omega, fun _ => ⟨⟨by omega, by omega⟩, fun w => by omega, fun _ => ⟨⟨by omega, by omega⟩, ⟨by omega, by omega⟩, 10 - (k + 1), by omega, k + 1, by rw [show (24 : Int) - 8 * k + -8 = 24 - 8 * ((k + 1 : Nat) : Int) by omega], rfl, by omega, ho⟩⟩⟩
    · have e : k = 4 := by omega
      subst e
      have h := h _ hA
      simp only [false_and, and_false, true_or, or_true, false_or, or_false, true_and, and_true, true_implies, false_implies, implies_true, not_true_eq_false, not_false_eq_true, and_self, List.length_cons, List.length_nil, mNoCut_, mCat_n, mCat_I, mCat_L, mCat_R, mIsL_n, mIsL_I, mIsL_R, mIsL_L, Nat.reduceAdd, Nat.reduceSub, Nat.reduceLeDiff, Nat.reduceLT, Nat.reduceEqDiff, Nat.zero_le, Int.reduceEq, Int.reduceLT, Int.reduceLE, Int.reduceNeg, Int.reduceAdd, if_true, if_false, reduceIte, reduceCtorEq, Bool.false_eq_true, ne_eq, qCmp_0, qCmp_1, qCmp_2, qCmp_3, qCmp_4, qCmp_5, ib_0, ib_1, ib_2, lb_0, lb_1, lb_2, dv_0, dv_1, wq_ic, wq_ld_i, wq_ld_a, wq_st_i, wq_iinc, wq_ib, wq_icv, wq_icmp, wq_if, wq_goto, wq_get, mGet_0, mGet_1, mGet_2, mGet_3, wq_putI, wq_putL, wq_astI, wq_astL, wq_dupI, wq_dupR, dup_I, dup_R, wq_ret0, wq_ret1, wq_ret2, wq_ret3, wq_ret4, mrg_24_, stI2, ldI2, ldR0, fk_5_1, mrg_800_, fk_5_0, ldI1, mrg_1_, wqinc2, mPut_s, mPut_I0, mPut_R0, mPut_L0, mPut_I1, mPut_R1, mPut_L1, mrg_0_, mGo_n, sfxX5_append_3, cutX5_append_3, sfxX5_append_46, cutX5_append_46, wq_cut, mGo_c, mMask_t, mMask_f, mMask_n, kX5_append_46, kX5_append_3, kX5_append_0, sk_100, al_100, rf_100_0, sk_101, al_101, sn_101, mrg, mrl, mSet_ap, ncast, Option.some.injEq, e1]
      (try simp only [mrg, mrl] at *) <;> repeat' (first | (with_reducible assumption) | (with_reducible apply And.intro) | intro _)
      all_goals first | omega | exact h | skip
  · show mWp _ _ _ _ _ _ kX5_append_0 [some (mR (some 100)), some (mI v), none] [] I
    simp only [false_and, and_false, true_or, or_true, false_or, or_false, true_and, and_true, true_implies, false_implies, implies_true, not_true_eq_false, not_false_eq_true, and_self, List.length_cons, List.length_nil, mNoCut_, mCat_n, mCat_I, mCat_L, mCat_R, mIsL_n, mIsL_I, mIsL_R, mIsL_L, Nat.reduceAdd, Nat.reduceSub, Nat.reduceLeDiff, Nat.reduceLT, Nat.reduceEqDiff, Nat.zero_le, Int.reduceEq, Int.reduceLT, Int.reduceLE, Int.reduceNeg, Int.reduceAdd, if_true, if_false, reduceIte, reduceCtorEq, Bool.false_eq_true, ne_eq, qCmp_0, qCmp_1, qCmp_2, qCmp_3, qCmp_4, qCmp_5, ib_0, ib_1, ib_2, lb_0, lb_1, lb_2, dv_0, dv_1, wq_ic, wq_ld_i, wq_ld_a, wq_st_i, wq_iinc, wq_ib, wq_icv, wq_icmp, wq_if, wq_goto, wq_get, mGet_0, mGet_1, mGet_2, mGet_3, wq_putI, wq_putL, wq_astI, wq_astL, wq_dupI, wq_dupR, dup_I, dup_R, wq_ret0, wq_ret1, wq_ret2, wq_ret3, wq_ret4, mrg_24_, stI2, ldI2, ldR0, fk_5_1, mrg_800_, fk_5_0, ldI1, mrg_1_, wqinc2, mPut_s, mPut_I0, mPut_R0, mPut_L0, mPut_I1, mPut_R1, mPut_L1, mrg_0_, mGo_n, sfxX5_append_3, cutX5_append_3, sfxX5_append_46, cutX5_append_46, wq_cut, mGo_c, mMask_t, mMask_f, mMask_n, kX5_append_46, kX5_append_3, kX5_append_0, sk_100, al_100, rf_100_0, sk_101, al_101, sn_101, mrg, mrl, mSet_ap, ncast, Option.some.injEq]
    exact ⟨_, 0, rfl, rfl, by omega, fun _ _ _ => rfl, fun _ _ => rfl, by show I 100 1 = I 100 1 + ((0 : Nat) : Int); omega, fun j => by rw [if_neg (by omega)]⟩
theorem ctrX5_append {l : Launch} (hst : l.stackTraces = false) (hT : mTxM l) : mCtr l calX5_append spX5_append :=
  mMet (T := TX5_append) (S := SX5_append) hst hT cutX5_append (by decide) okX5_append ⟨_, _, rfl, rfl⟩ trivial (fun t bs h => by rcases cutsX5_append h with ⟨-, rfl⟩ <;> rfl) (fun a => mCtr_no) vcX5_append

def spX10_feed : mSp := shRIIIII (fun _ i a b c d e I Q => i = some 0 ∧ mrg a ∧ mrg b ∧ mrg c ∧ mrg d ∧ mrg e ∧ (0 ≤ I 100 1 ∧ I 100 1 ≤ 800) ∧ (780 < I 100 1 → Q (.inl (some (mI (-1)))) I) ∧ (I 100 1 ≤ 780 → ∀ I' : mM, apC I' I (fdT a b c d e) 20 → Q (.inl (some (mI (I 100 1 + 20)))) I'))
def SX10_feed : Nat → mSp := fun a => match a with
  | 0 => spX5_append
  | _ => fun _ _ _ _ => False
theorem SX10_feed_0 : SX10_feed 0 = spX5_append := Eq.trans rfl rfl
set_option maxRecDepth 100000 in
set_option maxHeartbeats 1000000 in
theorem vcX10_feed (fl : Nat → Bool) (avs : List mV) (I : mM) (Q : mO → mM → Prop) (hsp : spX10_feed fl avs I Q) : mVC0 SX10_feed fl Q kX10_feed 6 avs I := by
  obtain ⟨i, a, b, c, d, e, rfl, h0⟩ := shRIIIII_inv hsp
  obtain ⟨rfl, ra, rb, rc, rd, re, h6, h1, h2⟩ := h0
  refine ⟨rfl, ?_⟩
  show mWp _ _ _ _ _ _ kX10_feed_0 [some (mR (some 0)), some (mI a), some (mI b), some (mI c), some (mI d), some (mI e)] [] I
  rcases Int.lt_or_le 780 (I 100 1) with z | z
  · have h1 := h1 z
    clear h2
    simp only [false_and, and_false, true_or, or_true, false_or, or_false, true_and, and_true, true_implies, false_implies, implies_true, not_true_eq_false, not_false_eq_true, and_self, List.length_cons, List.length_nil, mNoCut_, mCat_n, mCat_I, mCat_L, mCat_R, mIsL_n, mIsL_I, mIsL_R, mIsL_L, Nat.reduceAdd, Nat.reduceSub, Nat.reduceLeDiff, Nat.reduceLT, Nat.reduceEqDiff, Nat.zero_le, Int.reduceEq, Int.reduceLT, Int.reduceLE, Int.reduceNeg, Int.reduceAdd, if_true, if_false, reduceIte, reduceCtorEq, Bool.false_eq_true, ne_eq, qCmp_0, qCmp_1, qCmp_2, qCmp_3, qCmp_4, qCmp_5, ib_0, ib_1, ib_2, lb_0, lb_1, lb_2, dv_0, dv_1, wq_ic, wq_ld_i, wq_ld_a, wq_icmp, wq_get, mGet_0, mGet_1, mGet_2, mGet_3, wq_ret0, wq_ret1, wq_ret2, wq_ret3, wq_ret4, ldR0, fk_10_3, fk_5_1, mrg_780_, mrg_m1_, ldI1, wq_callV2_0, ldI2, ldI3, ldI4, ldI5, mGo_n, sfxX10_feed_15, cutX10_feed_15, kX10_feed_15, kX10_feed_0, sk_0, al_0, rf_0_3, sk_100, al_100, ↓SX10_feed_0, ↓shqRI_, ↓spX5_append, mrg, mrl, mSet_ap, ncast, Option.some.injEq]
    (try simp only [mrg, mrl] at *) <;> repeat' (first | (with_reducible assumption) | (with_reducible apply And.intro) | intro _)
    all_goals first | omega | exact h1 | skip
  · have h2 := h2 z
    clear h1
    simp only [false_and, and_false, true_or, or_true, false_or, or_false, true_and, and_true, true_implies, false_implies, implies_true, not_true_eq_false, not_false_eq_true, and_self, List.length_cons, List.length_nil, mNoCut_, mCat_n, mCat_I, mCat_L, mCat_R, mIsL_n, mIsL_I, mIsL_R, mIsL_L, Nat.reduceAdd, Nat.reduceSub, Nat.reduceLeDiff, Nat.reduceLT, Nat.reduceEqDiff, Nat.zero_le, Int.reduceEq, Int.reduceLT, Int.reduceLE, Int.reduceNeg, Int.reduceAdd, if_true, if_false, reduceIte, reduceCtorEq, Bool.false_eq_true, ne_eq, qCmp_0, qCmp_1, qCmp_2, qCmp_3, qCmp_4, qCmp_5, ib_0, ib_1, ib_2, lb_0, lb_1, lb_2, dv_0, dv_1, wq_ic, wq_ld_i, wq_ld_a, wq_icmp, wq_get, mGet_0, mGet_1, mGet_2, mGet_3, wq_ret0, wq_ret1, wq_ret2, wq_ret3, wq_ret4, ldR0, fk_10_3, fk_5_1, mrg_780_, mrg_m1_, ldI1, wq_callV2_0, ldI2, ldI3, ldI4, ldI5, mGo_n, sfxX10_feed_15, cutX10_feed_15, kX10_feed_15, kX10_feed_0, sk_0, al_0, rf_0_3, sk_100, al_100, ↓SX10_feed_0, ↓shqRI_, ↓spX5_append, mrg, mrl, mSet_ap, ncast, Option.some.injEq]
    refine ⟨⟨by omega, by omega⟩, fun _ => ⟨ra, ⟨by omega, by omega⟩, fun I1 A1 => ⟨rb, ⟨by have := A1.2.2.1; omega, by have := A1.2.2.1; omega⟩, fun I2 A2 => ?_⟩⟩, fun w => absurd z w⟩
    have B2 := A1.tr (by decide) (by decide) A2 (k := fun q => if q < 4 then mbT a q else mbT b (q - 4)) (fun q _ _ => rfl)
    refine ⟨rc, ⟨by have := B2.2.2.1; omega, by have := B2.2.2.1; omega⟩, fun I3 A3 => ?_⟩
    have B3 := B2.tr (by decide) (by decide) A3 (k := fun q => if q < 8 then (if q < 4 then mbT a q else mbT b (q - 4)) else mbT c (q - 8)) (fun q _ _ => rfl)
    refine ⟨rd, ⟨by have := B3.2.2.1; omega, by have := B3.2.2.1; omega⟩, fun I4 A4 => ?_⟩
    have B4 := B3.tr (by decide) (by decide) A4 (k := fun q => if q < 12 then (if q < 8 then (if q < 4 then mbT a q else mbT b (q - 4)) else mbT c (q - 8)) else mbT d (q - 12)) (fun q _ _ => rfl)
    refine ⟨re, ⟨by have := B4.2.2.1; omega, by have := B4.2.2.1; omega⟩, fun I5 A5 => ?_⟩
    have B5 := B4.tr (by decide) (by decide) A5 (k := fdT a b c d e) (fun q q0 q1 => by
      unfold fdT
      by_cases y1 : q < 4
      · rw [if_pos y1, if_pos (by omega), if_pos (by omega), if_pos (by omega), if_pos y1, show q % 4 = q by omega]
      · by_cases y2 : q < 8
        · rw [if_neg y1, if_pos y2, if_pos (by omega), if_pos (by omega), if_pos y2, if_neg y1, show q % 4 = q - 4 by omega]
        · by_cases y3 : q < 12
          · rw [if_neg y1, if_neg y2, if_pos y3, if_pos (by omega), if_pos y3, if_neg y2, show q % 4 = q - 8 by omega]
          · by_cases y4 : q < 16
            · rw [if_neg y1, if_neg y2, if_neg y3, if_pos y4, if_pos (by omega), if_neg y3, show q % 4 = q - 12 by omega]
            · rw [if_neg y1, if_neg y2, if_neg y3, if_neg y4, if_neg (by omega), show q % 4 = q - (4 + 4 + 4 + 4) by omega])
    have e5 := B5.2.2.1
    have h2 := h2 I5 B5
    rw [show I 100 1 + 20 = I5 100 1 by omega] at h2
    exact h2
theorem ctrX10_feed {l : Launch} (hst : l.stackTraces = false) (hT : mTxM l) : mCtr l calX10_feed spX10_feed :=
  mMet0 (T := TX10_feed) (S := SX10_feed) hst hT (by decide) okX10_feed ⟨_, _, rfl, rfl⟩ (fun a => match a with
    | 0 => ctrX5_append hst hT
    | _ + 1 => mCtr_no) vcX10_feed

def spX11_feed : mSp := shRIIIII (fun _ i a b c d e I Q => i = some 200 ∧ mrg a ∧ mrg b ∧ mrg c ∧ mrg d ∧ mrg e ∧ (0 ≤ I 200 6 ∧ I 200 6 ≤ 800) ∧ (780 < I 200 6 → Q (.inl (some (mI (-1)))) (mSet I 200 3 0)) ∧ (I 200 6 ≤ 780 → ∀ I' : mM, apM I' I (fdT a b c d e) 20 → Q (.inl (some (mI (I 200 6 + 20)))) I'))
def SX11_feed : Nat → mSp := fun a => match a with
  | _ => fun _ _ _ _ => False
theorem cutsX11_feed {t : Nat} {bs : List Bool} (h : cutX11_feed t = some bs) : (t = 23 ∧ bs = [true, true, true, true, true, true, true, false]) := by
  unfold cutX11_feed at h
  simp only [mLk] at h
  by_cases h0 : 23 = t
  · subst h0
    simp at h
    exact ⟨rfl, h.symm⟩
  rw [if_neg h0] at h
  cases h
set_option maxRecDepth 100000 in
set_option maxHeartbeats 1000000 in
theorem vcX11_feed (fl : Nat → Bool) (avs : List mV) (I : mM) (Q : mO → mM → Prop) (hsp : spX11_feed fl avs I Q) : mVC SX11_feed fl Q kX11_feed cutX11_feed 8 avs I := by
  obtain ⟨i, a, b, c, d, e, rfl, h0⟩ := shRIIIII_inv hsp
  obtain ⟨rfl, ra, rb, rc, rd, re, h6, h1, h2⟩ := h0
  refine ⟨rfl, (fun m pc lv st I1 => st = [] ∧ I 200 6 ≤ 780 ∧ ∃ k : Nat, lv = [some (mR (some 200)), some (mI a), some (mI b), some (mI c), some (mI d), some (mI e), some (mI k), none] ∧ m = 30 - k ∧ k ≤ 20 ∧ apM I1 I (fdT a b c d e) k), ?_, ?_⟩
  · intro n t bs hbs lv st I1 hc
    rcases cutsX11_feed hbs with ⟨rfl, rfl⟩
    rw [sfxX11_feed_23]
    obtain ⟨rfl, h8, k, rfl, hm, hk, hA⟩ := hc
    have e6 := hA.2.2.2.1
    clear h1
    rcases Nat.lt_or_ge k 20 with z | z
    · have k3 : ib 3 k 3 = (k : Int) % 4 := by
        have q : ∀ k : Fin 20, ib 3 (k.val : Int) 3 = (k.val : Int) % 4 := by decide
        exact q ⟨k, z⟩
      have key : ∀ v : Int, v = (if (k : Int) < 4 then a else if (k : Int) < 8 then b else if (k : Int) < 12 then c else if (k : Int) < 16 then d else e) → ∃ n', n' < n ∧ I 200 6 ≤ 780 ∧ ∃ k_1 : Nat, [some (mR (some 200)), some (mI a), some (mI b), some (mI c), some (mI d), some (mI e), some (mI ((k : Int) + 1)), none] = [some (mR (some 200)), some (mI a), some (mI b), some (mI c), some (mI d), some (mI e), some (mI k_1), none] ∧ n' = 30 - k_1 ∧ k_1 ≤ 20 ∧ apM (mSet (mSet I1 204 (I 200 6 + k) (ib 3 (ib 8 v (24 - 8 * ib 3 k 3)) 255)) 200 6 (I 200 6 + k + 1)) I (fdT a b c d e) k_1 := fun v hv => ⟨30 - (k + 1), by omega, h8, k + 1, rfl, rfl, by omega, hA.one (by omega) (by
        rw [hv, k3]
        rfl)⟩
      clear h2
      simp only [false_and, and_false, true_or, or_true, false_or, or_false, true_and, and_true, true_implies, false_implies, implies_true, not_true_eq_false, not_false_eq_true, and_self, List.length_cons, List.length_nil, mNoCut_, mCat_n, mCat_I, mCat_L, mCat_R, mIsL_n, mIsL_I, mIsL_R, mIsL_L, Nat.reduceAdd, Nat.reduceSub, Nat.reduceLeDiff, Nat.reduceLT, Nat.reduceEqDiff, Nat.zero_le, Int.reduceEq, Int.reduceLT, Int.reduceLE, Int.reduceNeg, Int.reduceAdd, if_true, if_false, reduceIte, reduceCtorEq, Bool.false_eq_true, ne_eq, qCmp_0, qCmp_1, qCmp_2, qCmp_3, qCmp_4, qCmp_5, ib_0, ib_1, ib_2, lb_0, lb_1, lb_2, dv_0, dv_1, wq_ic, wq_ld_i, wq_ld_a, wq_st_i, wq_iinc, wq_ib, wq_icmp, wq_goto, wq_get, mGet_0, mGet_1, mGet_2, mGet_3, wq_putI, wq_putL, wq_astI, wq_astL, wq_dupI, wq_dupR, dup_I, dup_R, wq_ret0, wq_ret1, wq_ret2, wq_ret3, wq_ret4, ldR0, mrg_0_, fk_11_3, fk_11_6, mrg_20_, mrg_800_, mrg_m1_, stI6, ldI6, mrg_4_, ldI1, mrg_8_, ldI2, mrg_12_, ldI3, mrg_16_, ldI4, ldI5, stI7, fk_11_4, ldI7, mrg_24_, mrg_3_, mrg_255_, mrg_1_, wqinc6, mPut_s, mPut_I0, mPut_R0, mPut_L0, mPut_I1, mPut_R1, mPut_L1, mGo_n, sfxX11_feed_20, cutX11_feed_20, sfxX11_feed_23, cutX11_feed_23, sfxX11_feed_40, cutX11_feed_40, sfxX11_feed_51, cutX11_feed_51, sfxX11_feed_62, cutX11_feed_62, sfxX11_feed_74, cutX11_feed_74, sfxX11_feed_76, cutX11_feed_76, sfxX11_feed_120, cutX11_feed_120, wq_cut, mGo_c, mMask_t, mMask_f, mMask_n, kX11_feed_120, kX11_feed_76, kX11_feed_74, kX11_feed_62, kX11_feed_51, kX11_feed_40, kX11_feed_23, kX11_feed_20, kX11_feed_0, sk_200, al_200, rf_200_4, sk_204, al_204, sn_204, mrg, mrl, mSet_ap, ncast, Option.some.injEq, e6]
      exact ⟨⟨by omega, by omega⟩, fun w => by omega, fun _ => ⟨⟨by omega, by omega⟩, fun w4 => ⟨⟨by omega, by omega⟩, fun w8 => ⟨⟨by omega, by omega⟩, fun w12 => ⟨⟨by omega, by omega⟩, fun w16 => ⟨⟨by omega, by omega⟩, key e (by rw [if_neg (by omega), if_neg (by omega), if_neg (by omega), if_neg (by omega)])⟩, fun w16 => ⟨⟨by omega, by omega⟩, key d (by rw [if_neg (by omega), if_neg (by omega), if_neg (by omega), if_pos (by omega)])⟩⟩, fun w12 => ⟨⟨by omega, by omega⟩, key c (by rw [if_neg (by omega), if_neg (by omega), if_pos (by omega)])⟩⟩, fun w8 => ⟨⟨by omega, by omega⟩, key b (by rw [if_neg (by omega), if_pos (by omega)])⟩⟩, fun w4 => ⟨⟨by omega, by omega⟩, key a (by rw [if_pos (by omega)])⟩⟩⟩
    · have e : k = 20 := by omega
      subst e
      have h2 := h2 h8 _ hA
      simp only [false_and, and_false, true_or, or_true, false_or, or_false, true_and, and_true, true_implies, false_implies, implies_true, not_true_eq_false, not_false_eq_true, and_self, List.length_cons, List.length_nil, mNoCut_, mCat_n, mCat_I, mCat_L, mCat_R, mIsL_n, mIsL_I, mIsL_R, mIsL_L, Nat.reduceAdd, Nat.reduceSub, Nat.reduceLeDiff, Nat.reduceLT, Nat.reduceEqDiff, Nat.zero_le, Int.reduceEq, Int.reduceLT, Int.reduceLE, Int.reduceNeg, Int.reduceAdd, if_true, if_false, reduceIte, reduceCtorEq, Bool.false_eq_true, ne_eq, qCmp_0, qCmp_1, qCmp_2, qCmp_3, qCmp_4, qCmp_5, ib_0, ib_1, ib_2, lb_0, lb_1, lb_2, dv_0, dv_1, wq_ic, wq_ld_i, wq_ld_a, wq_st_i, wq_iinc, wq_ib, wq_icmp, wq_goto, wq_get, mGet_0, mGet_1, mGet_2, mGet_3, wq_putI, wq_putL, wq_astI, wq_astL, wq_dupI, wq_dupR, dup_I, dup_R, wq_ret0, wq_ret1, wq_ret2, wq_ret3, wq_ret4, ldR0, mrg_0_, fk_11_3, fk_11_6, mrg_20_, mrg_800_, mrg_m1_, stI6, ldI6, mrg_4_, ldI1, mrg_8_, ldI2, mrg_12_, ldI3, mrg_16_, ldI4, ldI5, stI7, fk_11_4, ldI7, mrg_24_, mrg_3_, mrg_255_, mrg_1_, wqinc6, mPut_s, mPut_I0, mPut_R0, mPut_L0, mPut_I1, mPut_R1, mPut_L1, mGo_n, sfxX11_feed_20, cutX11_feed_20, sfxX11_feed_23, cutX11_feed_23, sfxX11_feed_40, cutX11_feed_40, sfxX11_feed_51, cutX11_feed_51, sfxX11_feed_62, cutX11_feed_62, sfxX11_feed_74, cutX11_feed_74, sfxX11_feed_76, cutX11_feed_76, sfxX11_feed_120, cutX11_feed_120, wq_cut, mGo_c, mMask_t, mMask_f, mMask_n, kX11_feed_120, kX11_feed_76, kX11_feed_74, kX11_feed_62, kX11_feed_51, kX11_feed_40, kX11_feed_23, kX11_feed_20, kX11_feed_0, sk_200, al_200, rf_200_4, sk_204, al_204, sn_204, mrg, mrl, mSet_ap, ncast, Option.some.injEq, e6]
      (try simp only [mrg, mrl] at *) <;> repeat' (first | (with_reducible assumption) | (with_reducible apply And.intro) | intro _)
      all_goals first | omega | exact h2 | skip
  · show mWp _ _ _ _ _ _ kX11_feed_0 [some (mR (some 200)), some (mI a), some (mI b), some (mI c), some (mI d), some (mI e), none, none] [] I
    clear h2
    simp only [false_and, and_false, true_or, or_true, false_or, or_false, true_and, and_true, true_implies, false_implies, implies_true, not_true_eq_false, not_false_eq_true, and_self, List.length_cons, List.length_nil, mNoCut_, mCat_n, mCat_I, mCat_L, mCat_R, mIsL_n, mIsL_I, mIsL_R, mIsL_L, Nat.reduceAdd, Nat.reduceSub, Nat.reduceLeDiff, Nat.reduceLT, Nat.reduceEqDiff, Nat.zero_le, Int.reduceEq, Int.reduceLT, Int.reduceLE, Int.reduceNeg, Int.reduceAdd, if_true, if_false, reduceIte, reduceCtorEq, Bool.false_eq_true, ne_eq, qCmp_0, qCmp_1, qCmp_2, qCmp_3, qCmp_4, qCmp_5, ib_0, ib_1, ib_2, lb_0, lb_1, lb_2, dv_0, dv_1, wq_ic, wq_ld_i, wq_ld_a, wq_st_i, wq_iinc, wq_ib, wq_icmp, wq_goto, wq_get, mGet_0, mGet_1, mGet_2, mGet_3, wq_putI, wq_putL, wq_astI, wq_astL, wq_dupI, wq_dupR, dup_I, dup_R, wq_ret0, wq_ret1, wq_ret2, wq_ret3, wq_ret4, ldR0, mrg_0_, fk_11_3, fk_11_6, mrg_20_, mrg_800_, mrg_m1_, stI6, ldI6, mrg_4_, ldI1, mrg_8_, ldI2, mrg_12_, ldI3, mrg_16_, ldI4, ldI5, stI7, fk_11_4, ldI7, mrg_24_, mrg_3_, mrg_255_, mrg_1_, wqinc6, mPut_s, mPut_I0, mPut_R0, mPut_L0, mPut_I1, mPut_R1, mPut_L1, mGo_n, sfxX11_feed_20, cutX11_feed_20, sfxX11_feed_23, cutX11_feed_23, sfxX11_feed_40, cutX11_feed_40, sfxX11_feed_51, cutX11_feed_51, sfxX11_feed_62, cutX11_feed_62, sfxX11_feed_74, cutX11_feed_74, sfxX11_feed_76, cutX11_feed_76, sfxX11_feed_120, cutX11_feed_120, wq_cut, mGo_c, mMask_t, mMask_f, mMask_n, kX11_feed_120, kX11_feed_76, kX11_feed_74, kX11_feed_62, kX11_feed_51, kX11_feed_40, kX11_feed_23, kX11_feed_20, kX11_feed_0, sk_200, al_200, rf_200_4, sk_204, al_204, sn_204, mrg, mrl, mSet_ap, ncast, Option.some.injEq]
    exact ⟨⟨by omega, by omega⟩, fun w => ⟨_, by omega, 0, rfl, rfl, by omega, fun i i0 _ => set_ne i0, fun p hp _ => set_nq hp, set_eq, by rw [set_nq (by decide)]; show I 200 6 = I 200 6 + ((0 : Nat) : Int); omega, fun j => by rw [set_ne (by decide), if_neg (by omega)]⟩, fun w => h1 (by omega)⟩
theorem ctrX11_feed {l : Launch} (hst : l.stackTraces = false) (hT : mTxM l) : mCtr l calX11_feed spX11_feed :=
  mMet (T := TX11_feed) (S := SX11_feed) hst hT cutX11_feed (by decide) okX11_feed ⟨_, _, rfl, rfl⟩ trivial (fun t bs h => by rcases cutsX11_feed h with ⟨-, rfl⟩ <;> rfl) (fun a => mCtr_no) vcX11_feed

end SPC42
