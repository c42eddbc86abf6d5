section SPCUT4
def kE_46 : List mIn := (46, 3, 0, 1, 1, 0, []) :: (47, 33, 0, 2, 0, 0, []) :: []
def kE_44 : List mIn := (44, 13, 0, 0, 0, 0, []) :: (45, 33, 0, 2, 0, 0, []) :: kE_46
def kE_42 : List mIn := (42, 3, 0, 1, 1, 0, []) :: (43, 14, 0, 0, 0, 0, []) :: (44, 43, 0, 0, 44, 0, []) :: kE_44
def kE_37 : List mIn := (37, 3, 0, 1, 1, 0, []) :: (38, 14, 0, 0, 0, 0, []) :: (39, 15, 0, 1, 0, 0, []) :: (40, 13, 0, 0, 0, 0, []) :: (41, 33, 0, 2, 0, 0, []) :: kE_42
def kE_32 : List mIn := (32, 3, 0, 1, 1, 0, []) :: (33, 14, 0, 0, 0, 0, []) :: (34, 15, 0, 0, 0, 0, []) :: (35, 13, 0, 0, 0, 0, []) :: (36, 33, 0, 2, 0, 0, []) :: kE_37
def kE_0 : List mIn := (0, 4, 0, 0, 1, 0, []) :: (1, 24, 0, 8, 0, 15, [1493]) :: (4, 34, 0, 3, 46, 28, [32, 37, 42]) :: kE_32
def kE : List mIn := kE_0
def cE : Nat → Option (List Bool) := fun t => mLk t [(44, [true, true, true])]
theorem okE : mOK (yX8_cut.cls, cX8_cut, TX8_cut, (some .long), (0, 0, 0, 0), 3, mAcf [], mAcf []) kE = true := by decide +kernel
theorem sE_32 : mSfx 32 kE = kE_32 := rfl
theorem sE_37 : mSfx 37 kE = kE_37 := rfl
theorem sE_42 : mSfx 42 kE = kE_42 := rfl
theorem sE_44 : mSfx 44 kE = kE_44 := rfl
theorem sE_46 : mSfx 46 kE = kE_46 := rfl
theorem cE_32 : cE 32 = none := by decide
theorem cE_37 : cE 37 = none := by decide
theorem cE_42 : cE 42 = none := by decide
theorem cE_46 : cE 46 = none := by decide
theorem cE_44 : cE 44 = some [true, true, true] := by decide
theorem cE_of {t : Nat} {bs : List Bool} (h : cE t = some bs) : t = 44 ∧ bs = [true, true, true] := by
  unfold cE at h
  simp only [mLk] at h
  by_cases h0 : 44 = t
  · subst h0
    simp at h
    exact ⟨rfl, h.symm⟩
  rw [if_neg h0] at h
  cases h
def spX8_cut : mSp := shRL (fun fl i v I Q => ∃ k : Nat, i = some (170 + 2 * k) ∧ k < 4 ∧ fl (3 + k) = true ∧ (0 ≤ I (170 + 2 * k) 0 ∧ I (170 + 2 * k) 0 ≤ 3) ∧ mrl v ∧ Q (.inl (some (mL (cutT (I (170 + 2 * k) 0) v)))) I)
set_option maxRecDepth 100000 in
set_option maxHeartbeats 1000000 in
theorem vcX8_cut (fl : Nat → Bool) (avs : List mV) (I : mM) (Q : mO → mM → Prop) (hsp : spX8_cut fl avs I Q) : mVCE (fun _ _ _ _ _ => False) fl Q kE cE 3 avs I := by
  obtain ⟨i, v, rfl, h0⟩ := shRL_inv hsp
  obtain ⟨k, rfl, hk, hf, hs, hv, h⟩ := h0
  have F := trayF hk hf
  generalize ha : 170 + 2 * k = a at *
  have k1 := F.1.1
  have k2 := F.1.2
  clear F
  refine ⟨rfl, (fun m pc lv st I1 => lv = [some (mR (some a)), some (mL v), none] ∧ I1 = I ∧ st = [mI v] ∧ I a 0 = 2), ?_, ?_⟩
  · intro n t bs hbs lv st I1 hc
    obtain ⟨rfl, rfl⟩ := cE_of hbs
    obtain ⟨rfl, rfl, rfl, h2⟩ := hc
    refine ⟨[mI (Int32.ofInt v).toInt], fun ρ => ?_, ?_⟩
    · show [Value.int (Int32.ofInt (Int32.ofInt v).toInt)] = [Value.int (Int32.ofInt v)]
      rw [Int32.ofInt_toInt]
    rw [sE_44]
    rw [h2, cutT_2] at h
    have b1 := Int32.le_toInt (Int32.ofInt v)
    have b2 := Int32.toInt_lt (Int32.ofInt v)
    simp only [false_and, and_false, true_or, or_true, false_or, or_false, true_and, and_true, true_implies, false_implies, implies_true, not_true_eq_false, not_false_eq_true, and_self, List.length_cons, List.length_nil, mNoCut_, mCat_n, mCat_I, mCat_L, mCat_R, mIsL_n, mIsL_I, mIsL_R, mIsL_L, Nat.reduceAdd, Nat.reduceSub, Nat.reduceLeDiff, Nat.reduceLT, Nat.reduceEqDiff, Nat.zero_le, Int.reduceEq, Int.reduceLT, Int.reduceLE, Int.reduceNeg, Int.reduceAdd, if_true, if_false, reduceIte, reduceCtorEq, Bool.false_eq_true, ne_eq, qCmp_0, qCmp_1, qCmp_2, qCmp_3, qCmp_4, qCmp_5, ib_0, ib_1, ib_2, lb_0, lb_1, lb_2, dv_0, dv_1, wq_ic, wq_ld_i, wq_ld_a, wq_icmp, wq_if, wq_get, mGet_0, mGet_1, mGet_2, mGet_3, wq_ald, wq_ret0, wq_ret1, wq_ret2, wq_ret3, wq_ret4, wq_thr, ldI1, mrg_4_, ldR0, fk_10_2, mrg_0_, mGo_n, sfxX10_trayAt_9, cutX10_trayAt_9, sfxX10_trayAt_20, cutX10_trayAt_20, sk_0, al_0, rf_0_2, sk_2, al_2, sn_2, ald_n, ro0_n, al_ro, mrg, mrl, mSet_ap, ncast, Option.some.injEq, wq_lc, wq_putI, wq_putL, fk_8_0, ldI2, fk_8_1, fk_8_2, wq_callS2_1, SX8_empty_0, shqRL_, k1, k2, Option.getD_some, wq_i2l, wq_l2i, wq_icv, wq_sw, wqsw_n, wqsw_c, wq_cut, wq_ld_l, ldL1, kE_0, kE_32, kE_37, kE_42, kE_44, kE_46, sE_32, sE_37, sE_42, sE_46, cE_32, cE_37, cE_42, cE_46, cE_44]
    (try simp only [mrg, mrl] at *) <;> repeat' (first | (with_reducible assumption) | (with_reducible apply And.intro) | intro _)
    all_goals first | omega | assumption | skip
  · show mWp _ _ _ _ _ _ kE_0 [some (mR (some a)), some (mL v), none] [] I
    have g0 : I a 0 = 0 → Q (.inl (some (mL (icv 0 v)))) I := fun z => by rw [z, cutT_0] at h; exact h
    have g1 : I a 0 = 1 → Q (.inl (some (mL (icv 1 v)))) I := fun z => by rw [z, cutT_1] at h; exact h
    have g3 : I a 0 = 3 → Q (.inl (some (mL v))) I := fun z => by rw [z, cutT_3 hv] at h; exact h
    have b1 := Int32.le_toInt (Int32.ofInt v).toInt8.toInt32
    have b2 := Int32.toInt_lt (Int32.ofInt v).toInt8.toInt32
    have b3 := Int32.le_toInt (Int32.ofInt v).toInt16.toInt32
    have b4 := Int32.toInt_lt (Int32.ofInt v).toInt16.toInt32
    have c0 : icv 0 v = (Int32.ofInt v).toInt8.toInt32.toInt := rfl
    have c1 : icv 1 v = (Int32.ofInt v).toInt16.toInt32.toInt := rfl
    simp only [false_and, and_false, true_or, or_true, false_or, or_false, true_and, and_true, true_implies, false_implies, implies_true, not_true_eq_false, not_false_eq_true, and_self, List.length_cons, List.length_nil, mNoCut_, mCat_n, mCat_I, mCat_L, mCat_R, mIsL_n, mIsL_I, mIsL_R, mIsL_L, Nat.reduceAdd, Nat.reduceSub, Nat.reduceLeDiff, Nat.reduceLT, Nat.reduceEqDiff, Nat.zero_le, Int.reduceEq, Int.reduceLT, Int.reduceLE, Int.reduceNeg, Int.reduceAdd, if_true, if_false, reduceIte, reduceCtorEq, Bool.false_eq_true, ne_eq, qCmp_0, qCmp_1, qCmp_2, qCmp_3, qCmp_4, qCmp_5, ib_0, ib_1, ib_2, lb_0, lb_1, lb_2, dv_0, dv_1, wq_ic, wq_ld_i, wq_ld_a, wq_icmp, wq_if, wq_get, mGet_0, mGet_1, mGet_2, mGet_3, wq_ald, wq_ret0, wq_ret1, wq_ret2, wq_ret3, wq_ret4, wq_thr, ldI1, mrg_4_, ldR0, fk_10_2, mrg_0_, mGo_n, sfxX10_trayAt_9, cutX10_trayAt_9, sfxX10_trayAt_20, cutX10_trayAt_20, sk_0, al_0, rf_0_2, sk_2, al_2, sn_2, ald_n, ro0_n, al_ro, mrg, mrl, mSet_ap, ncast, Option.some.injEq, wq_lc, wq_putI, wq_putL, fk_8_0, ldI2, fk_8_1, fk_8_2, wq_callS2_1, SX8_empty_0, shqRL_, k1, k2, Option.getD_some, wq_i2l, wq_l2i, wq_icv, wq_sw, wqsw_n, wqsw_c, wq_cut, wq_ld_l, ldL1, kE_0, kE_32, kE_37, kE_42, kE_44, kE_46, sE_32, sE_37, sE_42, sE_46, cE_32, cE_37, cE_42, cE_46, cE_44]
    (try simp only [mrg, mrl] at *) <;> repeat' (first | (with_reducible assumption) | (with_reducible apply And.intro) | intro _)
    all_goals first | (rw [c0]; omega) | (rw [c1]; omega) | exact g0 (by assumption) | exact g1 (by assumption) | exact g3 (by clear g0 g1 g3 h; omega) | (clear g0 g1 g3 h; omega) | (rw [mGo_c (by decide) cE_44]; exact ⟨0, rfl, rfl, rfl, by assumption⟩) | skip
theorem ctrX8_cut {l : Launch} (hst : l.stackTraces = false) (hT : mTxM l) : mCtr l calX8_cut spX8_cut :=
  mMetE (T := TX8_cut) (S := fun _ _ _ _ _ => False) hst hT cE (by decide) okE ⟨_, _, rfl, rfl⟩ trivial (fun t bs h => by obtain ⟨-, rfl⟩ := cE_of h; rfl) (fun a => mCtr_no) vcX8_cut
end SPCUT4
