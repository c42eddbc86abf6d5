section SPC22
theorem cutT_rg {s v : Int} (hs : 0 ≤ s ∧ s ≤ 3) (hv : mrl v) : mrl (cutT s v) := by
  unfold cutT
  have b1 := Int64.le_toInt (Int64.ofInt (lsh 0 v (64 - ib 6 8 s)) >>> ((Int32.ofInt (64 - ib 6 8 s)).toInt64 &&& 63))
  have b2 := Int64.toInt_lt (Int64.ofInt (lsh 0 v (64 - ib 6 8 s)) >>> ((Int32.ofInt (64 - ib 6 8 s)).toInt64 &&& 63))
  exact ⟨b1, b2⟩
def spX10_write : mSp := shRIIL (fun fl i t p v I Q => i = some 0 ∧ mrg t ∧ mrg p ∧ mrl v ∧ (¬ trayP t → Q (.inr (mEx 0)) I) ∧ (trayP t → fl (3 + t.toNat) = false → Q (.inr (mEx 2)) I) ∧ (trayP t → fl (3 + t.toNat) = true → ((0 ≤ I (170 + 2 * t.toNat) 0 ∧ I (170 + 2 * t.toNat) 0 ≤ 3) ∧ (0 ≤ I (170 + 2 * t.toNat) 1 ∧ I (170 + 2 * t.toNat) 1 ≤ 40)) ∧ (¬ (0 ≤ p ∧ p < I (170 + 2 * t.toNat) 1) → Q (.inr (mEx 3)) I) ∧ (0 ≤ p → p < I (170 + 2 * t.toNat) 1 → Q (.inl (some (mL (cutT (I (170 + 2 * t.toNat) 0) v)))) (mSet I (171 + 2 * t.toNat) p (cutT (I (170 + 2 * t.toNat) 0) v)))))
def SX10_write : Nat → mSp := fun a => match a with
  | 0 => spX10_trayAt
  | 1 => spX8_cut
  | _ => fun _ _ _ _ => False
theorem SX10_write_0 : SX10_write 0 = spX10_trayAt := Eq.trans rfl rfl
theorem SX10_write_1 : SX10_write 1 = spX8_cut := Eq.trans rfl rfl
set_option maxRecDepth 100000 in
set_option maxHeartbeats 1000000 in
theorem vcX10_write (fl : Nat → Bool) (avs : List mV) (I : mM) (Q : mO → mM → Prop) (hsp : spX10_write fl avs I Q) : mVC0 SX10_write fl Q kX10_write 6 avs I := by
  obtain ⟨i, t, p, v, rfl, h0⟩ := shRIIL_inv hsp
  refine ⟨rfl, ?_⟩
  show mWp _ _ _ _ _ _ kX10_write_0 [some (mR i), some (mI t), some (mI p), some (mL v), none, none] [] I
  obtain ⟨rfl, rt, rp, rv, h1, h2, h3⟩ := h0
  by_cases z : trayP t
  · cases hf : fl (3 + t.toNat)
    · have h2 := h2 z hf
      clear h1 h3
      simp only [false_and, and_false, true_or, or_true, false_or, or_false, true_and, and_true, true_implies, false_implies, implies_true, not_true_eq_false, not_false_eq_true, and_self, List.length_cons, List.length_nil, mNoCut_, mCat_n, mCat_I, mCat_L, mCat_R, mIsL_n, mIsL_I, mIsL_R, mIsL_L, Nat.reduceAdd, Nat.reduceSub, Nat.reduceLeDiff, Nat.reduceLT, Nat.reduceEqDiff, Nat.zero_le, Int.reduceEq, Int.reduceLT, Int.reduceLE, Int.reduceNeg, Int.reduceAdd, if_true, if_false, reduceIte, reduceCtorEq, Bool.false_eq_true, ne_eq, qCmp_0, qCmp_1, qCmp_2, qCmp_3, qCmp_4, qCmp_5, ib_0, ib_1, ib_2, lb_0, lb_1, lb_2, dv_0, dv_1, wq_ld_i, wq_ld_l, wq_ld_a, wq_st_a, wq_icmp, wq_if, wq_nulN, wq_nulS, wq_nnlN, wq_nnlS, wq_get, mGet_0, mGet_1, mGet_2, mGet_3, wq_ald, wq_astI, wq_astL, wq_ret0, wq_ret1, wq_ret2, wq_ret3, wq_ret4, wq_thr, ldR0, ldI1, wq_callV2_0, stR5, ldR5, ldI2, fk_8_1, fk_8_2, ldL3, mPut_s, mPut_I0, mPut_R0, mPut_L0, mPut_I1, mPut_R1, mPut_L1, mrg_0_, mGo_n, sfxX10_write_23, cutX10_write_23, sfxX10_write_36, cutX10_write_36, sfxX10_write_47, cutX10_write_47, kX10_write_47, kX10_write_36, kX10_write_23, kX10_write_0, sk_0, al_0, ald_n, ro0_n, al_ro, SX10_write_0, SX10_write_1, shqRI_, shqRL_, spX10_trayAt, spX8_cut, mrg, mrl, mSet_ap, ncast, Option.some.injEq, hf]
      (try simp only [mrg, mrl] at *) <;> repeat' (first | (with_reducible assumption) | (with_reducible apply And.intro) | intro _)
      all_goals first | omega | exact h2 | skip
    · obtain ⟨⟨hs, hm⟩, h5, h4⟩ := h3 z hf
      clear h1 h2 h3
      have F := trayF (show t.toNat < 4 by omega) hf
      generalize hk : t.toNat = k at *
      generalize ha : 170 + 2 * k = a at *
      generalize hd : 171 + 2 * k = d at *
      have k1 := F.1.1
      have k2 := F.1.2
      have k3 := F.2.1
      have k4 := F.2.2.1.1
      have k5 := F.2.2.1.2
      have k6 := F.2.2.2.1
      have k7 := F.2.2.2.2
      clear F
      have hc := cutT_rg hs rv
      simp only [false_and, and_false, true_or, or_true, false_or, or_false, true_and, and_true, true_implies, false_implies, implies_true, not_true_eq_false, not_false_eq_true, and_self, List.length_cons, List.length_nil, mNoCut_, mCat_n, mCat_I, mCat_L, mCat_R, mIsL_n, mIsL_I, mIsL_R, mIsL_L, Nat.reduceAdd, Nat.reduceSub, Nat.reduceLeDiff, Nat.reduceLT, Nat.reduceEqDiff, Nat.zero_le, Int.reduceEq, Int.reduceLT, Int.reduceLE, Int.reduceNeg, Int.reduceAdd, if_true, if_false, reduceIte, reduceCtorEq, Bool.false_eq_true, ne_eq, qCmp_0, qCmp_1, qCmp_2, qCmp_3, qCmp_4, qCmp_5, ib_0, ib_1, ib_2, lb_0, lb_1, lb_2, dv_0, dv_1, wq_ld_i, wq_ld_l, wq_ld_a, wq_st_a, wq_icmp, wq_if, wq_nulN, wq_nulS, wq_nnlN, wq_nnlS, wq_get, mGet_0, mGet_1, mGet_2, mGet_3, wq_ald, wq_astI, wq_astL, wq_ret0, wq_ret1, wq_ret2, wq_ret3, wq_ret4, wq_thr, ldR0, ldI1, wq_callV2_0, stR5, ldR5, ldI2, fk_8_1, fk_8_2, ldL3, mPut_s, mPut_I0, mPut_R0, mPut_L0, mPut_I1, mPut_R1, mPut_L1, mrg_0_, mGo_n, sfxX10_write_23, cutX10_write_23, sfxX10_write_36, cutX10_write_36, sfxX10_write_47, cutX10_write_47, kX10_write_47, kX10_write_36, kX10_write_23, kX10_write_0, sk_0, al_0, ald_n, ro0_n, al_ro, SX10_write_0, SX10_write_1, shqRI_, shqRL_, spX10_trayAt, spX8_cut, mrg, mrl, mSet_ap, ncast, Option.some.injEq, hk, ha, hd, hf, k1, k2, k3, k4, k5, k6, k7]
      (try simp only [mrg, mrl] at *) <;> repeat' (first | (with_reducible assumption) | (with_reducible apply And.intro) | intro _)
      all_goals first | omega | assumption | exact h5 (fun z => by have z1 := z.1; have z2 := z.2; clear h5 h4; omega) | (refine ⟨k, ha.symm, by omega, hf, ?_⟩; rw [ha]; exact ⟨hs, rv, ⟨by omega, by omega⟩, ⟨by omega, by omega⟩, h4 (by omega) (by omega)⟩) | skip
  · have h1 := h1 z
    clear h2 h3
    simp only [false_and, and_false, true_or, or_true, false_or, or_false, true_and, and_true, true_implies, false_implies, implies_true, not_true_eq_false, not_false_eq_true, and_self, List.length_cons, List.length_nil, mNoCut_, mCat_n, mCat_I, mCat_L, mCat_R, mIsL_n, mIsL_I, mIsL_R, mIsL_L, Nat.reduceAdd, Nat.reduceSub, Nat.reduceLeDiff, Nat.reduceLT, Nat.reduceEqDiff, Nat.zero_le, Int.reduceEq, Int.reduceLT, Int.reduceLE, Int.reduceNeg, Int.reduceAdd, if_true, if_false, reduceIte, reduceCtorEq, Bool.false_eq_true, ne_eq, qCmp_0, qCmp_1, qCmp_2, qCmp_3, qCmp_4, qCmp_5, ib_0, ib_1, ib_2, lb_0, lb_1, lb_2, dv_0, dv_1, wq_ld_i, wq_ld_l, wq_ld_a, wq_st_a, wq_icmp, wq_if, wq_nulN, wq_nulS, wq_nnlN, wq_nnlS, wq_get, mGet_0, mGet_1, mGet_2, mGet_3, wq_ald, wq_astI, wq_astL, wq_ret0, wq_ret1, wq_ret2, wq_ret3, wq_ret4, wq_thr, ldR0, ldI1, wq_callV2_0, stR5, ldR5, ldI2, fk_8_1, fk_8_2, ldL3, mPut_s, mPut_I0, mPut_R0, mPut_L0, mPut_I1, mPut_R1, mPut_L1, mrg_0_, mGo_n, sfxX10_write_23, cutX10_write_23, sfxX10_write_36, cutX10_write_36, sfxX10_write_47, cutX10_write_47, kX10_write_47, kX10_write_36, kX10_write_23, kX10_write_0, sk_0, al_0, ald_n, ro0_n, al_ro, SX10_write_0, SX10_write_1, shqRI_, shqRL_, spX10_trayAt, spX8_cut, mrg, mrl, mSet_ap, ncast, Option.some.injEq]
    (try simp only [mrg, mrl] at *) <;> repeat' (first | (with_reducible assumption) | (with_reducible apply And.intro) | intro _)
    all_goals first | omega | exact h1 | skip
theorem ctrX10_write {l : Launch} (hst : l.stackTraces = false) (hT : mTxM l) : mCtr l calX10_write spX10_write :=
  mMet0 (T := TX10_write) (S := SX10_write) hst hT (by decide) okX10_write ⟨_, _, rfl, rfl⟩ (fun a => match a with
    | 0 => ctrX10_trayAt hst hT
    | 1 => ctrX8_cut hst hT
    | _ + 2 => mCtr_no) vcX10_write

abbrev pourC (I : mM) (k : Nat) : Prop := I (170 + 2 * k) 1 ≤ 9 ∧ ∀ q : Int, 0 ≤ q → q < I (170 + 2 * k) 1 → -1 ≤ I (171 + 2 * k) q ∧ I (171 + 2 * k) q < 289
def spX10_pour : mSp := shRI (fun fl i t I Q => i = some 0 ∧ mrg t ∧ (¬ trayP t → Q (.inr (mEx 0)) I) ∧ (trayP t → fl (3 + t.toNat) = false → Q (.inr (mEx 2)) I) ∧ (trayP t → fl (3 + t.toNat) = true → ((0 ≤ I (170 + 2 * t.toNat) 1 ∧ I (170 + 2 * t.toNat) 1 ≤ 40) ∧ ∀ q : Int, 0 ≤ q → q < 40 → mrl (I (171 + 2 * t.toNat) q)) ∧ (¬ pourC I t.toNat → Q (.inr (mEx 1)) I) ∧ (pourC I t.toNat → Q (.inl (some (mI (I (170 + 2 * t.toNat) 1)))) (copyM I 20 0 (I (171 + 2 * t.toNat)) (I (170 + 2 * t.toNat) 1)))))
def SX10_pour : Nat → mSp := fun a => match a with
  | 0 => spX10_trayAt
  | 1 => spX8_holdsOnly
  | _ => fun _ _ _ _ => False
theorem SX10_pour_0 : SX10_pour 0 = spX10_trayAt := Eq.trans rfl rfl
theorem SX10_pour_1 : SX10_pour 1 = spX8_holdsOnly := Eq.trans rfl rfl
theorem cutsX10_pour {t : Nat} {bs : List Bool} (h : cutX10_pour t = some bs) : (t = 55 ∧ bs = [true, false, true, true]) := by
  unfold cutX10_pour at h
  simp only [mLk] at h
  by_cases h0 : 55 = t
  · subst h0
    simp at h
    exact ⟨rfl, h.symm⟩
  rw [if_neg h0] at h
  cases h
set_option maxRecDepth 100000 in
set_option maxHeartbeats 1000000 in
theorem vcX10_pour (fl : Nat → Bool) (avs : List mV) (I : mM) (Q : mO → mM → Prop) (hsp : spX10_pour fl avs I Q) : mVC SX10_pour fl Q kX10_pour cutX10_pour 4 avs I := by
  obtain ⟨i, t, rfl, h0⟩ := shRI_inv hsp
  obtain ⟨rfl, rt, h1, h2, h3⟩ := h0
  refine ⟨rfl, (fun m pc lv st I1 => st = [] ∧ trayP t ∧ fl (3 + t.toNat) = true ∧ pourC I t.toNat ∧ ∃ j : Nat, lv = [some (mR (some 0)), none, some (mR (some (170 + 2 * t.toNat))), some (mI j)] ∧ (j : Int) ≤ I (170 + 2 * t.toNat) 1 ∧ m = 9 - j ∧ I1 = copyM I 20 0 (I (171 + 2 * t.toNat)) j), ?_, ?_⟩
  · intro n t bs hbs lv st I1 hc
    rcases cutsX10_pour hbs with ⟨rfl, rfl⟩
    rw [sfxX10_pour_55]
    obtain ⟨rfl, z, hf, hp, j, rfl, hj, hm, rfl⟩ := hc
    obtain ⟨⟨hm0, hq⟩, h5, h4⟩ := h3 z hf
    have h4 := h4 hp
    clear h1 h2 h3 h5
    have F := trayF (show t.toNat < 4 by omega) hf
    have hp1 := hp.1
    have hp2 := hp.2
    clear hp
    have ea : 170 + 2 * t.toNat ≠ 20 := by omega
    have ed : 171 + 2 * t.toNat ≠ 20 := by omega
    generalize hk : t.toNat = k at *
    generalize ha : 170 + 2 * k = a at *
    generalize hd : 171 + 2 * k = d at *
    have k1 := F.1.1
    have k2 := F.1.2
    have k3 := F.2.1
    have k4 := F.2.2.1.1
    have k5 := F.2.2.1.2
    have k6 := F.2.2.2.1
    have k7 := F.2.2.2.2
    clear F
    have na := copyM_ne I 0 (I d) j ea
    have nd := copyM_ne I 0 (I d) j ed
    have em := copyM_s I 20 0 (I d) (n := j) (v := I d j) (by omega) rfl
    rw [Int.zero_add] at em
    have hj2 := hp2 j (by omega)
    simp only [false_and, and_false, true_or, or_true, false_or, or_false, true_and, and_true, true_implies, false_implies, implies_true, not_true_eq_false, not_false_eq_true, and_self, List.length_cons, List.length_nil, mNoCut_, mCat_n, mCat_I, mCat_L, mCat_R, mIsL_n, mIsL_I, mIsL_R, mIsL_L, Nat.reduceAdd, Nat.reduceSub, Nat.reduceLeDiff, Nat.reduceLT, Nat.reduceEqDiff, Nat.zero_le, Int.reduceEq, Int.reduceLT, Int.reduceLE, Int.reduceNeg, Int.reduceAdd, if_true, if_false, reduceIte, reduceCtorEq, Bool.false_eq_true, ne_eq, qCmp_0, qCmp_1, qCmp_2, qCmp_3, qCmp_4, qCmp_5, ib_0, ib_1, ib_2, lb_0, lb_1, lb_2, dv_0, dv_1, wq_ic, wq_ld_i, wq_ld_a, wq_st_i, wq_st_a, wq_iinc, wq_l2i, wq_icmp, wq_if, wq_goto, wq_nulN, wq_nulS, wq_nnlN, wq_nnlS, wq_get, mGet_0, mGet_1, mGet_2, mGet_3, wq_ald, wq_astI, wq_astL, wq_ret0, wq_ret1, wq_ret2, wq_ret3, wq_ret4, wq_thr, ldR0, ldI1, wq_callV2_0, stR2, ldR2, fk_8_1, mrg_9_, mrg_m1_, wq_callV3_0, mrg_0_, stI3, ldI3, fk_10_0, fk_7_1, fk_6_0, fk_8_2, wqinc3, mPut_s, mPut_I0, mPut_R0, mPut_L0, mPut_I1, mPut_R1, mPut_L1, mGo_n, sfxX10_pour_21, cutX10_pour_21, sfxX10_pour_42, cutX10_pour_42, sfxX10_pour_53, cutX10_pour_53, sfxX10_pour_55, cutX10_pour_55, sfxX10_pour_88, cutX10_pour_88, wq_cut, mGo_c, mMask_t, mMask_f, mMask_n, kX10_pour_88, kX10_pour_55, kX10_pour_53, kX10_pour_42, kX10_pour_21, kX10_pour_0, sk_0, al_0, rf_0_0, sk_10, al_10, sk_12, al_12, rf_12_0, sk_20, al_20, sn_20, rf_10_1, ald_n, ro0_n, al_ro, SX10_pour_0, SX10_pour_1, shqRI_, shqRII_, spX10_trayAt, spX8_holdsOnly, mrg, mrl, mSet_ap, ncast, Option.some.injEq, k1, k2, k3, k4, k5, k6, k7, na, nd]
    (try simp only [mrg, mrl] at *) <;> repeat' (first | (with_reducible assumption) | (with_reducible apply And.intro) | intro _)
    all_goals first | omega | assumption | (have e : (j : Int) = I a 1 := by omega); rw [e]; exact h4 | exact ⟨9 - (j + 1), by omega, z, hf, ⟨by rw [ha]; exact hp1, by rw [ha, hd]; exact hp2⟩, j + 1, rfl, by omega, rfl, em⟩ | skip
  · show mWp _ _ _ _ _ _ kX10_pour_0 [some (mR (some 0)), some (mI t), none, none] [] I
    by_cases z : trayP t
    · cases hf : fl (3 + t.toNat)
      · have h2 := h2 z hf
        clear h1 h3
        simp only [false_and, and_false, true_or, or_true, false_or, or_false, true_and, and_true, true_implies, false_implies, implies_true, not_true_eq_false, not_false_eq_true, and_self, List.length_cons, List.length_nil, mNoCut_, mCat_n, mCat_I, mCat_L, mCat_R, mIsL_n, mIsL_I, mIsL_R, mIsL_L, Nat.reduceAdd, Nat.reduceSub, Nat.reduceLeDiff, Nat.reduceLT, Nat.reduceEqDiff, Nat.zero_le, Int.reduceEq, Int.reduceLT, Int.reduceLE, Int.reduceNeg, Int.reduceAdd, if_true, if_false, reduceIte, reduceCtorEq, Bool.false_eq_true, ne_eq, qCmp_0, qCmp_1, qCmp_2, qCmp_3, qCmp_4, qCmp_5, ib_0, ib_1, ib_2, lb_0, lb_1, lb_2, dv_0, dv_1, wq_ic, wq_ld_i, wq_ld_a, wq_st_i, wq_st_a, wq_iinc, wq_l2i, wq_icmp, wq_if, wq_goto, wq_nulN, wq_nulS, wq_nnlN, wq_nnlS, wq_get, mGet_0, mGet_1, mGet_2, mGet_3, wq_ald, wq_astI, wq_astL, wq_ret0, wq_ret1, wq_ret2, wq_ret3, wq_ret4, wq_thr, ldR0, ldI1, wq_callV2_0, stR2, ldR2, fk_8_1, mrg_9_, mrg_m1_, wq_callV3_0, mrg_0_, stI3, ldI3, fk_10_0, fk_7_1, fk_6_0, fk_8_2, wqinc3, mPut_s, mPut_I0, mPut_R0, mPut_L0, mPut_I1, mPut_R1, mPut_L1, mGo_n, sfxX10_pour_21, cutX10_pour_21, sfxX10_pour_42, cutX10_pour_42, sfxX10_pour_53, cutX10_pour_53, sfxX10_pour_55, cutX10_pour_55, sfxX10_pour_88, cutX10_pour_88, wq_cut, mGo_c, mMask_t, mMask_f, mMask_n, kX10_pour_88, kX10_pour_55, kX10_pour_53, kX10_pour_42, kX10_pour_21, kX10_pour_0, sk_0, al_0, rf_0_0, sk_10, al_10, sk_12, al_12, rf_12_0, sk_20, al_20, sn_20, rf_10_1, ald_n, ro0_n, al_ro, SX10_pour_0, SX10_pour_1, shqRI_, shqRII_, spX10_trayAt, spX8_holdsOnly, mrg, mrl, mSet_ap, ncast, Option.some.injEq, hf]
        (try simp only [mrg, mrl] at *) <;> repeat' (first | (with_reducible assumption) | (with_reducible apply And.intro) | intro _)
        all_goals first | omega | exact h2 | skip
      · obtain ⟨⟨hm0, hq⟩, h5, h4⟩ := h3 z hf
        clear h1 h2 h3 h4
        have F := trayF (show t.toNat < 4 by omega) hf
        have k1 := F.1.1
        have k2 := F.1.2
        have k3 := F.2.1
        have k4 := F.2.2.1.1
        have k5 := F.2.2.1.2
        have k6 := F.2.2.2.1
        have k7 := F.2.2.2.2
        clear F
        simp only [false_and, and_false, true_or, or_true, false_or, or_false, true_and, and_true, true_implies, false_implies, implies_true, not_true_eq_false, not_false_eq_true, and_self, List.length_cons, List.length_nil, mNoCut_, mCat_n, mCat_I, mCat_L, mCat_R, mIsL_n, mIsL_I, mIsL_R, mIsL_L, Nat.reduceAdd, Nat.reduceSub, Nat.reduceLeDiff, Nat.reduceLT, Nat.reduceEqDiff, Nat.zero_le, Int.reduceEq, Int.reduceLT, Int.reduceLE, Int.reduceNeg, Int.reduceAdd, if_true, if_false, reduceIte, reduceCtorEq, Bool.false_eq_true, ne_eq, qCmp_0, qCmp_1, qCmp_2, qCmp_3, qCmp_4, qCmp_5, ib_0, ib_1, ib_2, lb_0, lb_1, lb_2, dv_0, dv_1, wq_ic, wq_ld_i, wq_ld_a, wq_st_i, wq_st_a, wq_iinc, wq_l2i, wq_icmp, wq_if, wq_goto, wq_nulN, wq_nulS, wq_nnlN, wq_nnlS, wq_get, mGet_0, mGet_1, mGet_2, mGet_3, wq_ald, wq_astI, wq_astL, wq_ret0, wq_ret1, wq_ret2, wq_ret3, wq_ret4, wq_thr, ldR0, ldI1, wq_callV2_0, stR2, ldR2, fk_8_1, mrg_9_, mrg_m1_, wq_callV3_0, mrg_0_, stI3, ldI3, fk_10_0, fk_7_1, fk_6_0, fk_8_2, wqinc3, mPut_s, mPut_I0, mPut_R0, mPut_L0, mPut_I1, mPut_R1, mPut_L1, mGo_n, sfxX10_pour_21, cutX10_pour_21, sfxX10_pour_42, cutX10_pour_42, sfxX10_pour_53, cutX10_pour_53, sfxX10_pour_55, cutX10_pour_55, sfxX10_pour_88, cutX10_pour_88, wq_cut, mGo_c, mMask_t, mMask_f, mMask_n, kX10_pour_88, kX10_pour_55, kX10_pour_53, kX10_pour_42, kX10_pour_21, kX10_pour_0, sk_0, al_0, rf_0_0, sk_10, al_10, sk_12, al_12, rf_12_0, sk_20, al_20, sn_20, rf_10_1, ald_n, ro0_n, al_ro, SX10_pour_0, SX10_pour_1, shqRI_, shqRII_, spX10_trayAt, spX8_holdsOnly, mrg, mrl, mSet_ap, ncast, Option.some.injEq, hf, k1, k2, k3, k4, k5, k6, k7]
        (try simp only [mrg, mrl] at *) <;> repeat' (first | (with_reducible assumption) | (with_reducible apply And.intro) | intro _)
        all_goals first | omega | assumption | exact h5 (fun w => by have := w.1; clear h5; omega) | exact ⟨t.toNat, rfl, by omega, hf, ⟨by omega, by omega⟩, hm0, hq, fun w => ⟨9, z, ⟨by omega, fun q q0 q1 => w q q0 q1 q1⟩, 0, rfl, by omega, rfl, (copyM_0 _ _ _ _).symm⟩, fun w => h5 (fun w2 => w (fun q q0 q1 _ => w2.2 q q0 q1))⟩ | skip
    · have h1 := h1 z
      clear h2 h3
      simp only [false_and, and_false, true_or, or_true, false_or, or_false, true_and, and_true, true_implies, false_implies, implies_true, not_true_eq_false, not_false_eq_true, and_self, List.length_cons, List.length_nil, mNoCut_, mCat_n, mCat_I, mCat_L, mCat_R, mIsL_n, mIsL_I, mIsL_R, mIsL_L, Nat.reduceAdd, Nat.reduceSub, Nat.reduceLeDiff, Nat.reduceLT, Nat.reduceEqDiff, Nat.zero_le, Int.reduceEq, Int.reduceLT, Int.reduceLE, Int.reduceNeg, Int.reduceAdd, if_true, if_false, reduceIte, reduceCtorEq, Bool.false_eq_true, ne_eq, qCmp_0, qCmp_1, qCmp_2, qCmp_3, qCmp_4, qCmp_5, ib_0, ib_1, ib_2, lb_0, lb_1, lb_2, dv_0, dv_1, wq_ic, wq_ld_i, wq_ld_a, wq_st_i, wq_st_a, wq_iinc, wq_l2i, wq_icmp, wq_if, wq_goto, wq_nulN, wq_nulS, wq_nnlN, wq_nnlS, wq_get, mGet_0, mGet_1, mGet_2, mGet_3, wq_ald, wq_astI, wq_astL, wq_ret0, wq_ret1, wq_ret2, wq_ret3, wq_ret4, wq_thr, ldR0, ldI1, wq_callV2_0, stR2, ldR2, fk_8_1, mrg_9_, mrg_m1_, wq_callV3_0, mrg_0_, stI3, ldI3, fk_10_0, fk_7_1, fk_6_0, fk_8_2, wqinc3, mPut_s, mPut_I0, mPut_R0, mPut_L0, mPut_I1, mPut_R1, mPut_L1, mGo_n, sfxX10_pour_21, cutX10_pour_21, sfxX10_pour_42, cutX10_pour_42, sfxX10_pour_53, cutX10_pour_53, sfxX10_pour_55, cutX10_pour_55, sfxX10_pour_88, cutX10_pour_88, wq_cut, mGo_c, mMask_t, mMask_f, mMask_n, kX10_pour_88, kX10_pour_55, kX10_pour_53, kX10_pour_42, kX10_pour_21, kX10_pour_0, sk_0, al_0, rf_0_0, sk_10, al_10, sk_12, al_12, rf_12_0, sk_20, al_20, sn_20, rf_10_1, ald_n, ro0_n, al_ro, SX10_pour_0, SX10_pour_1, shqRI_, shqRII_, spX10_trayAt, spX8_holdsOnly, mrg, mrl, mSet_ap, ncast, Option.some.injEq]
      (try simp only [mrg, mrl] at *) <;> repeat' (first | (with_reducible assumption) | (with_reducible apply And.intro) | intro _)
      all_goals first | omega | exact h1 | skip
theorem ctrX10_pour {l : Launch} (hst : l.stackTraces = false) (hT : mTxM l) : mCtr l calX10_pour spX10_pour :=
  mMet (T := TX10_pour) (S := SX10_pour) hst hT cutX10_pour (by decide) okX10_pour ⟨_, _, rfl, rfl⟩ trivial (fun t bs h => by rcases cutsX10_pour h with ⟨-, rfl⟩ <;> rfl) (fun a => match a with
    | 0 => ctrX10_trayAt hst hT
    | 1 => ctrX8_holdsOnly hst hT
    | _ + 2 => mCtr_no) vcX10_pour

end SPC22
