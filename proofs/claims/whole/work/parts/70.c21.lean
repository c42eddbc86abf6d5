section SPC21
theorem rf_2 {fl : Nat → Bool} {k : Nat} (h : k < 4) : RF fl 2 k = if fl (3 + k) = true then some (170 + 2 * k) else none := by
  unfold RF
  rw [if_neg (by decide), if_pos rfl]
  by_cases z : fl (3 + k) = true
  · rw [if_pos ⟨h, z⟩, if_pos z]
  · rw [if_neg (fun w => z w.2), if_neg z]
theorem trayF {fl : Nat → Bool} {k : Nat} (h : k < 4) (hf : fl (3 + k) = true) : (sk (170 + 2 * k) = 9 ∧ al fl (170 + 2 * k) = true) ∧ RF fl (170 + 2 * k) 2 = some (171 + 2 * k) ∧ (sk (171 + 2 * k) = 23 ∧ al fl (171 + 2 * k) = true) ∧ sn (171 + 2 * k) = 40 ∧ mRo0 (171 + 2 * k) = none := by
  have e : k = 0 ∨ k = 1 ∨ k = 2 ∨ k = 3 := by omega
  rcases e with rfl | rfl | rfl | rfl
  · exact ⟨⟨rfl, hf⟩, rfl, ⟨rfl, hf⟩, rfl, ro0_n (by decide)⟩
  · exact ⟨⟨rfl, hf⟩, rfl, ⟨rfl, hf⟩, rfl, ro0_n (by decide)⟩
  · exact ⟨⟨rfl, hf⟩, rfl, ⟨rfl, hf⟩, rfl, ro0_n (by decide)⟩
  · exact ⟨⟨rfl, hf⟩, rfl, ⟨rfl, hf⟩, rfl, ro0_n (by decide)⟩
def spX10_trayAt : mSp := shRI (fun fl i k I Q => i = some 0 ∧ mrg k ∧ (¬ trayP k → Q (.inr (mEx 0)) I) ∧ (trayP k → Q (.inl (some (mR (if fl (3 + k.toNat) = true then some (170 + 2 * k.toNat) else none)))) I))
def SX10_trayAt : Nat → mSp := fun a => match a with
  | _ => fun _ _ _ _ => False
set_option maxRecDepth 100000 in
set_option maxHeartbeats 1000000 in
theorem vcX10_trayAt (fl : Nat → Bool) (avs : List mV) (I : mM) (Q : mO → mM → Prop) (hsp : spX10_trayAt fl avs I Q) : mVC0 SX10_trayAt fl Q kX10_trayAt 2 avs I := by
  obtain ⟨i, k, rfl, h0⟩ := shRI_inv hsp
  refine ⟨rfl, ?_⟩
  show mWp _ _ _ _ _ _ kX10_trayAt_0 [some (mR i), some (mI k)] [] I
  obtain ⟨rfl, hk, h1, h2⟩ := h0
  by_cases z : trayP k
  · have h2 := h2 z
    rw [← rf_2 (show k.toNat < 4 by omega)] at h2
    clear h1
    simp only [false_and, and_false, true_or, or_true, false_or, or_false, true_and, and_true, true_implies, false_implies, implies_true, not_true_eq_false, not_false_eq_true, and_self, List.length_cons, List.length_nil, mNoCut_, mCat_n, mCat_I, mCat_L, mCat_R, mIsL_n, mIsL_I, mIsL_R, mIsL_L, Nat.reduceAdd, Nat.reduceSub, Nat.reduceLeDiff, Nat.reduceLT, Nat.reduceEqDiff, Nat.zero_le, Int.reduceEq, Int.reduceLT, Int.reduceLE, Int.reduceNeg, Int.reduceAdd, if_true, if_false, reduceIte, reduceCtorEq, Bool.false_eq_true, ne_eq, qCmp_0, qCmp_1, qCmp_2, qCmp_3, qCmp_4, qCmp_5, ib_0, ib_1, ib_2, lb_0, lb_1, lb_2, dv_0, dv_1, wq_ic, wq_ld_i, wq_ld_a, wq_icmp, wq_if, wq_get, mGet_0, mGet_1, mGet_2, mGet_3, wq_ald, wq_ret0, wq_ret1, wq_ret2, wq_ret3, wq_ret4, wq_thr, ldI1, mrg_4_, ldR0, fk_10_2, mrg_0_, mGo_n, sfxX10_trayAt_9, cutX10_trayAt_9, sfxX10_trayAt_20, cutX10_trayAt_20, kX10_trayAt_20, kX10_trayAt_9, kX10_trayAt_0, sk_0, al_0, rf_0_2, sk_2, al_2, sn_2, ald_n, ro0_n, al_ro, mrg, mrl, mSet_ap, ncast, Option.some.injEq]
    (try simp only [mrg, mrl] at *) <;> repeat' (first | (with_reducible assumption) | (with_reducible apply And.intro) | intro _)
    all_goals first | omega | exact h2 | skip
  · have h1 := h1 z
    clear h2
    simp only [false_and, and_false, true_or, or_true, false_or, or_false, true_and, and_true, true_implies, false_implies, implies_true, not_true_eq_false, not_false_eq_true, and_self, List.length_cons, List.length_nil, mNoCut_, mCat_n, mCat_I, mCat_L, mCat_R, mIsL_n, mIsL_I, mIsL_R, mIsL_L, Nat.reduceAdd, Nat.reduceSub, Nat.reduceLeDiff, Nat.reduceLT, Nat.reduceEqDiff, Nat.zero_le, Int.reduceEq, Int.reduceLT, Int.reduceLE, Int.reduceNeg, Int.reduceAdd, if_true, if_false, reduceIte, reduceCtorEq, Bool.false_eq_true, ne_eq, qCmp_0, qCmp_1, qCmp_2, qCmp_3, qCmp_4, qCmp_5, ib_0, ib_1, ib_2, lb_0, lb_1, lb_2, dv_0, dv_1, wq_ic, wq_ld_i, wq_ld_a, wq_icmp, wq_if, wq_get, mGet_0, mGet_1, mGet_2, mGet_3, wq_ald, wq_ret0, wq_ret1, wq_ret2, wq_ret3, wq_ret4, wq_thr, ldI1, mrg_4_, ldR0, fk_10_2, mrg_0_, mGo_n, sfxX10_trayAt_9, cutX10_trayAt_9, sfxX10_trayAt_20, cutX10_trayAt_20, kX10_trayAt_20, kX10_trayAt_9, kX10_trayAt_0, sk_0, al_0, rf_0_2, sk_2, al_2, sn_2, ald_n, ro0_n, al_ro, mrg, mrl, mSet_ap, ncast, Option.some.injEq]
    (try simp only [mrg, mrl] at *) <;> repeat' (first | (with_reducible assumption) | (with_reducible apply And.intro) | intro _)
    all_goals first | omega | exact h1 | skip
theorem ctrX10_trayAt {l : Launch} (hst : l.stackTraces = false) (hT : mTxM l) : mCtr l calX10_trayAt spX10_trayAt :=
  mMet0 (T := TX10_trayAt) (S := SX10_trayAt) hst hT (by decide) okX10_trayAt ⟨_, _, rfl, rfl⟩ (fun a => mCtr_no) vcX10_trayAt

def spX8_holdsOnly : mSp := shRII (fun fl i lo n I Q => ∃ k : Nat, i = some (170 + 2 * k) ∧ k < 4 ∧ fl (3 + k) = true ∧ (-1 ≤ lo ∧ lo ≤ 0) ∧ mrg n ∧ (0 ≤ I (170 + 2 * k) 1 ∧ I (170 + 2 * k) 1 ≤ 40) ∧ (∀ q : Int, 0 ≤ q → q < 40 → mrl (I (171 + 2 * k) q)) ∧ ((∀ p : Int, 0 ≤ p → p < n → p < I (170 + 2 * k) 1 → lo ≤ I (171 + 2 * k) p ∧ I (171 + 2 * k) p < 289) → Q (.inl (some (mI 1))) I) ∧ (¬ (∀ p : Int, 0 ≤ p → p < n → p < I (170 + 2 * k) 1 → lo ≤ I (171 + 2 * k) p ∧ I (171 + 2 * k) p < 289) → Q (.inl (some (mI 0))) I))
def SX8_holdsOnly : Nat → mSp := fun a => match a with
  | _ => fun _ _ _ _ => False
theorem cutsX8_holdsOnly {t : Nat} {bs : List Bool} (h : cutX8_holdsOnly t = some bs) : (t = 2 ∧ bs = [true, true, true, true]) := by
  unfold cutX8_holdsOnly at h
  simp only [mLk] at h
  by_cases h0 : 2 = t
  · subst h0
    simp at h
    exact ⟨rfl, h.symm⟩
  rw [if_neg h0] at h
  cases h
set_option maxRecDepth 100000 in
set_option maxHeartbeats 1000000 in
theorem vcX8_holdsOnly (fl : Nat → Bool) (avs : List mV) (I : mM) (Q : mO → mM → Prop) (hsp : spX8_holdsOnly fl avs I Q) : mVC SX8_holdsOnly fl Q kX8_holdsOnly cutX8_holdsOnly 4 avs I := by
  obtain ⟨i, lo, nn, rfl, h0⟩ := shRII_inv hsp
  obtain ⟨k, rfl, hk, hf, hlo, hn, hm0, hq, h1, h2⟩ := h0
  have F := trayF hk hf
  generalize ha : 170 + 2 * k = a at *
  generalize hd : 171 + 2 * k = d at *
  have k1 := F.1.1
  have k2 := F.1.2
  have k3 := F.2.1
  have k4 := F.2.2.1.1
  have k5 := F.2.2.1.2
  have k6 := F.2.2.2.1
  have k7 := F.2.2.2.2
  clear F
  refine ⟨rfl, (fun m pc lv st I1 => st = [] ∧ I1 = I ∧ ∃ j : Nat, lv = [some (mR (some a)), some (mI lo), some (mI nn), some (mI j)] ∧ j ≤ 40 ∧ m = 40 - j ∧ (∀ p : Int, 0 ≤ p → p < j → lo ≤ I d p ∧ I d p < 289) ∧ (j : Int) ≤ I a 1), ?_, ?_⟩
  · intro n t bs hbs lv st I1 hc
    rcases cutsX8_holdsOnly hbs with ⟨rfl, rfl⟩
    rw [sfxX8_holdsOnly_2]
    obtain ⟨rfl, rfl, j, rfl, hj, hm, hp, hj2⟩ := hc
    have g1 : ∀ _ : Unit, nn ≤ j ∨ I1 a 1 ≤ j → Q (.inl (some (mI 1))) I1 := fun _ z => h1 (fun p p0 p1 p2 => hp p p0 (by omega))
    have g2 : ∀ _ : Unit, (j : Int) < nn → (j : Int) < I1 a 1 → (I1 d j < lo ∨ 289 ≤ I1 d j) → Q (.inl (some (mI 0))) I1 := fun _ z z2 z3 => h2 (fun w => by have := w j (by omega) z z2; omega)
    have g3 : ∀ _ : Unit, lo ≤ I1 d j → I1 d j < 289 → ∀ p : Int, 0 ≤ p → p < ((j + 1 : Nat) : Int) → lo ≤ I1 d p ∧ I1 d p < 289 := fun _ z z2 p p0 p1 => (Decidable.em (p = (j : Int))).elim (fun q => by rw [q]; exact ⟨z, z2⟩) (fun q => hp p p0 (by omega))
    have hqj : ∀ _ : Unit, (j : Int) < 40 → mrl (I1 d j) := fun _ z => hq j (by omega) z
    clear h1 h2 hp
    simp only [false_and, and_false, true_or, or_true, false_or, or_false, true_and, and_true, true_implies, false_implies, implies_true, not_true_eq_false, not_false_eq_true, and_self, List.length_cons, List.length_nil, mNoCut_, mCat_n, mCat_I, mCat_L, mCat_R, mIsL_n, mIsL_I, mIsL_R, mIsL_L, Nat.reduceAdd, Nat.reduceSub, Nat.reduceLeDiff, Nat.reduceLT, Nat.reduceEqDiff, Nat.zero_le, Int.reduceEq, Int.reduceLT, Int.reduceLE, Int.reduceNeg, Int.reduceAdd, if_true, if_false, reduceIte, reduceCtorEq, Bool.false_eq_true, ne_eq, qCmp_0, qCmp_1, qCmp_2, qCmp_3, qCmp_4, qCmp_5, ib_0, ib_1, ib_2, lb_0, lb_1, lb_2, dv_0, dv_1, wq_ic, wq_lc, wq_ld_i, wq_ld_a, wq_st_i, wq_iinc, wq_i2l, wq_icmp, wq_lcmp, wq_goto, wq_get, mGet_0, mGet_1, mGet_2, mGet_3, wq_ald, wq_ret0, wq_ret1, wq_ret2, wq_ret3, wq_ret4, mrg_0_, stI3, ldI3, ldI2, ldR0, fk_8_1, fk_8_2, ldI1, wqinc3, mrg_1_, mPut_s, mPut_I0, mPut_R0, mPut_L0, mPut_I1, mPut_R1, mPut_L1, mGo_n, sfxX8_holdsOnly_2, cutX8_holdsOnly_2, sfxX8_holdsOnly_40, cutX8_holdsOnly_40, sfxX8_holdsOnly_42, cutX8_holdsOnly_42, sfxX8_holdsOnly_48, cutX8_holdsOnly_48, wq_cut, mGo_c, mMask_t, mMask_f, mMask_n, kX8_holdsOnly_48, kX8_holdsOnly_42, kX8_holdsOnly_40, kX8_holdsOnly_2, kX8_holdsOnly_0, ald_n, ro0_n, al_ro, mrg, mrl, mSet_ap, ncast, Option.some.injEq, k1, k2, k3, k4, k5, k6, k7]
    (try simp only [mrg, mrl] at *) <;> repeat' (first | (with_reducible assumption) | (with_reducible apply And.intro) | intro _)
    all_goals first | omega | exact g1 () (by omega) | exact g2 () (by omega) (by omega) (by omega) | exact (hqj () (by omega)).1 | exact (hqj () (by omega)).2 | exact ⟨40 - (j + 1), by omega, j + 1, rfl, by omega, rfl, g3 () (by omega) (by omega), by omega⟩ | skip
  · show mWp _ _ _ _ _ _ kX8_holdsOnly_0 [some (mR (some a)), some (mI lo), some (mI nn), none] [] I
    simp only [false_and, and_false, true_or, or_true, false_or, or_false, true_and, and_true, true_implies, false_implies, implies_true, not_true_eq_false, not_false_eq_true, and_self, List.length_cons, List.length_nil, mNoCut_, mCat_n, mCat_I, mCat_L, mCat_R, mIsL_n, mIsL_I, mIsL_R, mIsL_L, Nat.reduceAdd, Nat.reduceSub, Nat.reduceLeDiff, Nat.reduceLT, Nat.reduceEqDiff, Nat.zero_le, Int.reduceEq, Int.reduceLT, Int.reduceLE, Int.reduceNeg, Int.reduceAdd, if_true, if_false, reduceIte, reduceCtorEq, Bool.false_eq_true, ne_eq, qCmp_0, qCmp_1, qCmp_2, qCmp_3, qCmp_4, qCmp_5, ib_0, ib_1, ib_2, lb_0, lb_1, lb_2, dv_0, dv_1, wq_ic, wq_lc, wq_ld_i, wq_ld_a, wq_st_i, wq_iinc, wq_i2l, wq_icmp, wq_lcmp, wq_goto, wq_get, mGet_0, mGet_1, mGet_2, mGet_3, wq_ald, wq_ret0, wq_ret1, wq_ret2, wq_ret3, wq_ret4, mrg_0_, stI3, ldI3, ldI2, ldR0, fk_8_1, fk_8_2, ldI1, wqinc3, mrg_1_, mPut_s, mPut_I0, mPut_R0, mPut_L0, mPut_I1, mPut_R1, mPut_L1, mGo_n, sfxX8_holdsOnly_2, cutX8_holdsOnly_2, sfxX8_holdsOnly_40, cutX8_holdsOnly_40, sfxX8_holdsOnly_42, cutX8_holdsOnly_42, sfxX8_holdsOnly_48, cutX8_holdsOnly_48, wq_cut, mGo_c, mMask_t, mMask_f, mMask_n, kX8_holdsOnly_48, kX8_holdsOnly_42, kX8_holdsOnly_40, kX8_holdsOnly_2, kX8_holdsOnly_0, ald_n, ro0_n, al_ro, mrg, mrl, mSet_ap, ncast, Option.some.injEq]
    exact ⟨40, 0, rfl, by omega, rfl, fun p p0 p1 => by omega, by omega⟩
theorem ctrX8_holdsOnly {l : Launch} (hst : l.stackTraces = false) (hT : mTxM l) : mCtr l calX8_holdsOnly spX8_holdsOnly :=
  mMet (T := TX8_holdsOnly) (S := SX8_holdsOnly) hst hT cutX8_holdsOnly (by decide) okX8_holdsOnly ⟨_, _, rfl, rfl⟩ trivial (fun t bs h => by rcases cutsX8_holdsOnly h with ⟨-, rfl⟩ <;> rfl) (fun a => mCtr_no) vcX8_holdsOnly

def spX8_empty : mSp := shRII (fun fl i s n I Q => ∃ k : Nat, i = some (170 + 2 * k) ∧ k < 4 ∧ fl (3 + k) = true ∧ Q (.inl none) (copyM (mSet (mSet I (170 + 2 * k) 0 s) (170 + 2 * k) 1 n) (171 + 2 * k) 0 (fun _ => 0) 40))
def SX8_empty : Nat → mSp := fun a => match a with
  | 0 => spJ7_fill_d0a16
  | _ => fun _ _ _ _ => False
theorem SX8_empty_0 : SX8_empty 0 = spJ7_fill_d0a16 := Eq.trans rfl rfl
set_option maxRecDepth 100000 in
set_option maxHeartbeats 1000000 in
theorem vcX8_empty (fl : Nat → Bool) (avs : List mV) (I : mM) (Q : mO → mM → Prop) (hsp : spX8_empty fl avs I Q) : mVC0 SX8_empty fl Q kX8_empty 3 avs I := by
  obtain ⟨i, s, n, rfl, h0⟩ := shRII_inv hsp
  obtain ⟨k, rfl, hk, hf, h⟩ := h0
  have F := trayF hk hf
  generalize ha : 170 + 2 * k = a at *
  generalize hd : 171 + 2 * k = d at *
  have k1 := F.1.1
  have k2 := F.1.2
  have k3 := F.2.1
  have k4 := F.2.2.1.1
  have k5 := F.2.2.1.2
  have k6 := F.2.2.2.1
  have k7 := F.2.2.2.2
  clear F
  refine ⟨rfl, ?_⟩
  show mWp _ _ _ _ _ _ kX8_empty_0 [some (mR (some a)), some (mI s), some (mI n)] [] I
  simp only [false_and, and_false, true_or, or_true, false_or, or_false, true_and, and_true, true_implies, false_implies, implies_true, not_true_eq_false, not_false_eq_true, and_self, List.length_cons, List.length_nil, mNoCut_, mCat_n, mCat_I, mCat_L, mCat_R, mIsL_n, mIsL_I, mIsL_R, mIsL_L, Nat.reduceAdd, Nat.reduceSub, Nat.reduceLeDiff, Nat.reduceLT, Nat.reduceEqDiff, Nat.zero_le, Int.reduceEq, Int.reduceLT, Int.reduceLE, Int.reduceNeg, Int.reduceAdd, if_true, if_false, reduceIte, reduceCtorEq, Bool.false_eq_true, ne_eq, qCmp_0, qCmp_1, qCmp_2, qCmp_3, qCmp_4, qCmp_5, ib_0, ib_1, ib_2, lb_0, lb_1, lb_2, dv_0, dv_1, wq_lc, wq_ld_i, wq_ld_a, wq_get, mGet_0, mGet_1, mGet_2, mGet_3, wq_putI, wq_putL, wq_ret0, wq_ret1, wq_ret2, wq_ret3, wq_ret4, ldR0, ldI1, fk_8_0, ldI2, fk_8_1, fk_8_2, wq_callS2_1, kX8_empty_0, SX8_empty_0, shqRL_, spJ7_fill_d0a16, mrg, mrl, mSet_ap, ncast, Option.some.injEq, k1, k2, k3, k4, k5, k6, k7, Option.getD_some]
  (try simp only [mrg, mrl] at *) <;> repeat' (first | (with_reducible assumption) | (with_reducible apply And.intro) | intro _)
  all_goals first | omega | exact h | skip
theorem ctrX8_empty {l : Launch} (hst : l.stackTraces = false) (hT : mTxM l) : mCtr l calX8_empty spX8_empty :=
  mMet0 (T := TX8_empty) (S := SX8_empty) hst hT (by decide) okX8_empty ⟨_, _, rfl, rfl⟩ (fun a => match a with
    | 0 => ctrJ7_fill_d0a16 hst hT
    | _ + 1 => mCtr_no) vcX8_empty

end SPC21
