section SPM1
def spX11_within : mSp := shLLL (fun _ v lo hi I Q => (lo ≤ v ∧ v ≤ hi → Q (.inl (some (mI 1))) I) ∧ (¬ (lo ≤ v ∧ v ≤ hi) → Q (.inl (some (mI 0))) I) ∧ mrl v ∧ mrl lo ∧ mrl hi)
def SX11_within : Nat → mSp := fun a => match a with
  | _ => fun _ _ _ _ => False
set_option maxRecDepth 100000 in
set_option maxHeartbeats 4000000 in
theorem vcX11_within (fl : Nat → Bool) (avs : List mV) (I : mM) (Q : mO → mM → Prop) (hsp : spX11_within fl avs I Q) : mVC0 SX11_within fl Q kX11_within 6 avs I := by
  obtain ⟨v, lo, hi, rfl, h0⟩ := shLLL_inv hsp
  refine ⟨rfl, ?_⟩
  show mWp _ _ _ _ _ _ kX11_within_0 [some (mL v), none, some (mL lo), none, some (mL hi), none] [] I
  obtain ⟨h1, h2, h3, h4, h5⟩ := h0
  simp only [true_or, or_true, false_or, or_false, true_and, and_true, true_implies, false_implies, implies_true, not_true_eq_false, not_false_eq_true, and_self, List.length_cons, List.length_nil, mNoCut_, mCat_n, mCat_I, mCat_L, mCat_R, mIsL_n, mIsL_I, mIsL_R, mIsL_L, Nat.reduceAdd, Nat.reduceSub, Nat.reduceLeDiff, Nat.reduceLT, Nat.reduceEqDiff, Nat.zero_le, Int.reduceEq, Int.reduceLT, Int.reduceLE, Int.reduceNeg, Int.reduceAdd, if_true, if_false, reduceIte, reduceCtorEq, Bool.false_eq_true, ne_eq, qCmp_0, qCmp_1, qCmp_2, qCmp_3, qCmp_4, qCmp_5, ib_0, ib_1, ib_2, lb_0, lb_1, lb_2, dv_0, dv_1, wq_ic, wq_ld_l, wq_lcmp, wq_goto, wq_ret0, wq_ret1, wq_ret2, wq_ret3, wq_ret4, ldL0, ldL2, ldL4, mrg_1_, mrg_0_, mGo_n, sfxX11_within_17, cutX11_within_17, sfxX11_within_18, cutX11_within_18, kX11_within_18, kX11_within_17, kX11_within_0, mrg, mrl, mSet_ap, ncast, Option.some.injEq]
  (try simp only [mrg, mrl] at *) <;> repeat' (first | assumption | (with_reducible apply And.intro) | intro _)
  all_goals first | exact h1 (by omega) | exact h2 (by omega) | omega
theorem ctrX11_within {l : Launch} (hst : l.stackTraces = false) (hT : mTxM l) : mCtr l calX11_within spX11_within :=
  mMet0 (T := TX11_within) (S := SX11_within) hst hT (by decide) okX11_within ⟨_, _, rfl, rfl⟩ (fun a => mCtr_no) vcX11_within

def spX11_isCell : mSp := shL (fun _ v I Q => (0 ≤ v ∧ v ≤ 288 → Q (.inl (some (mI 1))) I) ∧ (¬ (0 ≤ v ∧ v ≤ 288) → Q (.inl (some (mI 0))) I) ∧ mrl v)
def SX11_isCell : Nat → mSp := fun a => match a with
  | 0 => spX11_within
  | _ => fun _ _ _ _ => False
theorem SX11_isCell_0 : SX11_isCell 0 = spX11_within := Eq.trans rfl rfl
set_option maxRecDepth 100000 in
set_option maxHeartbeats 4000000 in
theorem vcX11_isCell (fl : Nat → Bool) (avs : List mV) (I : mM) (Q : mO → mM → Prop) (hsp : spX11_isCell fl avs I Q) : mVC0 SX11_isCell fl Q kX11_isCell 2 avs I := by
  obtain ⟨v, rfl, h0⟩ := shL_inv hsp
  refine ⟨rfl, ?_⟩
  show mWp _ _ _ _ _ _ kX11_isCell_0 [some (mL v), none] [] I
  obtain ⟨h1, h2, h3⟩ := h0
  simp only [true_or, or_true, false_or, or_false, true_and, and_true, true_implies, false_implies, implies_true, not_true_eq_false, not_false_eq_true, and_self, List.length_cons, List.length_nil, mNoCut_, mCat_n, mCat_I, mCat_L, mCat_R, mIsL_n, mIsL_I, mIsL_R, mIsL_L, Nat.reduceAdd, Nat.reduceSub, Nat.reduceLeDiff, Nat.reduceLT, Nat.reduceEqDiff, Nat.zero_le, Int.reduceEq, Int.reduceLT, Int.reduceLE, Int.reduceNeg, Int.reduceAdd, if_true, if_false, reduceIte, reduceCtorEq, Bool.false_eq_true, ne_eq, qCmp_0, qCmp_1, qCmp_2, qCmp_3, qCmp_4, qCmp_5, ib_0, ib_1, ib_2, lb_0, lb_1, lb_2, dv_0, dv_1, wq_lc, wq_ld_l, wq_ret0, wq_ret1, wq_ret2, wq_ret3, wq_ret4, ldL0, wq_callS3_1, kX11_isCell_0, SX11_isCell_0, shqLLL_, spX11_within, mrg, mrl, mSet_ap, ncast, Option.some.injEq]
  (try simp only [mrg, mrl] at *) <;> repeat' (first | assumption | (with_reducible apply And.intro) | intro _)
  all_goals first | exact h1 (by omega) | exact h2 (by omega) | omega
theorem ctrX11_isCell {l : Launch} (hst : l.stackTraces = false) (hT : mTxM l) : mCtr l calX11_isCell spX11_isCell :=
  mMet0 (T := TX11_isCell) (S := SX11_isCell) hst hT (by decide) okX11_isCell ⟨_, _, rfl, rfl⟩ (fun a => match a with
    | 0 => ctrX11_within hst hT
    | _ + 1 => mCtr_no) vcX11_isCell

def spX11_thrown : mSp := shR (fun _ i I Q => i = some 200 ∧ Q (.inl (some (mI (I 200 3)))) I)
def SX11_thrown : Nat → mSp := fun a => match a with
  | _ => fun _ _ _ _ => False
set_option maxRecDepth 100000 in
set_option maxHeartbeats 4000000 in
theorem vcX11_thrown (fl : Nat → Bool) (avs : List mV) (I : mM) (Q : mO → mM → Prop) (hsp : spX11_thrown fl avs I Q) : mVC0 SX11_thrown fl Q kX11_thrown 1 avs I := by
  obtain ⟨i, rfl, h0⟩ := shR_inv hsp
  refine ⟨rfl, ?_⟩
  show mWp _ _ _ _ _ _ kX11_thrown_0 [some (mR i)] [] I
  obtain ⟨rfl, h⟩ := h0
  simp only [true_or, or_true, false_or, or_false, true_and, and_true, true_implies, false_implies, implies_true, not_true_eq_false, not_false_eq_true, and_self, List.length_cons, List.length_nil, mNoCut_, mCat_n, mCat_I, mCat_L, mCat_R, mIsL_n, mIsL_I, mIsL_R, mIsL_L, Nat.reduceAdd, Nat.reduceSub, Nat.reduceLeDiff, Nat.reduceLT, Nat.reduceEqDiff, Nat.zero_le, Int.reduceEq, Int.reduceLT, Int.reduceLE, Int.reduceNeg, Int.reduceAdd, if_true, if_false, reduceIte, reduceCtorEq, Bool.false_eq_true, ne_eq, qCmp_0, qCmp_1, qCmp_2, qCmp_3, qCmp_4, qCmp_5, ib_0, ib_1, ib_2, lb_0, lb_1, lb_2, dv_0, dv_1, wq_ld_a, wq_get, mGet_0, mGet_1, mGet_2, mGet_3, wq_ret0, wq_ret1, wq_ret2, wq_ret3, wq_ret4, ldR0, fk_11_3, kX11_thrown_0, sk_200, al_200, mrg, mrl, mSet_ap, ncast, Option.some.injEq]
  exact h
theorem ctrX11_thrown {l : Launch} (hst : l.stackTraces = false) (hT : mTxM l) : mCtr l calX11_thrown spX11_thrown :=
  mMet0 (T := TX11_thrown) (S := SX11_thrown) hst hT (by decide) okX11_thrown ⟨_, _, rfl, rfl⟩ (fun a => mCtr_no) vcX11_thrown

def spX11_fails : mSp := shRI (fun _ i k I Q => i = some 200 ∧ Q (.inl (some (mI 0))) (mSet I 200 3 k))
def SX11_fails : Nat → mSp := fun a => match a with
  | _ => fun _ _ _ _ => False
set_option maxRecDepth 100000 in
set_option maxHeartbeats 4000000 in
theorem vcX11_fails (fl : Nat → Bool) (avs : List mV) (I : mM) (Q : mO → mM → Prop) (hsp : spX11_fails fl avs I Q) : mVC0 SX11_fails fl Q kX11_fails 2 avs I := by
  obtain ⟨i, k, rfl, h0⟩ := shRI_inv hsp
  refine ⟨rfl, ?_⟩
  show mWp _ _ _ _ _ _ kX11_fails_0 [some (mR i), some (mI k)] [] I
  obtain ⟨rfl, h⟩ := h0
  simp only [true_or, or_true, false_or, or_false, true_and, and_true, true_implies, false_implies, implies_true, not_true_eq_false, not_false_eq_true, and_self, List.length_cons, List.length_nil, mNoCut_, mCat_n, mCat_I, mCat_L, mCat_R, mIsL_n, mIsL_I, mIsL_R, mIsL_L, Nat.reduceAdd, Nat.reduceSub, Nat.reduceLeDiff, Nat.reduceLT, Nat.reduceEqDiff, Nat.zero_le, Int.reduceEq, Int.reduceLT, Int.reduceLE, Int.reduceNeg, Int.reduceAdd, if_true, if_false, reduceIte, reduceCtorEq, Bool.false_eq_true, ne_eq, qCmp_0, qCmp_1, qCmp_2, qCmp_3, qCmp_4, qCmp_5, ib_0, ib_1, ib_2, lb_0, lb_1, lb_2, dv_0, dv_1, wq_ic, wq_ld_i, wq_ld_a, wq_putI, wq_putL, wq_ret0, wq_ret1, wq_ret2, wq_ret3, wq_ret4, ldR0, ldI1, fk_11_3, mrg_0_, kX11_fails_0, sk_200, al_200, mrg, mrl, mSet_ap, ncast, Option.some.injEq]
  exact h
theorem ctrX11_fails {l : Launch} (hst : l.stackTraces = false) (hT : mTxM l) : mCtr l calX11_fails spX11_fails :=
  mMet0 (T := TX11_fails) (S := SX11_fails) hst hT (by decide) okX11_fails ⟨_, _, rfl, rfl⟩ (fun a => mCtr_no) vcX11_fails

def spX11_isBall : mSp := shI (fun _ v I Q => (0 ≤ v ∧ v ≤ 5 → Q (.inl (some (mI 1))) I) ∧ (¬ (0 ≤ v ∧ v ≤ 5) → Q (.inl (some (mI 0))) I) ∧ mrg v)
def SX11_isBall : Nat → mSp := fun a => match a with
  | 0 => spX11_within
  | _ => fun _ _ _ _ => False
theorem SX11_isBall_0 : SX11_isBall 0 = spX11_within := Eq.trans rfl rfl
set_option maxRecDepth 100000 in
set_option maxHeartbeats 4000000 in
theorem vcX11_isBall (fl : Nat → Bool) (avs : List mV) (I : mM) (Q : mO → mM → Prop) (hsp : spX11_isBall fl avs I Q) : mVC0 SX11_isBall fl Q kX11_isBall 1 avs I := by
  obtain ⟨v, rfl, h0⟩ := shI_inv hsp
  refine ⟨rfl, ?_⟩
  show mWp _ _ _ _ _ _ kX11_isBall_0 [some (mI v)] [] I
  obtain ⟨h1, h2, h3⟩ := h0
  simp only [true_or, or_true, false_or, or_false, true_and, and_true, true_implies, false_implies, implies_true, not_true_eq_false, not_false_eq_true, and_self, List.length_cons, List.length_nil, mNoCut_, mCat_n, mCat_I, mCat_L, mCat_R, mIsL_n, mIsL_I, mIsL_R, mIsL_L, Nat.reduceAdd, Nat.reduceSub, Nat.reduceLeDiff, Nat.reduceLT, Nat.reduceEqDiff, Nat.zero_le, Int.reduceEq, Int.reduceLT, Int.reduceLE, Int.reduceNeg, Int.reduceAdd, if_true, if_false, reduceIte, reduceCtorEq, Bool.false_eq_true, ne_eq, qCmp_0, qCmp_1, qCmp_2, qCmp_3, qCmp_4, qCmp_5, ib_0, ib_1, ib_2, lb_0, lb_1, lb_2, dv_0, dv_1, wq_lc, wq_ld_i, wq_i2l, wq_ret0, wq_ret1, wq_ret2, wq_ret3, wq_ret4, ldI0, wq_callS3_1, kX11_isBall_0, SX11_isBall_0, shqLLL_, spX11_within, mrg, mrl, mSet_ap, ncast, Option.some.injEq]
  (try simp only [mrg, mrl] at *) <;> repeat' (first | assumption | (with_reducible apply And.intro) | intro _)
  all_goals first | exact h1 (by omega) | exact h2 (by omega) | omega
theorem ctrX11_isBall {l : Launch} (hst : l.stackTraces = false) (hT : mTxM l) : mCtr l calX11_isBall spX11_isBall :=
  mMet0 (T := TX11_isBall) (S := SX11_isBall) hst hT (by decide) okX11_isBall ⟨_, _, rfl, rfl⟩ (fun a => match a with
    | 0 => ctrX11_within hst hT
    | _ + 1 => mCtr_no) vcX11_isBall

def spX11_isFielder : mSp := shI (fun _ v I Q => (0 ≤ v ∧ v ≤ 8 → Q (.inl (some (mI 1))) I) ∧ (¬ (0 ≤ v ∧ v ≤ 8) → Q (.inl (some (mI 0))) I) ∧ mrg v)
def SX11_isFielder : Nat → mSp := fun a => match a with
  | 0 => spX11_within
  | _ => fun _ _ _ _ => False
theorem SX11_isFielder_0 : SX11_isFielder 0 = spX11_within := Eq.trans rfl rfl
set_option maxRecDepth 100000 in
set_option maxHeartbeats 4000000 in
theorem vcX11_isFielder (fl : Nat → Bool) (avs : List mV) (I : mM) (Q : mO → mM → Prop) (hsp : spX11_isFielder fl avs I Q) : mVC0 SX11_isFielder fl Q kX11_isFielder 1 avs I := by
  obtain ⟨v, rfl, h0⟩ := shI_inv hsp
  refine ⟨rfl, ?_⟩
  show mWp _ _ _ _ _ _ kX11_isFielder_0 [some (mI v)] [] I
  obtain ⟨h1, h2, h3⟩ := h0
  simp only [true_or, or_true, false_or, or_false, true_and, and_true, true_implies, false_implies, implies_true, not_true_eq_false, not_false_eq_true, and_self, List.length_cons, List.length_nil, mNoCut_, mCat_n, mCat_I, mCat_L, mCat_R, mIsL_n, mIsL_I, mIsL_R, mIsL_L, Nat.reduceAdd, Nat.reduceSub, Nat.reduceLeDiff, Nat.reduceLT, Nat.reduceEqDiff, Nat.zero_le, Int.reduceEq, Int.reduceLT, Int.reduceLE, Int.reduceNeg, Int.reduceAdd, if_true, if_false, reduceIte, reduceCtorEq, Bool.false_eq_true, ne_eq, qCmp_0, qCmp_1, qCmp_2, qCmp_3, qCmp_4, qCmp_5, ib_0, ib_1, ib_2, lb_0, lb_1, lb_2, dv_0, dv_1, wq_lc, wq_ld_i, wq_i2l, wq_ret0, wq_ret1, wq_ret2, wq_ret3, wq_ret4, ldI0, wq_callS3_1, kX11_isFielder_0, SX11_isFielder_0, shqLLL_, spX11_within, mrg, mrl, mSet_ap, ncast, Option.some.injEq]
  (try simp only [mrg, mrl] at *) <;> repeat' (first | assumption | (with_reducible apply And.intro) | intro _)
  all_goals first | exact h1 (by omega) | exact h2 (by omega) | omega
theorem ctrX11_isFielder {l : Launch} (hst : l.stackTraces = false) (hT : mTxM l) : mCtr l calX11_isFielder spX11_isFielder :=
  mMet0 (T := TX11_isFielder) (S := SX11_isFielder) hst hT (by decide) okX11_isFielder ⟨_, _, rfl, rfl⟩ (fun a => match a with
    | 0 => ctrX11_within hst hT
    | _ + 1 => mCtr_no) vcX11_isFielder

def spX11_isWay : mSp := shI (fun _ v I Q => (0 ≤ v ∧ v ≤ 3 → Q (.inl (some (mI 1))) I) ∧ (¬ (0 ≤ v ∧ v ≤ 3) → Q (.inl (some (mI 0))) I) ∧ mrg v)
def SX11_isWay : Nat → mSp := fun a => match a with
  | 0 => spX11_within
  | _ => fun _ _ _ _ => False
theorem SX11_isWay_0 : SX11_isWay 0 = spX11_within := Eq.trans rfl rfl
set_option maxRecDepth 100000 in
set_option maxHeartbeats 4000000 in
theorem vcX11_isWay (fl : Nat → Bool) (avs : List mV) (I : mM) (Q : mO → mM → Prop) (hsp : spX11_isWay fl avs I Q) : mVC0 SX11_isWay fl Q kX11_isWay 1 avs I := by
  obtain ⟨v, rfl, h0⟩ := shI_inv hsp
  refine ⟨rfl, ?_⟩
  show mWp _ _ _ _ _ _ kX11_isWay_0 [some (mI v)] [] I
  obtain ⟨h1, h2, h3⟩ := h0
  simp only [true_or, or_true, false_or, or_false, true_and, and_true, true_implies, false_implies, implies_true, not_true_eq_false, not_false_eq_true, and_self, List.length_cons, List.length_nil, mNoCut_, mCat_n, mCat_I, mCat_L, mCat_R, mIsL_n, mIsL_I, mIsL_R, mIsL_L, Nat.reduceAdd, Nat.reduceSub, Nat.reduceLeDiff, Nat.reduceLT, Nat.reduceEqDiff, Nat.zero_le, Int.reduceEq, Int.reduceLT, Int.reduceLE, Int.reduceNeg, Int.reduceAdd, if_true, if_false, reduceIte, reduceCtorEq, Bool.false_eq_true, ne_eq, qCmp_0, qCmp_1, qCmp_2, qCmp_3, qCmp_4, qCmp_5, ib_0, ib_1, ib_2, lb_0, lb_1, lb_2, dv_0, dv_1, wq_lc, wq_ld_i, wq_i2l, wq_ret0, wq_ret1, wq_ret2, wq_ret3, wq_ret4, ldI0, wq_callS3_1, kX11_isWay_0, SX11_isWay_0, shqLLL_, spX11_within, mrg, mrl, mSet_ap, ncast, Option.some.injEq]
  (try simp only [mrg, mrl] at *) <;> repeat' (first | assumption | (with_reducible apply And.intro) | intro _)
  all_goals first | exact h1 (by omega) | exact h2 (by omega) | omega
theorem ctrX11_isWay {l : Launch} (hst : l.stackTraces = false) (hT : mTxM l) : mCtr l calX11_isWay spX11_isWay :=
  mMet0 (T := TX11_isWay) (S := SX11_isWay) hst hT (by decide) okX11_isWay ⟨_, _, rfl, rfl⟩ (fun a => match a with
    | 0 => ctrX11_within hst hT
    | _ + 1 => mCtr_no) vcX11_isWay

def spX11_isTray : mSp := shI (fun _ v I Q => (0 ≤ v ∧ v ≤ 3 → Q (.inl (some (mI 1))) I) ∧ (¬ (0 ≤ v ∧ v ≤ 3) → Q (.inl (some (mI 0))) I) ∧ mrg v)
def SX11_isTray : Nat → mSp := fun a => match a with
  | 0 => spX11_within
  | _ => fun _ _ _ _ => False
theorem SX11_isTray_0 : SX11_isTray 0 = spX11_within := Eq.trans rfl rfl
set_option maxRecDepth 100000 in
set_option maxHeartbeats 4000000 in
theorem vcX11_isTray (fl : Nat → Bool) (avs : List mV) (I : mM) (Q : mO → mM → Prop) (hsp : spX11_isTray fl avs I Q) : mVC0 SX11_isTray fl Q kX11_isTray 1 avs I := by
  obtain ⟨v, rfl, h0⟩ := shI_inv hsp
  refine ⟨rfl, ?_⟩
  show mWp _ _ _ _ _ _ kX11_isTray_0 [some (mI v)] [] I
  obtain ⟨h1, h2, h3⟩ := h0
  simp only [true_or, or_true, false_or, or_false, true_and, and_true, true_implies, false_implies, implies_true, not_true_eq_false, not_false_eq_true, and_self, List.length_cons, List.length_nil, mNoCut_, mCat_n, mCat_I, mCat_L, mCat_R, mIsL_n, mIsL_I, mIsL_R, mIsL_L, Nat.reduceAdd, Nat.reduceSub, Nat.reduceLeDiff, Nat.reduceLT, Nat.reduceEqDiff, Nat.zero_le, Int.reduceEq, Int.reduceLT, Int.reduceLE, Int.reduceNeg, Int.reduceAdd, if_true, if_false, reduceIte, reduceCtorEq, Bool.false_eq_true, ne_eq, qCmp_0, qCmp_1, qCmp_2, qCmp_3, qCmp_4, qCmp_5, ib_0, ib_1, ib_2, lb_0, lb_1, lb_2, dv_0, dv_1, wq_lc, wq_ld_i, wq_i2l, wq_ret0, wq_ret1, wq_ret2, wq_ret3, wq_ret4, ldI0, wq_callS3_1, kX11_isTray_0, SX11_isTray_0, shqLLL_, spX11_within, mrg, mrl, mSet_ap, ncast, Option.some.injEq]
  (try simp only [mrg, mrl] at *) <;> repeat' (first | assumption | (with_reducible apply And.intro) | intro _)
  all_goals first | exact h1 (by omega) | exact h2 (by omega) | omega
theorem ctrX11_isTray {l : Launch} (hst : l.stackTraces = false) (hT : mTxM l) : mCtr l calX11_isTray spX11_isTray :=
  mMet0 (T := TX11_isTray) (S := SX11_isTray) hst hT (by decide) okX11_isTray ⟨_, _, rfl, rfl⟩ (fun a => match a with
    | 0 => ctrX11_within hst hT
    | _ + 1 => mCtr_no) vcX11_isTray

def spX11_raw : mSp := shRIII (fun _ i b h w I Q => i = some 200 ∧ (0 ≤ b ∧ b < 6) ∧ (0 ≤ h ∧ h < 8) ∧ (0 ≤ w ∧ w < 5) ∧ Q (.inl (some (mI (rawT (I 201) b h w)))) I)
def SX11_raw : Nat → mSp := fun a => match a with
  | _ => fun _ _ _ _ => False
set_option maxRecDepth 100000 in
set_option maxHeartbeats 4000000 in
theorem vcX11_raw (fl : Nat → Bool) (avs : List mV) (I : mM) (Q : mO → mM → Prop) (hsp : spX11_raw fl avs I Q) : mVC0 SX11_raw fl Q kX11_raw 4 avs I := by
  obtain ⟨i, b, hh, w, rfl, h0⟩ := shRIII_inv hsp
  refine ⟨rfl, ?_⟩
  show mWp _ _ _ _ _ _ kX11_raw_0 [some (mR i), some (mI b), some (mI hh), some (mI w)] [] I
  obtain ⟨rfl, hb, hh1, hw, h⟩ := h0
  simp only [true_or, or_true, false_or, or_false, true_and, and_true, true_implies, false_implies, implies_true, not_true_eq_false, not_false_eq_true, and_self, List.length_cons, List.length_nil, mNoCut_, mCat_n, mCat_I, mCat_L, mCat_R, mIsL_n, mIsL_I, mIsL_R, mIsL_L, Nat.reduceAdd, Nat.reduceSub, Nat.reduceLeDiff, Nat.reduceLT, Nat.reduceEqDiff, Nat.zero_le, Int.reduceEq, Int.reduceLT, Int.reduceLE, Int.reduceNeg, Int.reduceAdd, if_true, if_false, reduceIte, reduceCtorEq, Bool.false_eq_true, ne_eq, qCmp_0, qCmp_1, qCmp_2, qCmp_3, qCmp_4, qCmp_5, ib_0, ib_1, ib_2, lb_0, lb_1, lb_2, dv_0, dv_1, wq_ic, wq_ld_i, wq_ld_a, wq_ib, wq_get, mGet_0, mGet_1, mGet_2, mGet_3, wq_ald, wq_ret0, wq_ret1, wq_ret2, wq_ret3, wq_ret4, ldR0, fk_11_0, mrg_310_, mrg_5_, mrg_8_, ldI1, ldI2, ldI3, kX11_raw_0, sk_200, al_200, rf_200_0, sk_201, al_201, sn_201, ald_n, ro0_n, al_ro, mrg, mrl, mSet_ap, ncast, Option.some.injEq]
  refine ⟨by omega, ?_⟩
  exact q_I (by unfold rawT; congr 1) h
theorem ctrX11_raw {l : Launch} (hst : l.stackTraces = false) (hT : mTxM l) : mCtr l calX11_raw spX11_raw :=
  mMet0 (T := TX11_raw) (S := SX11_raw) hst hT (by decide) okX11_raw ⟨_, _, rfl, rfl⟩ (fun a => mCtr_no) vcX11_raw

end SPM1
