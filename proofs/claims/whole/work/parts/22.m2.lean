section SPM2
def spX11_wayOf : mSp := shRII (fun _ i b h I Q => i = some 200 ∧ WFt (I 201) ∧ (0 ≤ b ∧ b < 6) ∧ (0 ≤ h ∧ h < 8) ∧ Q (.inl (some (mI (wayT (I 201) b h)))) I)
def SX11_wayOf : Nat → mSp := fun a => match a with
  | 0 => spX11_raw
  | _ => fun _ _ _ _ => False
theorem SX11_wayOf_0 : SX11_wayOf 0 = spX11_raw := Eq.trans rfl rfl
set_option maxRecDepth 100000 in
set_option maxHeartbeats 4000000 in
theorem vcX11_wayOf (fl : Nat → Bool) (avs : List mV) (I : mM) (Q : mO → mM → Prop) (hsp : spX11_wayOf fl avs I Q) : mVC0 SX11_wayOf fl Q kX11_wayOf 3 avs I := by
  obtain ⟨i, b, hh, rfl, h0⟩ := shRII_inv hsp
  refine ⟨rfl, ?_⟩
  show mWp _ _ _ _ _ _ kX11_wayOf_0 [some (mR i), some (mI b), some (mI hh)] [] I
  obtain ⟨rfl, H, hb, hh1, h⟩ := h0
  have hr := (H.raw hb hh1).1
  have h6 := H.1.2.2.2.2.2.2.1
  simp only [true_or, or_true, false_or, or_false, true_and, and_true, true_implies, false_implies, implies_true, not_true_eq_false, not_false_eq_true, and_self, List.length_cons, List.length_nil, mNoCut_, mCat_n, mCat_I, mCat_L, mCat_R, mIsL_n, mIsL_I, mIsL_R, mIsL_L, Nat.reduceAdd, Nat.reduceSub, Nat.reduceLeDiff, Nat.reduceLT, Nat.reduceEqDiff, Nat.zero_le, Int.reduceEq, Int.reduceLT, Int.reduceLE, Int.reduceNeg, Int.reduceAdd, if_true, if_false, reduceIte, reduceCtorEq, Bool.false_eq_true, ne_eq, qCmp_0, qCmp_1, qCmp_2, qCmp_3, qCmp_4, qCmp_5, ib_0, ib_1, ib_2, lb_0, lb_1, lb_2, dv_0, dv_1, wq_ic, wq_ld_i, wq_ld_a, wq_ib, wq_idv, wq_icmp, wq_goto, wq_get, mGet_0, mGet_1, mGet_2, mGet_3, wq_ald, wq_ret0, wq_ret1, wq_ret2, wq_ret3, wq_ret4, ldR0, fk_11_0, mrg_6_, mrg_4_, mrg_16_, ldI1, ldI2, mrg_0_, wq_callV4_0, mGo_n, sfxX11_wayOf_27, cutX11_wayOf_27, sfxX11_wayOf_34, cutX11_wayOf_34, kX11_wayOf_34, kX11_wayOf_27, kX11_wayOf_0, sk_200, al_200, rf_200_0, sk_201, al_201, sn_201, ald_n, ro0_n, al_ro, SX11_wayOf_0, shqRIII_, spX11_raw, mrg, mrl, mSet_ap, ncast, Option.some.injEq]
  have e1 := Int.tmod_eq_emod_of_nonneg (a := 16 - rawT (I 201) b hh 0) (b := 16) (by omega)
  simp only [e1]
  unfold wayT at h
  (try simp only [mrg, mrl] at *) <;> repeat' (first | assumption | (with_reducible apply And.intro) | intro _)
  all_goals first | omega | (refine q_I ?_ h; split <;> omega)
theorem ctrX11_wayOf {l : Launch} (hst : l.stackTraces = false) (hT : mTxM l) : mCtr l calX11_wayOf spX11_wayOf :=
  mMet0 (T := TX11_wayOf) (S := SX11_wayOf) hst hT (by decide) okX11_wayOf ⟨_, _, rfl, rfl⟩ (fun a => match a with
    | 0 => ctrX11_raw hst hT
    | _ + 1 => mCtr_no) vcX11_wayOf

def spX11_airOf : mSp := shRII (fun _ i b h I Q => i = some 200 ∧ WFt (I 201) ∧ (0 ≤ b ∧ b < 6) ∧ (0 ≤ h ∧ h < 8) ∧ Q (.inl (some (mI (airT (I 201) b h)))) I)
def SX11_airOf : Nat → mSp := fun a => match a with
  | 0 => spX11_raw
  | _ => fun _ _ _ _ => False
theorem SX11_airOf_0 : SX11_airOf 0 = spX11_raw := Eq.trans rfl rfl
set_option maxRecDepth 100000 in
set_option maxHeartbeats 4000000 in
theorem vcX11_airOf (fl : Nat → Bool) (avs : List mV) (I : mM) (Q : mO → mM → Prop) (hsp : spX11_airOf fl avs I Q) : mVC0 SX11_airOf fl Q kX11_airOf 3 avs I := by
  obtain ⟨i, b, hh, rfl, h0⟩ := shRII_inv hsp
  refine ⟨rfl, ?_⟩
  show mWp _ _ _ _ _ _ kX11_airOf_0 [some (mR i), some (mI b), some (mI hh)] [] I
  obtain ⟨rfl, H, hb, hh1, h⟩ := h0
  have hr := (H.raw hb hh1).2.2.1
  have h6 := H.1.2.2.2.2.2.2.1
  simp only [true_or, or_true, false_or, or_false, true_and, and_true, true_implies, false_implies, implies_true, not_true_eq_false, not_false_eq_true, and_self, List.length_cons, List.length_nil, mNoCut_, mCat_n, mCat_I, mCat_L, mCat_R, mIsL_n, mIsL_I, mIsL_R, mIsL_L, Nat.reduceAdd, Nat.reduceSub, Nat.reduceLeDiff, Nat.reduceLT, Nat.reduceEqDiff, Nat.zero_le, Int.reduceEq, Int.reduceLT, Int.reduceLE, Int.reduceNeg, Int.reduceAdd, if_true, if_false, reduceIte, reduceCtorEq, Bool.false_eq_true, ne_eq, qCmp_0, qCmp_1, qCmp_2, qCmp_3, qCmp_4, qCmp_5, ib_0, ib_1, ib_2, lb_0, lb_1, lb_2, dv_0, dv_1, wq_ic, wq_ld_i, wq_ld_a, wq_icmp, wq_goto, wq_get, mGet_0, mGet_1, mGet_2, mGet_3, wq_ald, wq_ret0, wq_ret1, wq_ret2, wq_ret3, wq_ret4, wq_max, wq_min, wq_abs, wq_lmax, ldR0, fk_11_0, mrg_6_, mrg_2_, mrg_0_, mrg_3_, ldI1, ldI2, wq_callV4_0, mGo_n, sfxX11_airOf_15, cutX11_airOf_15, sfxX11_airOf_40, cutX11_airOf_40, sfxX11_airOf_47, cutX11_airOf_47, kX11_airOf_47, kX11_airOf_40, kX11_airOf_15, kX11_airOf_0, sk_200, al_200, rf_200_0, sk_201, al_201, sn_201, ald_n, ro0_n, al_ro, SX11_airOf_0, shqRIII_, spX11_raw, mrg, mrl, mSet_ap, ncast, Option.some.injEq]
  unfold airT at h
  (try simp only [mrg, mrl] at *) <;> repeat' (first | assumption | (with_reducible apply And.intro) | intro _)
  all_goals first | omega | (refine q_I ?_ h; repeat' split) <;> omega
theorem ctrX11_airOf {l : Launch} (hst : l.stackTraces = false) (hT : mTxM l) : mCtr l calX11_airOf spX11_airOf :=
  mMet0 (T := TX11_airOf) (S := SX11_airOf) hst hT (by decide) okX11_airOf ⟨_, _, rfl, rfl⟩ (fun a => match a with
    | 0 => ctrX11_raw hst hT
    | _ + 1 => mCtr_no) vcX11_airOf

def spX11_eastOf : mSp := shI (fun _ w I Q => (0 ≤ w ∧ w ≤ 15) ∧ Q (.inl (some (mI (eastT w)))) I)
def SX11_eastOf : Nat → mSp := fun a => match a with
  | _ => fun _ _ _ _ => False
set_option maxRecDepth 100000 in
set_option maxHeartbeats 4000000 in
theorem vcX11_eastOf (fl : Nat → Bool) (avs : List mV) (I : mM) (Q : mO → mM → Prop) (hsp : spX11_eastOf fl avs I Q) : mVC0 SX11_eastOf fl Q kX11_eastOf 3 avs I := by
  obtain ⟨w, rfl, h0⟩ := shI_inv hsp
  refine ⟨rfl, ?_⟩
  show mWp _ _ _ _ _ _ kX11_eastOf_0 [some (mI w), none, none] [] I
  obtain ⟨hw, h⟩ := h0
  simp only [true_or, or_true, false_or, or_false, true_and, and_true, true_implies, false_implies, implies_true, not_true_eq_false, not_false_eq_true, and_self, List.length_cons, List.length_nil, mNoCut_, mCat_n, mCat_I, mCat_L, mCat_R, mIsL_n, mIsL_I, mIsL_R, mIsL_L, Nat.reduceAdd, Nat.reduceSub, Nat.reduceLeDiff, Nat.reduceLT, Nat.reduceEqDiff, Nat.zero_le, Int.reduceEq, Int.reduceLT, Int.reduceLE, Int.reduceNeg, Int.reduceAdd, if_true, if_false, reduceIte, reduceCtorEq, Bool.false_eq_true, ne_eq, qCmp_0, qCmp_1, qCmp_2, qCmp_3, qCmp_4, qCmp_5, ib_0, ib_1, ib_2, lb_0, lb_1, lb_2, dv_0, dv_1, wq_ic, wq_ld_i, wq_st_i, wq_ib, wq_ineg, wq_icmp, wq_if, wq_goto, wq_ret0, wq_ret1, wq_ret2, wq_ret3, wq_ret4, ldI0, mrg_8_, mrg_16_, stI1, ldI1, mrg_0_, mrg_3_, mrg_5_, mrg_2_, mrg_1_, stI2, ldI2, mPut_s, mPut_I0, mPut_R0, mPut_L0, mPut_I1, mPut_R1, mPut_L1, mGo_n, sfxX11_eastOf_13, cutX11_eastOf_13, sfxX11_eastOf_14, cutX11_eastOf_14, sfxX11_eastOf_25, cutX11_eastOf_25, sfxX11_eastOf_29, cutX11_eastOf_29, sfxX11_eastOf_39, cutX11_eastOf_39, sfxX11_eastOf_43, cutX11_eastOf_43, sfxX11_eastOf_44, cutX11_eastOf_44, sfxX11_eastOf_56, cutX11_eastOf_56, sfxX11_eastOf_57, cutX11_eastOf_57, kX11_eastOf_57, kX11_eastOf_56, kX11_eastOf_44, kX11_eastOf_43, kX11_eastOf_39, kX11_eastOf_29, kX11_eastOf_25, kX11_eastOf_14, kX11_eastOf_13, kX11_eastOf_0, mrg, mrl, mSet_ap, ncast, Option.some.injEq]
  unfold eastT at h
  dsimp only at h
  (try simp only [mrg, mrl] at *) <;> repeat' (first | assumption | (with_reducible apply And.intro) | intro _)
  all_goals first | omega | (refine q_I ?_ h; repeat' split) <;> omega
theorem ctrX11_eastOf {l : Launch} (hst : l.stackTraces = false) (hT : mTxM l) : mCtr l calX11_eastOf spX11_eastOf :=
  mMet0 (T := TX11_eastOf) (S := SX11_eastOf) hst hT (by decide) okX11_eastOf ⟨_, _, rfl, rfl⟩ (fun a => mCtr_no) vcX11_eastOf

def spX11_southOf : mSp := shI (fun _ w I Q => (0 ≤ w ∧ w ≤ 15) ∧ Q (.inl (some (mI (southT w)))) I)
def SX11_southOf : Nat → mSp := fun a => match a with
  | _ => fun _ _ _ _ => False
set_option maxRecDepth 100000 in
set_option maxHeartbeats 4000000 in
theorem vcX11_southOf (fl : Nat → Bool) (avs : List mV) (I : mM) (Q : mO → mM → Prop) (hsp : spX11_southOf fl avs I Q) : mVC0 SX11_southOf fl Q kX11_southOf 2 avs I := by
  obtain ⟨w, rfl, h0⟩ := shI_inv hsp
  refine ⟨rfl, ?_⟩
  show mWp _ _ _ _ _ _ kX11_southOf_0 [some (mI w), none] [] I
  obtain ⟨hw, h⟩ := h0
  simp only [true_or, or_true, false_or, or_false, true_and, and_true, true_implies, false_implies, implies_true, not_true_eq_false, not_false_eq_true, and_self, List.length_cons, List.length_nil, mNoCut_, mCat_n, mCat_I, mCat_L, mCat_R, mIsL_n, mIsL_I, mIsL_R, mIsL_L, Nat.reduceAdd, Nat.reduceSub, Nat.reduceLeDiff, Nat.reduceLT, Nat.reduceEqDiff, Nat.zero_le, Int.reduceEq, Int.reduceLT, Int.reduceLE, Int.reduceNeg, Int.reduceAdd, if_true, if_false, reduceIte, reduceCtorEq, Bool.false_eq_true, ne_eq, qCmp_0, qCmp_1, qCmp_2, qCmp_3, qCmp_4, qCmp_5, ib_0, ib_1, ib_2, lb_0, lb_1, lb_2, dv_0, dv_1, wq_ic, wq_ld_i, wq_st_i, wq_ib, wq_icmp, wq_if, wq_goto, wq_ret0, wq_ret1, wq_ret2, wq_ret3, wq_ret4, ldI0, mrg_8_, mrg_16_, stI1, ldI1, mrg_2_, mrg_3_, mrg_m1_, mrg_1_, mrg_m2_, mrg_4_, mrg_0_, mrg_7_, mPut_s, mPut_I0, mPut_R0, mPut_L0, mPut_I1, mPut_R1, mPut_L1, mGo_n, sfxX11_southOf_13, cutX11_southOf_13, sfxX11_southOf_14, cutX11_southOf_14, sfxX11_southOf_29, cutX11_southOf_29, sfxX11_southOf_33, cutX11_southOf_33, sfxX11_southOf_43, cutX11_southOf_43, sfxX11_southOf_52, cutX11_southOf_52, sfxX11_southOf_62, cutX11_southOf_62, sfxX11_southOf_63, cutX11_southOf_63, kX11_southOf_63, kX11_southOf_62, kX11_southOf_52, kX11_southOf_43, kX11_southOf_33, kX11_southOf_29, kX11_southOf_14, kX11_southOf_13, kX11_southOf_0, mrg, mrl, mSet_ap, ncast, Option.some.injEq]
  unfold southT at h
  dsimp only at h
  (try simp only [mrg, mrl] at *) <;> repeat' (first | assumption | (with_reducible apply And.intro) | intro _)
  all_goals first | omega | (refine q_I ?_ h; repeat' split) <;> omega
theorem ctrX11_southOf {l : Launch} (hst : l.stackTraces = false) (hT : mTxM l) : mCtr l calX11_southOf spX11_southOf :=
  mMet0 (T := TX11_southOf) (S := SX11_southOf) hst hT (by decide) okX11_southOf ⟨_, _, rfl, rfl⟩ (fun a => mCtr_no) vcX11_southOf

def spX11_isInside : mSp := shRII (fun _ i x y I Q => i = some 200 ∧ (2 ≤ I 201 1 ∧ I 201 1 ≤ 8) ∧ (-40 ≤ x ∧ x ≤ 40) ∧ (-40 ≤ y ∧ y ≤ 40) ∧ (insT (I 201) x y → Q (.inl (some (mI 1))) I) ∧ (¬ insT (I 201) x y → Q (.inl (some (mI 0))) I))
def SX11_isInside : Nat → mSp := fun a => match a with
  | _ => fun _ _ _ _ => False
set_option maxRecDepth 100000 in
set_option maxHeartbeats 4000000 in
theorem vcX11_isInside (fl : Nat → Bool) (avs : List mV) (I : mM) (Q : mO → mM → Prop) (hsp : spX11_isInside fl avs I Q) : mVC0 SX11_isInside fl Q kX11_isInside 3 avs I := by
  obtain ⟨i, x, y, rfl, h0⟩ := shRII_inv hsp
  refine ⟨rfl, ?_⟩
  show mWp _ _ _ _ _ _ kX11_isInside_0 [some (mR i), some (mI x), some (mI y)] [] I
  obtain ⟨rfl, he, hx, hy, h1, h2⟩ := h0
  simp only [true_or, or_true, false_or, or_false, true_and, and_true, true_implies, false_implies, implies_true, not_true_eq_false, not_false_eq_true, and_self, List.length_cons, List.length_nil, mNoCut_, mCat_n, mCat_I, mCat_L, mCat_R, mIsL_n, mIsL_I, mIsL_R, mIsL_L, Nat.reduceAdd, Nat.reduceSub, Nat.reduceLeDiff, Nat.reduceLT, Nat.reduceEqDiff, Nat.zero_le, Int.reduceEq, Int.reduceLT, Int.reduceLE, Int.reduceNeg, Int.reduceAdd, if_true, if_false, reduceIte, reduceCtorEq, Bool.false_eq_true, ne_eq, qCmp_0, qCmp_1, qCmp_2, qCmp_3, qCmp_4, qCmp_5, ib_0, ib_1, ib_2, lb_0, lb_1, lb_2, dv_0, dv_1, wq_ic, wq_ld_i, wq_ld_a, wq_ib, wq_icmp, wq_goto, wq_get, mGet_0, mGet_1, mGet_2, mGet_3, wq_ald, wq_ret0, wq_ret1, wq_ret2, wq_ret3, wq_ret4, ldI1, mrg_8_, ldI2, ldR0, fk_11_0, mrg_1_, mrg_0_, mGo_n, sfxX11_isInside_39, cutX11_isInside_39, sfxX11_isInside_40, cutX11_isInside_40, kX11_isInside_40, kX11_isInside_39, kX11_isInside_0, sk_200, al_200, rf_200_0, sk_201, al_201, sn_201, ald_n, ro0_n, al_ro, mrg, mrl, mSet_ap, ncast, Option.some.injEq]
  have b1 := sq_le (x := x - 8) (n := 50) (by omega) (by omega)
  have b2 := sq_le (x := y - 8) (n := 50) (by omega) (by omega)
  have b3 := sq_nn (x - 8)
  have b4 := sq_nn (y - 8)
  have b5 := sq_le (x := I 201 1) (n := 8) (by omega) (by omega)
  have b6 := sq_nn (I 201 1)
  unfold insT at h1 h2
  (try simp only [mrg, mrl] at *) <;> repeat' (first | assumption | (with_reducible apply And.intro) | intro _)
  all_goals first | omega | exact h1 (by omega) | exact h2 (by omega)
theorem ctrX11_isInside {l : Launch} (hst : l.stackTraces = false) (hT : mTxM l) : mCtr l calX11_isInside spX11_isInside :=
  mMet0 (T := TX11_isInside) (S := SX11_isInside) hst hT (by decide) okX11_isInside ⟨_, _, rfl, rfl⟩ (fun a => mCtr_no) vcX11_isInside

def spX11_isIn : mSp := shRI (fun _ i c I Q => i = some 200 ∧ (2 ≤ I 201 1 ∧ I 201 1 ≤ 8) ∧ (0 ≤ c ∧ c < 289) ∧ (insT (I 201) (c % 17) (c / 17) → Q (.inl (some (mI 1))) I) ∧ (¬ insT (I 201) (c % 17) (c / 17) → Q (.inl (some (mI 0))) I))
def SX11_isIn : Nat → mSp := fun a => match a with
  | 0 => spX11_isInside
  | _ => fun _ _ _ _ => False
theorem SX11_isIn_0 : SX11_isIn 0 = spX11_isInside := Eq.trans rfl rfl
set_option maxRecDepth 100000 in
set_option maxHeartbeats 4000000 in
theorem vcX11_isIn (fl : Nat → Bool) (avs : List mV) (I : mM) (Q : mO → mM → Prop) (hsp : spX11_isIn fl avs I Q) : mVC0 SX11_isIn fl Q kX11_isIn 2 avs I := by
  obtain ⟨i, c, rfl, h0⟩ := shRI_inv hsp
  refine ⟨rfl, ?_⟩
  show mWp _ _ _ _ _ _ kX11_isIn_0 [some (mR i), some (mI c)] [] I
  obtain ⟨rfl, he, hc, h1, h2⟩ := h0
  simp only [true_or, or_true, false_or, or_false, true_and, and_true, true_implies, false_implies, implies_true, not_true_eq_false, not_false_eq_true, and_self, List.length_cons, List.length_nil, mNoCut_, mCat_n, mCat_I, mCat_L, mCat_R, mIsL_n, mIsL_I, mIsL_R, mIsL_L, Nat.reduceAdd, Nat.reduceSub, Nat.reduceLeDiff, Nat.reduceLT, Nat.reduceEqDiff, Nat.zero_le, Int.reduceEq, Int.reduceLT, Int.reduceLE, Int.reduceNeg, Int.reduceAdd, if_true, if_false, reduceIte, reduceCtorEq, Bool.false_eq_true, ne_eq, qCmp_0, qCmp_1, qCmp_2, qCmp_3, qCmp_4, qCmp_5, ib_0, ib_1, ib_2, lb_0, lb_1, lb_2, dv_0, dv_1, wq_ic, wq_ld_i, wq_ld_a, wq_idv, wq_ret0, wq_ret1, wq_ret2, wq_ret3, wq_ret4, ldR0, ldI1, mrg_17_, wq_callV3_0, kX11_isIn_0, sk_200, al_200, SX11_isIn_0, shqRII_, spX11_isInside, mrg, mrl, mSet_ap, ncast, Option.some.injEq]
  have e1 := Int.tmod_eq_emod_of_nonneg (b := 17) hc.1
  have e3 := Int.tdiv_eq_ediv_of_nonneg (b := 17) hc.1
  simp only [e1, e3]
  (try simp only [mrg, mrl] at *) <;> repeat' (first | assumption | (with_reducible apply And.intro) | intro _)
  all_goals first | omega | exact h1 (by assumption) | exact h2 (by assumption)
theorem ctrX11_isIn {l : Launch} (hst : l.stackTraces = false) (hT : mTxM l) : mCtr l calX11_isIn spX11_isIn :=
  mMet0 (T := TX11_isIn) (S := SX11_isIn) hst hT (by decide) okX11_isIn ⟨_, _, rfl, rfl⟩ (fun a => match a with
    | 0 => ctrX11_isInside hst hT
    | _ + 1 => mCtr_no) vcX11_isIn

def spX11_stepsOf : mSp := shRII (fun _ i b h I Q => i = some 200 ∧ WFt (I 201) ∧ (0 ≤ b ∧ b < 6) ∧ (0 ≤ h ∧ h < 8) ∧ Q (.inl (some (mI (stepsT (I 201) b h)))) I)
def SX11_stepsOf : Nat → mSp := fun a => match a with
  | 0 => spX11_wayOf
  | 1 => spX11_eastOf
  | 2 => spX11_southOf
  | 3 => spX11_isInside
  | _ => fun _ _ _ _ => False
theorem SX11_stepsOf_0 : SX11_stepsOf 0 = spX11_wayOf := Eq.trans rfl rfl
theorem SX11_stepsOf_1 : SX11_stepsOf 1 = spX11_eastOf := Eq.trans rfl rfl
theorem SX11_stepsOf_2 : SX11_stepsOf 2 = spX11_southOf := Eq.trans rfl rfl
theorem SX11_stepsOf_3 : SX11_stepsOf 3 = spX11_isInside := Eq.trans rfl rfl
theorem cutsX11_stepsOf {t : Nat} {bs : List Bool} (h : cutX11_stepsOf t = some bs) : (t = 2 ∧ bs = [true, true, true, true]) := by
  unfold cutX11_stepsOf at h
  simp only [mLk] at h
  by_cases h0 : 2 = t
  · subst h0
    simp at h
    exact ⟨rfl, h.symm⟩
  rw [if_neg h0] at h
  cases h
set_option maxRecDepth 100000 in
set_option maxHeartbeats 4000000 in
theorem vcX11_stepsOf (fl : Nat → Bool) (avs : List mV) (I : mM) (Q : mO → mM → Prop) (hsp : spX11_stepsOf fl avs I Q) : mVC SX11_stepsOf fl Q kX11_stepsOf cutX11_stepsOf 4 avs I := by
  obtain ⟨i, b, hh, rfl, h0⟩ := shRII_inv hsp
  obtain ⟨rfl, H, hb, hh1, h⟩ := h0
  have hw := es_bd (H.way hb hh1)
  obtain ⟨hs1, hs2, hs3⟩ := steps_spec H hb hh1
  have he := H.1.2.1
  refine ⟨rfl, (fun n t lv st I1 => I1 = I ∧ st = [] ∧ ∃ k : Int, lv = [some (mR (some 200)), some (mI b), some (mI hh), some (mI k)] ∧ 1 ≤ k ∧ (n : Int) = 9 - k ∧ (∀ j, 1 ≤ j → j < k → inK (I 201) b hh j)), ?_, ?_⟩
  · intro n t bs hbs lv st I1 hc
    rcases cutsX11_stepsOf hbs with ⟨rfl, rfl⟩
    rw [sfxX11_stepsOf_2]
    obtain ⟨rfl, rfl, k, rfl, hk1, hn, hj⟩ := hc
    simp only [true_or, or_true, false_or, or_false, true_and, and_true, true_implies, false_implies, implies_true, not_true_eq_false, not_false_eq_true, and_self, List.length_cons, List.length_nil, mNoCut_, mCat_n, mCat_I, mCat_L, mCat_R, mIsL_n, mIsL_I, mIsL_R, mIsL_L, Nat.reduceAdd, Nat.reduceSub, Nat.reduceLeDiff, Nat.reduceLT, Nat.reduceEqDiff, Nat.zero_le, Int.reduceEq, Int.reduceLT, Int.reduceLE, Int.reduceNeg, Int.reduceAdd, if_true, if_false, reduceIte, reduceCtorEq, Bool.false_eq_true, ne_eq, qCmp_0, qCmp_1, qCmp_2, qCmp_3, qCmp_4, qCmp_5, ib_0, ib_1, ib_2, lb_0, lb_1, lb_2, dv_0, dv_1, wq_ic, wq_ld_i, wq_ld_a, wq_st_i, wq_iinc, wq_ib, wq_if, wq_goto, wq_ret0, wq_ret1, wq_ret2, wq_ret3, wq_ret4, mrg_1_, stI3, ldR0, mrg_8_, ldI3, ldI1, ldI2, wq_callV3_0, wq_callS1_1, wqinc3, mPut_s, mPut_I0, mPut_R0, mPut_L0, mPut_I1, mPut_R1, mPut_L1, mrg_0_, mGo_n, sfxX11_stepsOf_2, cutX11_stepsOf_2, sfxX11_stepsOf_43, cutX11_stepsOf_43, wq_cut, mGo_c, mMask_t, mMask_f, mMask_n, kX11_stepsOf_43, kX11_stepsOf_2, kX11_stepsOf_0, sk_200, al_200, SX11_stepsOf_0, SX11_stepsOf_1, SX11_stepsOf_2, SX11_stepsOf_3, shqRII_, shqI_, spX11_wayOf, spX11_eastOf, spX11_southOf, spX11_isInside, mrg, mrl, mSet_ap, ncast, Option.some.injEq]
    have hk8 : k ≤ 9 := by
      rcases Int.lt_or_le 9 k with q | q
      · have := (inK_bd H hb hh1 (by omega) (hj 9 (by omega) (by omega))).1
        omega
      · exact q
    have hks : k - 1 ≤ stepsT (I1 201) b hh := by
      rcases Int.lt_or_le (stepsT (I1 201) b hh) (k - 1) with q | q
      · exact absurd (hj _ (by omega) (by omega)) hs3
      · exact q
    have m1 := mul_cases (k := k) hw.1
    have m2 := mul_cases (k := k) hw.2.1
    have w1 := H.way hb hh1
    refine ⟨H, hb, hh1, w1, H, hb, hh1, w1, he, by omega, by omega, fun hi => ?_, fun hi => ?_⟩
    · have h8 := (inK_bd H hb hh1 (by omega) hi).1
      refine ⟨n - 1, by omega, k + 1, rfl, by omega, by omega, fun j j1 j2 => ?_⟩
      rcases Int.lt_or_le j k with q | q
      · exact hj j j1 q
      · have : j = k := by omega
        subst this
        exact hi
    · refine q_I ?_ h
      rcases Int.lt_or_le (stepsT (I1 201) b hh) k with q | q
      · omega
      · exact absurd (hs2 k hk1 q) hi
  · show mWp _ _ _ _ _ _ kX11_stepsOf_0 [some (mR (some 200)), some (mI b), some (mI hh), none] [] I
    simp only [true_or, or_true, false_or, or_false, true_and, and_true, true_implies, false_implies, implies_true, not_true_eq_false, not_false_eq_true, and_self, List.length_cons, List.length_nil, mNoCut_, mCat_n, mCat_I, mCat_L, mCat_R, mIsL_n, mIsL_I, mIsL_R, mIsL_L, Nat.reduceAdd, Nat.reduceSub, Nat.reduceLeDiff, Nat.reduceLT, Nat.reduceEqDiff, Nat.zero_le, Int.reduceEq, Int.reduceLT, Int.reduceLE, Int.reduceNeg, Int.reduceAdd, if_true, if_false, reduceIte, reduceCtorEq, Bool.false_eq_true, ne_eq, qCmp_0, qCmp_1, qCmp_2, qCmp_3, qCmp_4, qCmp_5, ib_0, ib_1, ib_2, lb_0, lb_1, lb_2, dv_0, dv_1, wq_ic, wq_ld_i, wq_ld_a, wq_st_i, wq_iinc, wq_ib, wq_if, wq_goto, wq_ret0, wq_ret1, wq_ret2, wq_ret3, wq_ret4, mrg_1_, stI3, ldR0, mrg_8_, ldI3, ldI1, ldI2, wq_callV3_0, wq_callS1_1, wqinc3, mPut_s, mPut_I0, mPut_R0, mPut_L0, mPut_I1, mPut_R1, mPut_L1, mrg_0_, mGo_n, sfxX11_stepsOf_2, cutX11_stepsOf_2, sfxX11_stepsOf_43, cutX11_stepsOf_43, wq_cut, mGo_c, mMask_t, mMask_f, mMask_n, kX11_stepsOf_43, kX11_stepsOf_2, kX11_stepsOf_0, sk_200, al_200, SX11_stepsOf_0, SX11_stepsOf_1, SX11_stepsOf_2, SX11_stepsOf_3, shqRII_, shqI_, spX11_wayOf, spX11_eastOf, spX11_southOf, spX11_isInside, mrg, mrl, mSet_ap, ncast, Option.some.injEq]
    exact ⟨8, 1, rfl, by omega, by omega, fun j h1 h2 => by omega⟩
theorem ctrX11_stepsOf {l : Launch} (hst : l.stackTraces = false) (hT : mTxM l) : mCtr l calX11_stepsOf spX11_stepsOf :=
  mMet (T := TX11_stepsOf) (S := SX11_stepsOf) hst hT cutX11_stepsOf (by decide) okX11_stepsOf ⟨_, _, rfl, rfl⟩ trivial (fun t bs h => by rcases cutsX11_stepsOf h with ⟨-, rfl⟩ <;> rfl) (fun a => match a with
    | 0 => ctrX11_wayOf hst hT
    | 1 => ctrX11_eastOf hst hT
    | 2 => ctrX11_southOf hst hT
    | 3 => ctrX11_isInside hst hT
    | _ + 4 => mCtr_no) vcX11_stepsOf

end SPM2
