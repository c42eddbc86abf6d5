section SPM3
def spX11_cellAt : mSp := shRIII (fun _ i b h k I Q => i = some 200 ∧ WFt (I 201) ∧ (0 ≤ b ∧ b < 6) ∧ (0 ≤ h ∧ h < 8) ∧ Q (.inl (some (mI (cellT (I 201) b h k)))) I)
def SX11_cellAt : Nat → mSp := fun a => match a with
  | 0 => spX11_wayOf
  | 1 => spX11_southOf
  | 2 => spX11_eastOf
  | _ => fun _ _ _ _ => False
theorem SX11_cellAt_0 : SX11_cellAt 0 = spX11_wayOf := Eq.trans rfl rfl
theorem SX11_cellAt_1 : SX11_cellAt 1 = spX11_southOf := Eq.trans rfl rfl
theorem SX11_cellAt_2 : SX11_cellAt 2 = spX11_eastOf := Eq.trans rfl rfl
set_option maxRecDepth 100000 in
set_option maxHeartbeats 4000000 in
theorem vcX11_cellAt (fl : Nat → Bool) (avs : List mV) (I : mM) (Q : mO → mM → Prop) (hsp : spX11_cellAt fl avs I Q) : mVC0 SX11_cellAt fl Q kX11_cellAt 4 avs I := by
  obtain ⟨i, b, hh, k, rfl, h0⟩ := shRIII_inv hsp
  refine ⟨rfl, ?_⟩
  show mWp _ _ _ _ _ _ kX11_cellAt_0 [some (mR i), some (mI b), some (mI hh), some (mI k)] [] I
  obtain ⟨rfl, H, hb, hh1, h⟩ := h0
  have hw := H.way hb hh1
  simp only [true_or, or_true, false_or, or_false, true_and, and_true, true_implies, false_implies, implies_true, not_true_eq_false, not_false_eq_true, and_self, List.length_cons, List.length_nil, mNoCut_, mCat_n, mCat_I, mCat_L, mCat_R, mIsL_n, mIsL_I, mIsL_R, mIsL_L, Nat.reduceAdd, Nat.reduceSub, Nat.reduceLeDiff, Nat.reduceLT, Nat.reduceEqDiff, Nat.zero_le, Int.reduceEq, Int.reduceLT, Int.reduceLE, Int.reduceNeg, Int.reduceAdd, if_true, if_false, reduceIte, reduceCtorEq, Bool.false_eq_true, ne_eq, qCmp_0, qCmp_1, qCmp_2, qCmp_3, qCmp_4, qCmp_5, ib_0, ib_1, ib_2, lb_0, lb_1, lb_2, dv_0, dv_1, wq_ic, wq_ld_i, wq_ld_a, wq_ib, wq_ret0, wq_ret1, wq_ret2, wq_ret3, wq_ret4, mrg_17_, mrg_8_, ldI3, ldR0, ldI1, ldI2, wq_callV3_0, wq_callS1_1, kX11_cellAt_0, sk_200, al_200, SX11_cellAt_0, SX11_cellAt_1, SX11_cellAt_2, shqRII_, shqI_, spX11_wayOf, spX11_southOf, spX11_eastOf, mrg, mrl, mSet_ap, ncast, Option.some.injEq]
  unfold cellT at h
  (try simp only [mrg, mrl] at *) <;> repeat' (first | assumption | (with_reducible apply And.intro) | intro _)
  all_goals first | omega | assumption | (refine q_I ?_ h; omega)
theorem ctrX11_cellAt {l : Launch} (hst : l.stackTraces = false) (hT : mTxM l) : mCtr l calX11_cellAt spX11_cellAt :=
  mMet0 (T := TX11_cellAt) (S := SX11_cellAt) hst hT (by decide) okX11_cellAt ⟨_, _, rfl, rfl⟩ (fun a => match a with
    | 0 => ctrX11_wayOf hst hT
    | 1 => ctrX11_southOf hst hT
    | 2 => ctrX11_eastOf hst hT
    | _ + 3 => mCtr_no) vcX11_cellAt

def spX11_far : mSp := shII (fun _ a b I Q => (0 ≤ a ∧ a < 289) ∧ (0 ≤ b ∧ b < 289) ∧ Q (.inl (some (mI (far a b)))) I)
def SX11_far : Nat → mSp := fun a => match a with
  | _ => fun _ _ _ _ => False
set_option maxRecDepth 100000 in
set_option maxHeartbeats 4000000 in
theorem vcX11_far (fl : Nat → Bool) (avs : List mV) (I : mM) (Q : mO → mM → Prop) (hsp : spX11_far fl avs I Q) : mVC0 SX11_far fl Q kX11_far 2 avs I := by
  obtain ⟨a, b, rfl, h0⟩ := shII_inv hsp
  refine ⟨rfl, ?_⟩
  show mWp _ _ _ _ _ _ kX11_far_0 [some (mI a), some (mI b)] [] I
  obtain ⟨ha, hb, h⟩ := h0
  simp only [true_or, or_true, false_or, or_false, true_and, and_true, true_implies, false_implies, implies_true, not_true_eq_false, not_false_eq_true, and_self, List.length_cons, List.length_nil, mNoCut_, mCat_n, mCat_I, mCat_L, mCat_R, mIsL_n, mIsL_I, mIsL_R, mIsL_L, Nat.reduceAdd, Nat.reduceSub, Nat.reduceLeDiff, Nat.reduceLT, Nat.reduceEqDiff, Nat.zero_le, Int.reduceEq, Int.reduceLT, Int.reduceLE, Int.reduceNeg, Int.reduceAdd, if_true, if_false, reduceIte, reduceCtorEq, Bool.false_eq_true, ne_eq, qCmp_0, qCmp_1, qCmp_2, qCmp_3, qCmp_4, qCmp_5, ib_0, ib_1, ib_2, lb_0, lb_1, lb_2, dv_0, dv_1, wq_ic, wq_ld_i, wq_ib, wq_idv, wq_ret0, wq_ret1, wq_ret2, wq_ret3, wq_ret4, wq_max, wq_min, wq_abs, wq_lmax, ldI0, mrg_17_, ldI1, kX11_far_0, mrg, mrl, mSet_ap, ncast, Option.some.injEq]
  have e1 := Int.tmod_eq_emod_of_nonneg (b := 17) ha.1
  have e2 := Int.tmod_eq_emod_of_nonneg (b := 17) hb.1
  have e3 := Int.tdiv_eq_ediv_of_nonneg (b := 17) ha.1
  have e4 := Int.tdiv_eq_ediv_of_nonneg (b := 17) hb.1
  simp only [e1, e2, e3, e4]
  unfold far at h
  (try simp only [mrg, mrl] at *) <;> repeat' (first | assumption | (with_reducible apply And.intro) | intro _)
  all_goals first | omega | (refine q_I ?_ h; repeat' split) <;> omega
theorem ctrX11_far {l : Launch} (hst : l.stackTraces = false) (hT : mTxM l) : mCtr l calX11_far spX11_far :=
  mMet0 (T := TX11_far) (S := SX11_far) hst hT (by decide) okX11_far ⟨_, _, rfl, rfl⟩ (fun a => mCtr_no) vcX11_far

def spX11_fromBat : mSp := shI (fun _ a I Q => (0 ≤ a ∧ a < 289) ∧ Q (.inl (some (mI (far a 144)))) I)
def SX11_fromBat : Nat → mSp := fun a => match a with
  | 0 => spX11_far
  | _ => fun _ _ _ _ => False
theorem SX11_fromBat_0 : SX11_fromBat 0 = spX11_far := Eq.trans rfl rfl
set_option maxRecDepth 100000 in
set_option maxHeartbeats 4000000 in
theorem vcX11_fromBat (fl : Nat → Bool) (avs : List mV) (I : mM) (Q : mO → mM → Prop) (hsp : spX11_fromBat fl avs I Q) : mVC0 SX11_fromBat fl Q kX11_fromBat 1 avs I := by
  obtain ⟨a, rfl, h0⟩ := shI_inv hsp
  refine ⟨rfl, ?_⟩
  show mWp _ _ _ _ _ _ kX11_fromBat_0 [some (mI a)] [] I
  obtain ⟨ha, h⟩ := h0
  simp only [true_or, or_true, false_or, or_false, true_and, and_true, true_implies, false_implies, implies_true, not_true_eq_false, not_false_eq_true, and_self, List.length_cons, List.length_nil, mNoCut_, mCat_n, mCat_I, mCat_L, mCat_R, mIsL_n, mIsL_I, mIsL_R, mIsL_L, Nat.reduceAdd, Nat.reduceSub, Nat.reduceLeDiff, Nat.reduceLT, Nat.reduceEqDiff, Nat.zero_le, Int.reduceEq, Int.reduceLT, Int.reduceLE, Int.reduceNeg, Int.reduceAdd, if_true, if_false, reduceIte, reduceCtorEq, Bool.false_eq_true, ne_eq, qCmp_0, qCmp_1, qCmp_2, qCmp_3, qCmp_4, qCmp_5, ib_0, ib_1, ib_2, lb_0, lb_1, lb_2, dv_0, dv_1, wq_ic, wq_ld_i, wq_ret0, wq_ret1, wq_ret2, wq_ret3, wq_ret4, ldI0, mrg_144_, wq_callS2_1, kX11_fromBat_0, SX11_fromBat_0, shqII_, spX11_far, mrg, mrl, mSet_ap, ncast, Option.some.injEq]
  (try simp only [mrg, mrl] at *) <;> repeat' (first | assumption | (with_reducible apply And.intro) | intro _)
  all_goals first | omega | exact h
theorem ctrX11_fromBat {l : Launch} (hst : l.stackTraces = false) (hT : mTxM l) : mCtr l calX11_fromBat spX11_fromBat :=
  mMet0 (T := TX11_fromBat) (S := SX11_fromBat) hst hT (by decide) okX11_fromBat ⟨_, _, rfl, rfl⟩ (fun a => match a with
    | 0 => ctrX11_far hst hT
    | _ + 1 => mCtr_no) vcX11_fromBat

def spX11_ofFielder : mSp := shRII (fun _ i f w I Q => i = some 200 ∧ (0 ≤ f ∧ f < 9) ∧ (0 ≤ w ∧ w < 5) ∧ Q (.inl (some (mI (I 201 (550 + 5 * f + w))))) I)
def SX11_ofFielder : Nat → mSp := fun a => match a with
  | _ => fun _ _ _ _ => False
set_option maxRecDepth 100000 in
set_option maxHeartbeats 4000000 in
theorem vcX11_ofFielder (fl : Nat → Bool) (avs : List mV) (I : mM) (Q : mO → mM → Prop) (hsp : spX11_ofFielder fl avs I Q) : mVC0 SX11_ofFielder fl Q kX11_ofFielder 3 avs I := by
  obtain ⟨i, f, w, rfl, h0⟩ := shRII_inv hsp
  refine ⟨rfl, ?_⟩
  show mWp _ _ _ _ _ _ kX11_ofFielder_0 [some (mR i), some (mI f), some (mI w)] [] I
  obtain ⟨rfl, hf, hw, h⟩ := h0
  simp only [true_or, or_true, false_or, or_false, true_and, and_true, true_implies, false_implies, implies_true, not_true_eq_false, not_false_eq_true, and_self, List.length_cons, List.length_nil, mNoCut_, mCat_n, mCat_I, mCat_L, mCat_R, mIsL_n, mIsL_I, mIsL_R, mIsL_L, Nat.reduceAdd, Nat.reduceSub, Nat.reduceLeDiff, Nat.reduceLT, Nat.reduceEqDiff, Nat.zero_le, Int.reduceEq, Int.reduceLT, Int.reduceLE, Int.reduceNeg, Int.reduceAdd, if_true, if_false, reduceIte, reduceCtorEq, Bool.false_eq_true, ne_eq, qCmp_0, qCmp_1, qCmp_2, qCmp_3, qCmp_4, qCmp_5, ib_0, ib_1, ib_2, lb_0, lb_1, lb_2, dv_0, dv_1, wq_ic, wq_ld_i, wq_ld_a, wq_ib, wq_get, mGet_0, mGet_1, mGet_2, mGet_3, wq_ald, wq_ret0, wq_ret1, wq_ret2, wq_ret3, wq_ret4, ldR0, fk_11_0, mrg_550_, mrg_5_, ldI1, ldI2, kX11_ofFielder_0, sk_200, al_200, rf_200_0, sk_201, al_201, sn_201, ald_n, ro0_n, al_ro, mrg, mrl, mSet_ap, ncast, Option.some.injEq]
  (try simp only [mrg, mrl] at *) <;> repeat' (first | assumption | (with_reducible apply And.intro) | intro _)
  all_goals first | omega | exact h
theorem ctrX11_ofFielder {l : Launch} (hst : l.stackTraces = false) (hT : mTxM l) : mCtr l calX11_ofFielder spX11_ofFielder :=
  mMet0 (T := TX11_ofFielder) (S := SX11_ofFielder) hst hT (by decide) okX11_ofFielder ⟨_, _, rfl, rfl⟩ (fun a => mCtr_no) vcX11_ofFielder

def spX11_standOf : mSp := shRI (fun _ i f I Q => i = some 200 ∧ (0 ≤ f ∧ f < 9) ∧ Q (.inl (some (mI (stT (I 201) f)))) I)
def SX11_standOf : Nat → mSp := fun a => match a with
  | _ => fun _ _ _ _ => False
set_option maxRecDepth 100000 in
set_option maxHeartbeats 4000000 in
theorem vcX11_standOf (fl : Nat → Bool) (avs : List mV) (I : mM) (Q : mO → mM → Prop) (hsp : spX11_standOf fl avs I Q) : mVC0 SX11_standOf fl Q kX11_standOf 2 avs I := by
  obtain ⟨i, f, rfl, h0⟩ := shRI_inv hsp
  refine ⟨rfl, ?_⟩
  show mWp _ _ _ _ _ _ kX11_standOf_0 [some (mR i), some (mI f)] [] I
  obtain ⟨rfl, hf, h⟩ := h0
  simp only [true_or, or_true, false_or, or_false, true_and, and_true, true_implies, false_implies, implies_true, not_true_eq_false, not_false_eq_true, and_self, List.length_cons, List.length_nil, mNoCut_, mCat_n, mCat_I, mCat_L, mCat_R, mIsL_n, mIsL_I, mIsL_R, mIsL_L, Nat.reduceAdd, Nat.reduceSub, Nat.reduceLeDiff, Nat.reduceLT, Nat.reduceEqDiff, Nat.zero_le, Int.reduceEq, Int.reduceLT, Int.reduceLE, Int.reduceNeg, Int.reduceAdd, if_true, if_false, reduceIte, reduceCtorEq, Bool.false_eq_true, ne_eq, qCmp_0, qCmp_1, qCmp_2, qCmp_3, qCmp_4, qCmp_5, ib_0, ib_1, ib_2, lb_0, lb_1, lb_2, dv_0, dv_1, wq_ic, wq_ld_i, wq_ld_a, wq_ib, wq_get, mGet_0, mGet_1, mGet_2, mGet_3, wq_ald, wq_ret0, wq_ret1, wq_ret2, wq_ret3, wq_ret4, ldR0, fk_11_0, mrg_550_, mrg_5_, ldI1, kX11_standOf_0, sk_200, al_200, rf_200_0, sk_201, al_201, sn_201, ald_n, ro0_n, al_ro, mrg, mrl, mSet_ap, ncast, Option.some.injEq]
  (try simp only [mrg, mrl] at *) <;> repeat' (first | assumption | (with_reducible apply And.intro) | intro _)
  all_goals first | omega | exact h
theorem ctrX11_standOf {l : Launch} (hst : l.stackTraces = false) (hT : mTxM l) : mCtr l calX11_standOf spX11_standOf :=
  mMet0 (T := TX11_standOf) (S := SX11_standOf) hst hT (by decide) okX11_standOf ⟨_, _, rfl, rfl⟩ (fun a => mCtr_no) vcX11_standOf

def spX11_puts : mSp := shRII (fun _ i f c I Q => i = some 200 ∧ (0 ≤ f ∧ f < 9) ∧ Q (.inl none) (mSet I 201 (550 + 5 * f) c))
def SX11_puts : Nat → mSp := fun a => match a with
  | _ => fun _ _ _ _ => False
set_option maxRecDepth 100000 in
set_option maxHeartbeats 4000000 in
theorem vcX11_puts (fl : Nat → Bool) (avs : List mV) (I : mM) (Q : mO → mM → Prop) (hsp : spX11_puts fl avs I Q) : mVC0 SX11_puts fl Q kX11_puts 3 avs I := by
  obtain ⟨i, f, c, rfl, h0⟩ := shRII_inv hsp
  refine ⟨rfl, ?_⟩
  show mWp _ _ _ _ _ _ kX11_puts_0 [some (mR i), some (mI f), some (mI c)] [] I
  obtain ⟨rfl, hf, h⟩ := h0
  simp only [true_or, or_true, false_or, or_false, true_and, and_true, true_implies, false_implies, implies_true, not_true_eq_false, not_false_eq_true, and_self, List.length_cons, List.length_nil, mNoCut_, mCat_n, mCat_I, mCat_L, mCat_R, mIsL_n, mIsL_I, mIsL_R, mIsL_L, Nat.reduceAdd, Nat.reduceSub, Nat.reduceLeDiff, Nat.reduceLT, Nat.reduceEqDiff, Nat.zero_le, Int.reduceEq, Int.reduceLT, Int.reduceLE, Int.reduceNeg, Int.reduceAdd, if_true, if_false, reduceIte, reduceCtorEq, Bool.false_eq_true, ne_eq, qCmp_0, qCmp_1, qCmp_2, qCmp_3, qCmp_4, qCmp_5, ib_0, ib_1, ib_2, lb_0, lb_1, lb_2, dv_0, dv_1, wq_ic, wq_ld_i, wq_ld_a, wq_ib, wq_get, mGet_0, mGet_1, mGet_2, mGet_3, wq_astI, wq_astL, wq_ret0, wq_ret1, wq_ret2, wq_ret3, wq_ret4, ldR0, fk_11_0, mrg_550_, mrg_5_, ldI1, ldI2, kX11_puts_0, sk_200, al_200, rf_200_0, sk_201, al_201, sn_201, mrg, mrl, mSet_ap, ncast, Option.some.injEq]
  (try simp only [mrg, mrl] at *) <;> repeat' (first | assumption | (with_reducible apply And.intro) | intro _)
  all_goals first | omega | exact h
theorem ctrX11_puts {l : Launch} (hst : l.stackTraces = false) (hT : mTxM l) : mCtr l calX11_puts spX11_puts :=
  mMet0 (T := TX11_puts) (S := SX11_puts) hst hT (by decide) okX11_puts ⟨_, _, rfl, rfl⟩ (fun a => mCtr_no) vcX11_puts

def spX11_tickAt : mSp := shRIII (fun _ i b h k I Q => i = some 200 ∧ WFt (I 201) ∧ (0 ≤ b ∧ b < 6) ∧ (0 ≤ h ∧ h < 8) ∧ (0 ≤ k ∧ k ≤ stepsT (I 201) b h) ∧ Q (.inl (some (mI (tickT (I 201) b h k)))) I)
def SX11_tickAt : Nat → mSp := fun a => match a with
  | 0 => spX11_raw
  | 1 => spX11_airOf
  | 2 => spX11_cellAt
  | _ => fun _ _ _ _ => False
theorem SX11_tickAt_0 : SX11_tickAt 0 = spX11_raw := Eq.trans rfl rfl
theorem SX11_tickAt_1 : SX11_tickAt 1 = spX11_airOf := Eq.trans rfl rfl
theorem SX11_tickAt_2 : SX11_tickAt 2 = spX11_cellAt := Eq.trans rfl rfl
theorem cutsX11_tickAt {t : Nat} {bs : List Bool} (h : cutX11_tickAt t = some bs) : (t = 6 ∧ bs = [true, true, true, true, true, true]) := by
  unfold cutX11_tickAt at h
  simp only [mLk] at h
  by_cases h0 : 6 = t
  · subst h0
    simp at h
    exact ⟨rfl, h.symm⟩
  rw [if_neg h0] at h
  cases h
set_option maxRecDepth 100000 in
set_option maxHeartbeats 4000000 in
theorem vcX11_tickAt (fl : Nat → Bool) (avs : List mV) (I : mM) (Q : mO → mM → Prop) (hsp : spX11_tickAt fl avs I Q) : mVC SX11_tickAt fl Q kX11_tickAt cutX11_tickAt 6 avs I := by
  obtain ⟨i, b, hh, s, rfl, h0⟩ := shRIII_inv hsp
  obtain ⟨rfl, H, hb, hh1, hs, h⟩ := h0
  have hw := H.way hb hh1
  obtain ⟨hs1, hs2, hs3⟩ := steps_spec H hb hh1
  refine ⟨rfl, (fun n t lv st I1 => I1 = I ∧ st = [] ∧ ∃ v k : Int, lv = [some (mR (some 200)), some (mI b), some (mI hh), some (mI s), some (mI v), some (mI k)] ∧ 1 ≤ k ∧ k ≤ s + 1 ∧ (n : Int) = s + 1 - k ∧ v = tickT (I 201) b hh (k - 1)), ?_, ?_⟩
  · intro n t bs hbs lv st I1 hc
    rcases cutsX11_tickAt hbs with ⟨rfl, rfl⟩
    rw [sfxX11_tickAt_6]
    obtain ⟨rfl, rfl, v, k, rfl, hk1, hk2, hn, hv⟩ := hc
    simp only [true_or, or_true, false_or, or_false, true_and, and_true, true_implies, false_implies, implies_true, not_true_eq_false, not_false_eq_true, and_self, List.length_cons, List.length_nil, mNoCut_, mCat_n, mCat_I, mCat_L, mCat_R, mIsL_n, mIsL_I, mIsL_R, mIsL_L, Nat.reduceAdd, Nat.reduceSub, Nat.reduceLeDiff, Nat.reduceLT, Nat.reduceEqDiff, Nat.zero_le, Int.reduceEq, Int.reduceLT, Int.reduceLE, Int.reduceNeg, Int.reduceAdd, if_true, if_false, reduceIte, reduceCtorEq, Bool.false_eq_true, ne_eq, qCmp_0, qCmp_1, qCmp_2, qCmp_3, qCmp_4, qCmp_5, ib_0, ib_1, ib_2, lb_0, lb_1, lb_2, dv_0, dv_1, wq_ic, wq_ld_i, wq_ld_a, wq_st_i, wq_iinc, wq_ib, wq_icmp, wq_goto, wq_get, mGet_0, mGet_1, mGet_2, mGet_3, wq_ald, wq_ret0, wq_ret1, wq_ret2, wq_ret3, wq_ret4, mrg_0_, stI4, mrg_1_, stI5, ldI5, ldI3, ldI4, ldR0, ldI1, ldI2, wq_callV4_0, wq_callV3_0, fk_11_0, mrg_20_, wqinc5, mPut_s, mPut_I0, mPut_R0, mPut_L0, mPut_I1, mPut_R1, mPut_L1, mGo_n, sfxX11_tickAt_6, cutX11_tickAt_6, sfxX11_tickAt_51, cutX11_tickAt_51, sfxX11_tickAt_52, cutX11_tickAt_52, sfxX11_tickAt_62, cutX11_tickAt_62, wq_cut, mGo_c, mMask_t, mMask_f, mMask_n, kX11_tickAt_62, kX11_tickAt_52, kX11_tickAt_51, kX11_tickAt_6, kX11_tickAt_0, sk_200, al_200, rf_200_0, sk_201, al_201, sn_201, ald_n, ro0_n, al_ro, SX11_tickAt_0, SX11_tickAt_1, SX11_tickAt_2, shqRIII_, shqRII_, spX11_raw, spX11_airOf, spX11_cellAt, mrg, mrl, mSet_ap, ncast, Option.some.injEq]
    have hc := cell_in H hb hh1 (k := k)
    have hr := (H.raw hb hh1).2.1
    have ha9 := H.air hb hh1
    have hts := tick_succ (I1 201) b hh hk1
    refine ⟨⟨⟨by omega, by omega⟩, by omega, by omega⟩, fun hd => ?_, fun hd => ⟨hb, hh1, H, hb, hh1, ⟨⟨by omega, by omega⟩, by omega, by omega⟩, fun ha => ?_, fun ha => ⟨H, hb, hh1, ⟨by omega, by omega⟩, ?_⟩⟩⟩
    · exact q_I (by rw [hv, show k - 1 = s by omega]) h
    · rw [if_neg (by omega)] at hts
      exact ⟨n - 1, by omega, _, _, rfl, by omega, by omega, by omega, by rw [show k + 1 - 1 = k by omega, hts, hv]⟩
    · rw [if_pos (by omega)] at hts
      exact ⟨n - 1, by omega, _, _, rfl, by omega, by omega, by omega, by rw [show k + 1 - 1 = k by omega, hts, hv]⟩
  · show mWp _ _ _ _ _ _ kX11_tickAt_0 [some (mR (some 200)), some (mI b), some (mI hh), some (mI s), none, none] [] I
    simp only [true_or, or_true, false_or, or_false, true_and, and_true, true_implies, false_implies, implies_true, not_true_eq_false, not_false_eq_true, and_self, List.length_cons, List.length_nil, mNoCut_, mCat_n, mCat_I, mCat_L, mCat_R, mIsL_n, mIsL_I, mIsL_R, mIsL_L, Nat.reduceAdd, Nat.reduceSub, Nat.reduceLeDiff, Nat.reduceLT, Nat.reduceEqDiff, Nat.zero_le, Int.reduceEq, Int.reduceLT, Int.reduceLE, Int.reduceNeg, Int.reduceAdd, if_true, if_false, reduceIte, reduceCtorEq, Bool.false_eq_true, ne_eq, qCmp_0, qCmp_1, qCmp_2, qCmp_3, qCmp_4, qCmp_5, ib_0, ib_1, ib_2, lb_0, lb_1, lb_2, dv_0, dv_1, wq_ic, wq_ld_i, wq_ld_a, wq_st_i, wq_iinc, wq_ib, wq_icmp, wq_goto, wq_get, mGet_0, mGet_1, mGet_2, mGet_3, wq_ald, wq_ret0, wq_ret1, wq_ret2, wq_ret3, wq_ret4, mrg_0_, stI4, mrg_1_, stI5, ldI5, ldI3, ldI4, ldR0, ldI1, ldI2, wq_callV4_0, wq_callV3_0, fk_11_0, mrg_20_, wqinc5, mPut_s, mPut_I0, mPut_R0, mPut_L0, mPut_I1, mPut_R1, mPut_L1, mGo_n, sfxX11_tickAt_6, cutX11_tickAt_6, sfxX11_tickAt_51, cutX11_tickAt_51, sfxX11_tickAt_52, cutX11_tickAt_52, sfxX11_tickAt_62, cutX11_tickAt_62, wq_cut, mGo_c, mMask_t, mMask_f, mMask_n, kX11_tickAt_62, kX11_tickAt_52, kX11_tickAt_51, kX11_tickAt_6, kX11_tickAt_0, sk_200, al_200, rf_200_0, sk_201, al_201, sn_201, ald_n, ro0_n, al_ro, SX11_tickAt_0, SX11_tickAt_1, SX11_tickAt_2, shqRIII_, shqRII_, spX11_raw, spX11_airOf, spX11_cellAt, mrg, mrl, mSet_ap, ncast, Option.some.injEq]
    exact ⟨s.toNat, 0, 1, rfl, by omega, by omega, by omega, rfl⟩
theorem ctrX11_tickAt {l : Launch} (hst : l.stackTraces = false) (hT : mTxM l) : mCtr l calX11_tickAt spX11_tickAt :=
  mMet (T := TX11_tickAt) (S := SX11_tickAt) hst hT cutX11_tickAt (by decide) okX11_tickAt ⟨_, _, rfl, rfl⟩ trivial (fun t bs h => by rcases cutsX11_tickAt h with ⟨-, rfl⟩ <;> rfl) (fun a => match a with
    | 0 => ctrX11_raw hst hT
    | 1 => ctrX11_airOf hst hT
    | 2 => ctrX11_cellAt hst hT
    | _ + 3 => mCtr_no) vcX11_tickAt

end SPM3
