section SPC17
def spJ7_fill_53178 : mSp := shRI (fun fl x v I Q => x = some (x.getD 0) ∧ (sk (x.getD 0) = 20 ∧ al fl (x.getD 0) = true) ∧ sn (x.getD 0) ≤ 1000 ∧ Q (.inl none) (copyM I (x.getD 0) 0 (fun _ => v) (sn (x.getD 0))))
def SJ7_fill_53178 : Nat → mSp := fun a => match a with
  | _ => fun _ _ _ _ => False
theorem cutsJ7_fill_53178 {t : Nat} {bs : List Bool} (h : cutJ7_fill_53178 t = some bs) : (t = 5 ∧ bs = [true, true, true, true]) := by
  unfold cutJ7_fill_53178 at h
  simp only [mLk] at h
  by_cases h0 : 5 = t
  · subst h0
    simp at h
    exact ⟨rfl, h.symm⟩
  rw [if_neg h0] at h
  cases h
set_option maxRecDepth 100000 in
set_option maxHeartbeats 1000000 in
theorem vcJ7_fill_53178 (fl : Nat → Bool) (avs : List mV) (I : mM) (Q : mO → mM → Prop) (hsp : spJ7_fill_53178 fl avs I Q) : mVC SJ7_fill_53178 fl Q kJ7_fill_53178 cutJ7_fill_53178 4 avs I := by
  obtain ⟨x, v, rfl, h0⟩ := shRI_inv hsp
  obtain ⟨hx, h1, h3, h⟩ := h0
  obtain ⟨a, rfl⟩ : ∃ a, x = some a := ⟨_, hx⟩
  simp only [Option.getD_some] at *
  have k1 := h1.1
  have k2 := h1.2
  have k5 : mRo0 a = none := al_ro h1.2
  refine ⟨rfl, (fun m pc lv st I1 => st = [] ∧ ∃ j : Nat, lv = [some (mR (some a)), some (mI v), some (mI j), some (mI (sn a))] ∧ j ≤ sn a ∧ m = sn a - j ∧ I1 = copyM I a 0 (fun _ => v) j), ?_, ?_⟩
  · intro n t bs hbs lv st I1 hc
    rcases cutsJ7_fill_53178 hbs with ⟨rfl, rfl⟩
    rw [sfxJ7_fill_53178_5]
    obtain ⟨rfl, j, rfl, hj, hm, rfl⟩ := hc
    have em := copyM_s I a 0 (fun _ => v) (n := j) (v := v) (by omega) rfl
    rw [Int.zero_add] at em
    simp only [false_and, and_false, true_or, or_true, false_or, or_false, true_and, and_true, true_implies, false_implies, implies_true, not_true_eq_false, not_false_eq_true, and_self, List.length_cons, List.length_nil, mNoCut_, mCat_n, mCat_I, mCat_L, mCat_R, mIsL_n, mIsL_I, mIsL_R, mIsL_L, Nat.reduceAdd, Nat.reduceSub, Nat.reduceLeDiff, Nat.reduceLT, Nat.reduceEqDiff, Nat.zero_le, Int.reduceEq, Int.reduceLT, Int.reduceLE, Int.reduceNeg, Int.reduceAdd, if_true, if_false, reduceIte, reduceCtorEq, Bool.false_eq_true, ne_eq, qCmp_0, qCmp_1, qCmp_2, qCmp_3, qCmp_4, qCmp_5, ib_0, ib_1, ib_2, lb_0, lb_1, lb_2, dv_0, dv_1, wq_ic, wq_ld_i, wq_ld_a, wq_st_i, wq_iinc, wq_icmp, wq_goto, wq_astI, wq_astL, wq_len, wq_ret0, wq_ret1, wq_ret2, wq_ret3, wq_ret4, mrg_0_, stI2, ldR0, stI3, ldI2, ldI3, ldI1, wqinc2, mPut_s, mPut_I0, mPut_R0, mPut_L0, mPut_I1, mPut_R1, mPut_L1, mGo_n, sfxJ7_fill_53178_5, cutJ7_fill_53178_5, sfxJ7_fill_53178_20, cutJ7_fill_53178_20, wq_cut, mGo_c, mMask_t, mMask_f, mMask_n, kJ7_fill_53178_20, kJ7_fill_53178_5, kJ7_fill_53178_0, len_n, ro0_n, mrg, mrl, mSet_ap, ncast, Option.some.injEq, k1, k2, k5, em]
    (try simp only [mrg, mrl] at *) <;> repeat' (first | (with_reducible assumption) | (with_reducible apply And.intro) | intro _)
    all_goals first | omega | exact ⟨sn a - (j + 1), by omega, j + 1, rfl, by omega, rfl, rfl⟩ | (have e : j = sn a := by omega); subst e; exact h | skip
  · show mWp _ _ _ _ _ _ kJ7_fill_53178_0 [some (mR (some a)), some (mI v), none, none] [] I
    simp only [false_and, and_false, true_or, or_true, false_or, or_false, true_and, and_true, true_implies, false_implies, implies_true, not_true_eq_false, not_false_eq_true, and_self, List.length_cons, List.length_nil, mNoCut_, mCat_n, mCat_I, mCat_L, mCat_R, mIsL_n, mIsL_I, mIsL_R, mIsL_L, Nat.reduceAdd, Nat.reduceSub, Nat.reduceLeDiff, Nat.reduceLT, Nat.reduceEqDiff, Nat.zero_le, Int.reduceEq, Int.reduceLT, Int.reduceLE, Int.reduceNeg, Int.reduceAdd, if_true, if_false, reduceIte, reduceCtorEq, Bool.false_eq_true, ne_eq, qCmp_0, qCmp_1, qCmp_2, qCmp_3, qCmp_4, qCmp_5, ib_0, ib_1, ib_2, lb_0, lb_1, lb_2, dv_0, dv_1, wq_ic, wq_ld_i, wq_ld_a, wq_st_i, wq_iinc, wq_icmp, wq_goto, wq_astI, wq_astL, wq_len, wq_ret0, wq_ret1, wq_ret2, wq_ret3, wq_ret4, mrg_0_, stI2, ldR0, stI3, ldI2, ldI3, ldI1, wqinc2, mPut_s, mPut_I0, mPut_R0, mPut_L0, mPut_I1, mPut_R1, mPut_L1, mGo_n, sfxJ7_fill_53178_5, cutJ7_fill_53178_5, sfxJ7_fill_53178_20, cutJ7_fill_53178_20, wq_cut, mGo_c, mMask_t, mMask_f, mMask_n, kJ7_fill_53178_20, kJ7_fill_53178_5, kJ7_fill_53178_0, len_n, ro0_n, mrg, mrl, mSet_ap, ncast, Option.some.injEq, k1, k2, k5]
    (try simp only [mrg, mrl] at *) <;> repeat' (first | (with_reducible assumption) | (with_reducible apply And.intro) | intro _)
    all_goals first | omega | exact ⟨sn a, 0, rfl, by omega, rfl, (copyM_0 _ _ _ _).symm⟩ | skip
theorem ctrJ7_fill_53178 {l : Launch} (hst : l.stackTraces = false) (hT : mTxM l) : mCtr l calJ7_fill_53178 spJ7_fill_53178 :=
  mMet (T := TJ7_fill_53178) (S := SJ7_fill_53178) hst hT cutJ7_fill_53178 (by decide) okJ7_fill_53178 ⟨_, _, rfl, rfl⟩ trivial (fun t bs h => by rcases cutsJ7_fill_53178 h with ⟨-, rfl⟩ <;> rfl) (fun a => mCtr_no) vcJ7_fill_53178

def spJ7_fill_d0a16 : mSp := shRL (fun fl x v I Q => x = some (x.getD 0) ∧ (sk (x.getD 0) = 23 ∧ al fl (x.getD 0) = true) ∧ sn (x.getD 0) ≤ 1000 ∧ Q (.inl none) (copyM I (x.getD 0) 0 (fun _ => v) (sn (x.getD 0))))
def SJ7_fill_d0a16 : Nat → mSp := fun a => match a with
  | _ => fun _ _ _ _ => False
theorem cutsJ7_fill_d0a16 {t : Nat} {bs : List Bool} (h : cutJ7_fill_d0a16 t = some bs) : (t = 6 ∧ bs = [true, true, false, true, true]) := by
  unfold cutJ7_fill_d0a16 at h
  simp only [mLk] at h
  by_cases h0 : 6 = t
  · subst h0
    simp at h
    exact ⟨rfl, h.symm⟩
  rw [if_neg h0] at h
  cases h
set_option maxRecDepth 100000 in
set_option maxHeartbeats 1000000 in
theorem vcJ7_fill_d0a16 (fl : Nat → Bool) (avs : List mV) (I : mM) (Q : mO → mM → Prop) (hsp : spJ7_fill_d0a16 fl avs I Q) : mVC SJ7_fill_d0a16 fl Q kJ7_fill_d0a16 cutJ7_fill_d0a16 5 avs I := by
  obtain ⟨x, v, rfl, h0⟩ := shRL_inv hsp
  obtain ⟨hx, h1, h3, h⟩ := h0
  obtain ⟨a, rfl⟩ : ∃ a, x = some a := ⟨_, hx⟩
  simp only [Option.getD_some] at *
  have k1 := h1.1
  have k2 := h1.2
  have k5 : mRo0 a = none := al_ro h1.2
  refine ⟨rfl, (fun m pc lv st I1 => st = [] ∧ ∃ j : Nat, lv = [some (mR (some a)), some (mL v), none, some (mI j), some (mI (sn a))] ∧ j ≤ sn a ∧ m = sn a - j ∧ I1 = copyM I a 0 (fun _ => v) j), ?_, ?_⟩
  · intro n t bs hbs lv st I1 hc
    rcases cutsJ7_fill_d0a16 hbs with ⟨rfl, rfl⟩
    rw [sfxJ7_fill_d0a16_6]
    obtain ⟨rfl, j, rfl, hj, hm, rfl⟩ := hc
    have em := copyM_s I a 0 (fun _ => v) (n := j) (v := v) (by omega) rfl
    rw [Int.zero_add] at em
    simp only [false_and, and_false, true_or, or_true, false_or, or_false, true_and, and_true, true_implies, false_implies, implies_true, not_true_eq_false, not_false_eq_true, and_self, List.length_cons, List.length_nil, mNoCut_, mCat_n, mCat_I, mCat_L, mCat_R, mIsL_n, mIsL_I, mIsL_R, mIsL_L, Nat.reduceAdd, Nat.reduceSub, Nat.reduceLeDiff, Nat.reduceLT, Nat.reduceEqDiff, Nat.zero_le, Int.reduceEq, Int.reduceLT, Int.reduceLE, Int.reduceNeg, Int.reduceAdd, if_true, if_false, reduceIte, reduceCtorEq, Bool.false_eq_true, ne_eq, qCmp_0, qCmp_1, qCmp_2, qCmp_3, qCmp_4, qCmp_5, ib_0, ib_1, ib_2, lb_0, lb_1, lb_2, dv_0, dv_1, wq_ic, wq_ld_i, wq_ld_l, wq_ld_a, wq_st_i, wq_iinc, wq_icmp, wq_goto, wq_astI, wq_astL, wq_len, wq_ret0, wq_ret1, wq_ret2, wq_ret3, wq_ret4, mrg_0_, stI3, ldR0, stI4, ldI3, ldI4, ldL1, wqinc3, mPut_s, mPut_I0, mPut_R0, mPut_L0, mPut_I1, mPut_R1, mPut_L1, mGo_n, sfxJ7_fill_d0a16_6, cutJ7_fill_d0a16_6, sfxJ7_fill_d0a16_22, cutJ7_fill_d0a16_22, wq_cut, mGo_c, mMask_t, mMask_f, mMask_n, kJ7_fill_d0a16_22, kJ7_fill_d0a16_6, kJ7_fill_d0a16_0, len_n, ro0_n, mrg, mrl, mSet_ap, ncast, Option.some.injEq, k1, k2, k5, em]
    (try simp only [mrg, mrl] at *) <;> repeat' (first | (with_reducible assumption) | (with_reducible apply And.intro) | intro _)
    all_goals first | omega | exact ⟨sn a - (j + 1), by omega, j + 1, rfl, by omega, rfl, rfl⟩ | (have e : j = sn a := by omega); subst e; exact h | skip
  · show mWp _ _ _ _ _ _ kJ7_fill_d0a16_0 [some (mR (some a)), some (mL v), none, none, none] [] I
    simp only [false_and, and_false, true_or, or_true, false_or, or_false, true_and, and_true, true_implies, false_implies, implies_true, not_true_eq_false, not_false_eq_true, and_self, List.length_cons, List.length_nil, mNoCut_, mCat_n, mCat_I, mCat_L, mCat_R, mIsL_n, mIsL_I, mIsL_R, mIsL_L, Nat.reduceAdd, Nat.reduceSub, Nat.reduceLeDiff, Nat.reduceLT, Nat.reduceEqDiff, Nat.zero_le, Int.reduceEq, Int.reduceLT, Int.reduceLE, Int.reduceNeg, Int.reduceAdd, if_true, if_false, reduceIte, reduceCtorEq, Bool.false_eq_true, ne_eq, qCmp_0, qCmp_1, qCmp_2, qCmp_3, qCmp_4, qCmp_5, ib_0, ib_1, ib_2, lb_0, lb_1, lb_2, dv_0, dv_1, wq_ic, wq_ld_i, wq_ld_l, wq_ld_a, wq_st_i, wq_iinc, wq_icmp, wq_goto, wq_astI, wq_astL, wq_len, wq_ret0, wq_ret1, wq_ret2, wq_ret3, wq_ret4, mrg_0_, stI3, ldR0, stI4, ldI3, ldI4, ldL1, wqinc3, mPut_s, mPut_I0, mPut_R0, mPut_L0, mPut_I1, mPut_R1, mPut_L1, mGo_n, sfxJ7_fill_d0a16_6, cutJ7_fill_d0a16_6, sfxJ7_fill_d0a16_22, cutJ7_fill_d0a16_22, wq_cut, mGo_c, mMask_t, mMask_f, mMask_n, kJ7_fill_d0a16_22, kJ7_fill_d0a16_6, kJ7_fill_d0a16_0, len_n, ro0_n, mrg, mrl, mSet_ap, ncast, Option.some.injEq, k1, k2, k5]
    (try simp only [mrg, mrl] at *) <;> repeat' (first | (with_reducible assumption) | (with_reducible apply And.intro) | intro _)
    all_goals first | omega | exact ⟨sn a, 0, rfl, by omega, rfl, (copyM_0 _ _ _ _).symm⟩ | skip
theorem ctrJ7_fill_d0a16 {l : Launch} (hst : l.stackTraces = false) (hT : mTxM l) : mCtr l calJ7_fill_d0a16 spJ7_fill_d0a16 :=
  mMet (T := TJ7_fill_d0a16) (S := SJ7_fill_d0a16) hst hT cutJ7_fill_d0a16 (by decide) okJ7_fill_d0a16 ⟨_, _, rfl, rfl⟩ trivial (fun t bs h => by rcases cutsJ7_fill_d0a16 h with ⟨-, rfl⟩ <;> rfl) (fun a => mCtr_no) vcJ7_fill_d0a16

def spX6_leave : mSp := shR (fun _ i I Q => i = some 12 ∧ Q (.inl none) (mSet (copyM I 20 0 (fun _ => -1) 9) 12 6 0))
def SX6_leave : Nat → mSp := fun a => match a with
  | 0 => spJ7_fill_53178
  | _ => fun _ _ _ _ => False
theorem SX6_leave_0 : SX6_leave 0 = spJ7_fill_53178 := Eq.trans rfl rfl
set_option maxRecDepth 100000 in
set_option maxHeartbeats 1000000 in
theorem vcX6_leave (fl : Nat → Bool) (avs : List mV) (I : mM) (Q : mO → mM → Prop) (hsp : spX6_leave fl avs I Q) : mVC0 SX6_leave fl Q kX6_leave 1 avs I := by
  obtain ⟨i, rfl, h0⟩ := shR_inv hsp
  refine ⟨rfl, ?_⟩
  show mWp _ _ _ _ _ _ kX6_leave_0 [some (mR i)] [] I
  obtain ⟨rfl, h⟩ := h0
  simp only [false_and, and_false, true_or, or_true, false_or, or_false, true_and, and_true, true_implies, false_implies, implies_true, not_true_eq_false, not_false_eq_true, and_self, List.length_cons, List.length_nil, mNoCut_, mCat_n, mCat_I, mCat_L, mCat_R, mIsL_n, mIsL_I, mIsL_R, mIsL_L, Nat.reduceAdd, Nat.reduceSub, Nat.reduceLeDiff, Nat.reduceLT, Nat.reduceEqDiff, Nat.zero_le, Int.reduceEq, Int.reduceLT, Int.reduceLE, Int.reduceNeg, Int.reduceAdd, if_true, if_false, reduceIte, reduceCtorEq, Bool.false_eq_true, ne_eq, qCmp_0, qCmp_1, qCmp_2, qCmp_3, qCmp_4, qCmp_5, ib_0, ib_1, ib_2, lb_0, lb_1, lb_2, dv_0, dv_1, wq_ic, wq_ld_a, wq_get, mGet_0, mGet_1, mGet_2, mGet_3, wq_putI, wq_putL, wq_ret0, wq_ret1, wq_ret2, wq_ret3, wq_ret4, ldR0, fk_6_0, mrg_m1_, wq_callS2_1, mrg_0_, fk_6_6, kX6_leave_0, sk_12, al_12, rf_12_0, sk_20, al_20, sn_20, SX6_leave_0, shqRI_, spJ7_fill_53178, mrg, mrl, mSet_ap, ncast, Option.some.injEq, Option.getD_some]
  (try simp only [mrg, mrl] at *) <;> repeat' (first | (with_reducible assumption) | (with_reducible apply And.intro) | intro _)
  all_goals first | omega | exact h | skip
theorem ctrX6_leave {l : Launch} (hst : l.stackTraces = false) (hT : mTxM l) : mCtr l calX6_leave spX6_leave :=
  mMet0 (T := TX6_leave) (S := SX6_leave) hst hT (by decide) okX6_leave ⟨_, _, rfl, rfl⟩ (fun a => match a with
    | 0 => ctrJ7_fill_53178 hst hT
    | _ + 1 => mCtr_no) vcX6_leave

def spX1_forget : mSp := shR (fun _ i I Q => i = some 13 ∧ Q (.inl none) (copyM (copyM I 26 0 (fun _ => 0) 48) 27 0 (fun _ => 0) 4))
def SX1_forget : Nat → mSp := fun a => match a with
  | 0 => spJ7_fill_53178
  | _ => fun _ _ _ _ => False
theorem SX1_forget_0 : SX1_forget 0 = spJ7_fill_53178 := Eq.trans rfl rfl
set_option maxRecDepth 100000 in
set_option maxHeartbeats 1000000 in
theorem vcX1_forget (fl : Nat → Bool) (avs : List mV) (I : mM) (Q : mO → mM → Prop) (hsp : spX1_forget fl avs I Q) : mVC0 SX1_forget fl Q kX1_forget 1 avs I := by
  obtain ⟨i, rfl, h0⟩ := shR_inv hsp
  refine ⟨rfl, ?_⟩
  show mWp _ _ _ _ _ _ kX1_forget_0 [some (mR i)] [] I
  obtain ⟨rfl, h⟩ := h0
  simp only [false_and, and_false, true_or, or_true, false_or, or_false, true_and, and_true, true_implies, false_implies, implies_true, not_true_eq_false, not_false_eq_true, and_self, List.length_cons, List.length_nil, mNoCut_, mCat_n, mCat_I, mCat_L, mCat_R, mIsL_n, mIsL_I, mIsL_R, mIsL_L, Nat.reduceAdd, Nat.reduceSub, Nat.reduceLeDiff, Nat.reduceLT, Nat.reduceEqDiff, Nat.zero_le, Int.reduceEq, Int.reduceLT, Int.reduceLE, Int.reduceNeg, Int.reduceAdd, if_true, if_false, reduceIte, reduceCtorEq, Bool.false_eq_true, ne_eq, qCmp_0, qCmp_1, qCmp_2, qCmp_3, qCmp_4, qCmp_5, ib_0, ib_1, ib_2, lb_0, lb_1, lb_2, dv_0, dv_1, wq_ic, wq_ld_a, wq_get, mGet_0, mGet_1, mGet_2, mGet_3, wq_ret0, wq_ret1, wq_ret2, wq_ret3, wq_ret4, ldR0, fk_1_3, mrg_0_, wq_callS2_1, fk_1_4, kX1_forget_0, sk_13, al_13, rf_13_3, sk_26, al_26, sn_26, rf_13_4, sk_27, al_27, sn_27, SX1_forget_0, shqRI_, spJ7_fill_53178, mrg, mrl, mSet_ap, ncast, Option.some.injEq, Option.getD_some]
  (try simp only [mrg, mrl] at *) <;> repeat' (first | (with_reducible assumption) | (with_reducible apply And.intro) | intro _)
  all_goals first | omega | exact h | skip
theorem ctrX1_forget {l : Launch} (hst : l.stackTraces = false) (hT : mTxM l) : mCtr l calX1_forget spX1_forget :=
  mMet0 (T := TX1_forget) (S := SX1_forget) hst hT (by decide) okX1_forget ⟨_, _, rfl, rfl⟩ (fun a => match a with
    | 0 => ctrJ7_fill_53178 hst hT
    | _ + 1 => mCtr_no) vcX1_forget

def spX3_clear : mSp := shR (fun _ i I Q => i = some 102 ∧ Q (.inl none) (copyM (copyM (mSet (mSet (mSet (mSet (mSet (mSet I 102 0 0) 102 1 8) 102 2 9) 102 3 20) 102 4 9) 102 5 1) 105 0 (fun _ => 0) 289) 106 0 (fun _ => 0) 6))
def SX3_clear : Nat → mSp := fun a => match a with
  | 0 => spJ7_fill_53178
  | _ => fun _ _ _ _ => False
theorem SX3_clear_0 : SX3_clear 0 = spJ7_fill_53178 := Eq.trans rfl rfl
set_option maxRecDepth 100000 in
set_option maxHeartbeats 1000000 in
theorem vcX3_clear (fl : Nat → Bool) (avs : List mV) (I : mM) (Q : mO → mM → Prop) (hsp : spX3_clear fl avs I Q) : mVC0 SX3_clear fl Q kX3_clear 1 avs I := by
  obtain ⟨i, rfl, h0⟩ := shR_inv hsp
  refine ⟨rfl, ?_⟩
  show mWp _ _ _ _ _ _ kX3_clear_0 [some (mR i)] [] I
  obtain ⟨rfl, h⟩ := h0
  simp only [false_and, and_false, true_or, or_true, false_or, or_false, true_and, and_true, true_implies, false_implies, implies_true, not_true_eq_false, not_false_eq_true, and_self, List.length_cons, List.length_nil, mNoCut_, mCat_n, mCat_I, mCat_L, mCat_R, mIsL_n, mIsL_I, mIsL_R, mIsL_L, Nat.reduceAdd, Nat.reduceSub, Nat.reduceLeDiff, Nat.reduceLT, Nat.reduceEqDiff, Nat.zero_le, Int.reduceEq, Int.reduceLT, Int.reduceLE, Int.reduceNeg, Int.reduceAdd, if_true, if_false, reduceIte, reduceCtorEq, Bool.false_eq_true, ne_eq, qCmp_0, qCmp_1, qCmp_2, qCmp_3, qCmp_4, qCmp_5, ib_0, ib_1, ib_2, lb_0, lb_1, lb_2, dv_0, dv_1, wq_ic, wq_ld_a, wq_get, mGet_0, mGet_1, mGet_2, mGet_3, wq_putI, wq_putL, wq_ret0, wq_ret1, wq_ret2, wq_ret3, wq_ret4, ldR0, mrg_0_, fk_3_0, mrg_8_, fk_3_1, mrg_9_, fk_3_2, mrg_20_, fk_3_3, fk_3_4, mrg_1_, fk_3_5, fk_3_6, wq_callS2_1, fk_3_7, kX3_clear_0, sk_11, al_11, rf_11_6, sk_14, al_14, sn_14, rf_11_7, sk_15, al_15, sn_15, sk_102, al_102, rf_102_6, sk_105, al_105, sn_105, rf_102_7, sk_106, al_106, sn_106, SX3_clear_0, shqRI_, spJ7_fill_53178, mrg, mrl, mSet_ap, ncast, Option.some.injEq, Option.getD_some]
  (try simp only [mrg, mrl] at *) <;> repeat' (first | (with_reducible assumption) | (with_reducible apply And.intro) | intro _)
  all_goals first | omega | exact h | skip
theorem ctrX3_clear {l : Launch} (hst : l.stackTraces = false) (hT : mTxM l) : mCtr l calX3_clear spX3_clear :=
  mMet0 (T := TX3_clear) (S := SX3_clear) hst hT (by decide) okX3_clear ⟨_, _, rfl, rfl⟩ (fun a => match a with
    | 0 => ctrJ7_fill_53178 hst hT
    | _ + 1 => mCtr_no) vcX3_clear

def spX6_manyThere : mSp := shR (fun _ i I Q => i = some 12 ∧ stB (I 20) ∧ ∃ t : Int → Int, (∀ f : Int, 0 ≤ f → f < 9 → I 20 f = stT t f) ∧ Q (.inl (some (mI (cntN t 9)))) I)
def SX6_manyThere : Nat → mSp := fun a => match a with
  | _ => fun _ _ _ _ => False
theorem cutsX6_manyThere {t : Nat} {bs : List Bool} (h : cutX6_manyThere t = some bs) : (t = 4 ∧ bs = [true, true, true]) := by
  unfold cutX6_manyThere at h
  simp only [mLk] at h
  by_cases h0 : 4 = t
  · subst h0
    simp at h
    exact ⟨rfl, h.symm⟩
  rw [if_neg h0] at h
  cases h
set_option maxRecDepth 100000 in
set_option maxHeartbeats 1000000 in
theorem vcX6_manyThere (fl : Nat → Bool) (avs : List mV) (I : mM) (Q : mO → mM → Prop) (hsp : spX6_manyThere fl avs I Q) : mVC SX6_manyThere fl Q kX6_manyThere cutX6_manyThere 3 avs I := by
  obtain ⟨i, rfl, h0⟩ := shR_inv hsp
  obtain ⟨rfl, hB, t, ht, h⟩ := h0
  refine ⟨rfl, (fun m pc lv st I1 => st = [] ∧ I1 = I ∧ ∃ (j : Nat), lv = [some (mR (some 12)), some (mI (cntN t j)), some (mI j)] ∧ j ≤ 9 ∧ m = 9 - j), ?_, ?_⟩
  · intro n t bs hbs lv st I1 hc
    rcases cutsX6_manyThere hbs with ⟨rfl, rfl⟩
    rw [sfxX6_manyThere_4]
    obtain ⟨rfl, rfl, j, rfl, hj, hm⟩ := hc
    have cs : cntN t (j + 1) = cntN t j + if stT t j = -1 then 0 else 1 := rfl
    rcases Nat.lt_or_ge j 9 with z | z
    · have b := hB j (by omega) (by omega)
      have e := ht j (by omega) (by omega)
      clear h
      simp only [false_and, and_false, true_or, or_true, false_or, or_false, true_and, and_true, true_implies, false_implies, implies_true, not_true_eq_false, not_false_eq_true, and_self, List.length_cons, List.length_nil, mNoCut_, mCat_n, mCat_I, mCat_L, mCat_R, mIsL_n, mIsL_I, mIsL_R, mIsL_L, Nat.reduceAdd, Nat.reduceSub, Nat.reduceLeDiff, Nat.reduceLT, Nat.reduceEqDiff, Nat.zero_le, Int.reduceEq, Int.reduceLT, Int.reduceLE, Int.reduceNeg, Int.reduceAdd, if_true, if_false, reduceIte, reduceCtorEq, Bool.false_eq_true, ne_eq, qCmp_0, qCmp_1, qCmp_2, qCmp_3, qCmp_4, qCmp_5, ib_0, ib_1, ib_2, lb_0, lb_1, lb_2, dv_0, dv_1, wq_ic, wq_ld_i, wq_ld_a, wq_st_i, wq_iinc, wq_ib, wq_icmp, wq_goto, wq_get, mGet_0, mGet_1, mGet_2, mGet_3, wq_ald, wq_ret0, wq_ret1, wq_ret2, wq_ret3, wq_ret4, mrg_0_, stI1, stI2, ldI2, mrg_9_, ldI1, ldR0, fk_6_0, mrg_m1_, mrg_1_, wqinc2, mPut_s, mPut_I0, mPut_R0, mPut_L0, mPut_I1, mPut_R1, mPut_L1, mGo_n, sfxX6_manyThere_4, cutX6_manyThere_4, sfxX6_manyThere_25, cutX6_manyThere_25, sfxX6_manyThere_26, cutX6_manyThere_26, sfxX6_manyThere_34, cutX6_manyThere_34, wq_cut, mGo_c, mMask_t, mMask_f, mMask_n, kX6_manyThere_34, kX6_manyThere_26, kX6_manyThere_25, kX6_manyThere_4, kX6_manyThere_0, sk_12, al_12, rf_12_0, sk_20, al_20, sn_20, ald_n, ro0_n, al_ro, mrg, mrl, mSet_ap, ncast, Option.some.injEq]
      (try simp only [mrg, mrl] at *) <;> repeat' (first | (with_reducible assumption) | (with_reducible apply And.intro) | intro _)
      all_goals first | omega | exact ⟨9 - (j + 1), by omega, j + 1, by rw [cs, if_pos (by omega)]; rfl, by omega, rfl⟩ | exact ⟨9 - (j + 1), by omega, j + 1, by rw [cs, if_neg (by omega)]; rfl, by omega, rfl⟩ | skip
    · have e : j = 9 := by omega
      subst e
      simp only [false_and, and_false, true_or, or_true, false_or, or_false, true_and, and_true, true_implies, false_implies, implies_true, not_true_eq_false, not_false_eq_true, and_self, List.length_cons, List.length_nil, mNoCut_, mCat_n, mCat_I, mCat_L, mCat_R, mIsL_n, mIsL_I, mIsL_R, mIsL_L, Nat.reduceAdd, Nat.reduceSub, Nat.reduceLeDiff, Nat.reduceLT, Nat.reduceEqDiff, Nat.zero_le, Int.reduceEq, Int.reduceLT, Int.reduceLE, Int.reduceNeg, Int.reduceAdd, if_true, if_false, reduceIte, reduceCtorEq, Bool.false_eq_true, ne_eq, qCmp_0, qCmp_1, qCmp_2, qCmp_3, qCmp_4, qCmp_5, ib_0, ib_1, ib_2, lb_0, lb_1, lb_2, dv_0, dv_1, wq_ic, wq_ld_i, wq_ld_a, wq_st_i, wq_iinc, wq_ib, wq_icmp, wq_goto, wq_get, mGet_0, mGet_1, mGet_2, mGet_3, wq_ald, wq_ret0, wq_ret1, wq_ret2, wq_ret3, wq_ret4, mrg_0_, stI1, stI2, ldI2, mrg_9_, ldI1, ldR0, fk_6_0, mrg_m1_, mrg_1_, wqinc2, mPut_s, mPut_I0, mPut_R0, mPut_L0, mPut_I1, mPut_R1, mPut_L1, mGo_n, sfxX6_manyThere_4, cutX6_manyThere_4, sfxX6_manyThere_25, cutX6_manyThere_25, sfxX6_manyThere_26, cutX6_manyThere_26, sfxX6_manyThere_34, cutX6_manyThere_34, wq_cut, mGo_c, mMask_t, mMask_f, mMask_n, kX6_manyThere_34, kX6_manyThere_26, kX6_manyThere_25, kX6_manyThere_4, kX6_manyThere_0, sk_12, al_12, rf_12_0, sk_20, al_20, sn_20, ald_n, ro0_n, al_ro, mrg, mrl, mSet_ap, ncast, Option.some.injEq]
      (try simp only [mrg, mrl] at *) <;> repeat' (first | (with_reducible assumption) | (with_reducible apply And.intro) | intro _)
      all_goals first | omega | exact h | skip
  · show mWp _ _ _ _ _ _ kX6_manyThere_0 [some (mR (some 12)), none, none] [] I
    simp only [false_and, and_false, true_or, or_true, false_or, or_false, true_and, and_true, true_implies, false_implies, implies_true, not_true_eq_false, not_false_eq_true, and_self, List.length_cons, List.length_nil, mNoCut_, mCat_n, mCat_I, mCat_L, mCat_R, mIsL_n, mIsL_I, mIsL_R, mIsL_L, Nat.reduceAdd, Nat.reduceSub, Nat.reduceLeDiff, Nat.reduceLT, Nat.reduceEqDiff, Nat.zero_le, Int.reduceEq, Int.reduceLT, Int.reduceLE, Int.reduceNeg, Int.reduceAdd, if_true, if_false, reduceIte, reduceCtorEq, Bool.false_eq_true, ne_eq, qCmp_0, qCmp_1, qCmp_2, qCmp_3, qCmp_4, qCmp_5, ib_0, ib_1, ib_2, lb_0, lb_1, lb_2, dv_0, dv_1, wq_ic, wq_ld_i, wq_ld_a, wq_st_i, wq_iinc, wq_ib, wq_icmp, wq_goto, wq_get, mGet_0, mGet_1, mGet_2, mGet_3, wq_ald, wq_ret0, wq_ret1, wq_ret2, wq_ret3, wq_ret4, mrg_0_, stI1, stI2, ldI2, mrg_9_, ldI1, ldR0, fk_6_0, mrg_m1_, mrg_1_, wqinc2, mPut_s, mPut_I0, mPut_R0, mPut_L0, mPut_I1, mPut_R1, mPut_L1, mGo_n, sfxX6_manyThere_4, cutX6_manyThere_4, sfxX6_manyThere_25, cutX6_manyThere_25, sfxX6_manyThere_26, cutX6_manyThere_26, sfxX6_manyThere_34, cutX6_manyThere_34, wq_cut, mGo_c, mMask_t, mMask_f, mMask_n, kX6_manyThere_34, kX6_manyThere_26, kX6_manyThere_25, kX6_manyThere_4, kX6_manyThere_0, sk_12, al_12, rf_12_0, sk_20, al_20, sn_20, ald_n, ro0_n, al_ro, mrg, mrl, mSet_ap, ncast, Option.some.injEq]
    exact ⟨9, 0, rfl, by omega, rfl⟩
theorem ctrX6_manyThere {l : Launch} (hst : l.stackTraces = false) (hT : mTxM l) : mCtr l calX6_manyThere spX6_manyThere :=
  mMet (T := TX6_manyThere) (S := SX6_manyThere) hst hT cutX6_manyThere (by decide) okX6_manyThere ⟨_, _, rfl, rfl⟩ trivial (fun t bs h => by rcases cutsX6_manyThere h with ⟨-, rfl⟩ <;> rfl) (fun a => mCtr_no) vcX6_manyThere

def spX10_count : mSp := shRI (fun _ i w I Q => i = some 0 ∧ clsI I ∧ mrg w ∧ (0 ≤ w ∧ w ≤ 5 → Q (.inl (some (mI (I 201 w)))) I) ∧ (100 ≤ w ∧ w < 389 → Q (.inl (some (mI (I 201 (20 + w - 100))))) I) ∧ (w = 6 → Q (.inl (some (mI (cntN (I 201) 9)))) I) ∧ (w = 7 → Q (.inl (some (mI (I 100 1)))) I) ∧ (w = 8 → Q (.inl (some (mI (I 201 6)))) I) ∧ (w = 9 → Q (.inl (some (mI (I 201 7)))) I) ∧ (w = 10 → Q (.inl (some (mI (I 201 8)))) I) ∧ (w = 11 → Q (.inl (some (mI (bitN (I 201) 4)))) I) ∧ (¬ (0 ≤ w ∧ w ≤ 11) ∧ ¬ (100 ≤ w ∧ w < 389) → Q (.inl (some (mI (-1)))) I))
def SX10_count : Nat → mSp := fun a => match a with
  | 0 => spX6_manyThere
  | _ => fun _ _ _ _ => False
theorem SX10_count_0 : SX10_count 0 = spX6_manyThere := Eq.trans rfl rfl
set_option maxRecDepth 100000 in
set_option maxHeartbeats 4000000 in
theorem vcX10_count (fl : Nat → Bool) (avs : List mV) (I : mM) (Q : mO → mM → Prop) (hsp : spX10_count fl avs I Q) : mVC0 SX10_count fl Q kX10_count 2 avs I := by
  obtain ⟨i, w, rfl, h0⟩ := shRI_inv hsp
  refine ⟨rfl, ?_⟩
  show mWp _ _ _ _ _ _ kX10_count_0 [some (mR i), some (mI w)] [] I
  obtain ⟨rfl, H, rw', h1, h2, h3, h4, h5, h6, h7, h8, h9⟩ := h0
  have g0 := H.2.1.1 0 (by omega) (by omega)
  have g1 := H.2.1.1 1 (by omega) (by omega)
  have g2 := H.2.1.1 2 (by omega) (by omega)
  have g3 := H.2.1.1 3 (by omega) (by omega)
  have g4 := H.2.1.1 4 (by omega) (by omega)
  have g5 := H.2.1.1 5 (by omega) (by omega)
  have e6 : I 12 6 = bitN (I 201) 4 := H.2.2.1.2.2
  have d0 : I 13 0 = I 201 6 := H.2.2.2.1
  have d1 : I 13 1 = I 201 7 := H.2.2.2.2.1
  have d2 : I 13 2 = I 201 8 := H.2.2.2.2.2.1
  have c8 := H.1.1.2.2.2.2.2.2.2.2
  have hB := H.b20
  have k0 : ∀ _ : Unit, w = 0 → Q (.inl (some (mI (I 201 0)))) I := fun _ e => by subst e; exact h1 (by omega)
  have k1 : ∀ _ : Unit, w = 1 → Q (.inl (some (mI (I 201 1)))) I := fun _ e => by subst e; exact h1 (by omega)
  have k2 : ∀ _ : Unit, w = 2 → Q (.inl (some (mI (I 201 2)))) I := fun _ e => by subst e; exact h1 (by omega)
  have k3 : ∀ _ : Unit, w = 3 → Q (.inl (some (mI (I 201 3)))) I := fun _ e => by subst e; exact h1 (by omega)
  have k4 : ∀ _ : Unit, w = 4 → Q (.inl (some (mI (I 201 4)))) I := fun _ e => by subst e; exact h1 (by omega)
  have k5 : ∀ _ : Unit, w = 5 → Q (.inl (some (mI (I 201 5)))) I := fun _ e => by subst e; exact h1 (by omega)
  have kw : ∀ _ : Unit, 100 ≤ w ∧ w < 389 → Q (.inl (some (mI (I 14 (w - 100))))) I := fun _ e => q_I (by have q : I 14 (w - 100) = I 201 (20 + (w - 100)) := H.2.1.2.1 _ (by omega) (by omega); rw [q]; congr 1; omega) (h2 e)
  have k6 : ∀ _ : Unit, w = 6 → Q (.inl (some (mI (cntN (I 201) 9)))) I := fun _ e => h3 e
  have k7 : ∀ _ : Unit, w = 7 → Q (.inl (some (mI (I 100 1)))) I := fun _ e => h4 e
  have k8 : ∀ _ : Unit, w = 8 → Q (.inl (some (mI (I 201 6)))) I := fun _ e => h5 e
  have k9 : ∀ _ : Unit, w = 9 → Q (.inl (some (mI (I 201 7)))) I := fun _ e => h6 e
  have k10 : ∀ _ : Unit, w = 10 → I 201 8 = 1 → Q (.inl (some (mI 1))) I := fun _ e e2 => q_I e2 (h7 e)
  have k10b : ∀ _ : Unit, w = 10 → I 201 8 = 0 → Q (.inl (some (mI 0))) I := fun _ e e2 => q_I e2 (h7 e)
  have k11 : ∀ _ : Unit, w = 11 → Q (.inl (some (mI (bitN (I 201) 4)))) I := fun _ e => h8 e
  have k12 : ∀ _ : Unit, ¬ (0 ≤ w ∧ w ≤ 11) → ¬ (100 ≤ w ∧ w < 389) → Q (.inl (some (mI (-1)))) I := fun _ e e2 => h9 ⟨e, e2⟩
  clear h1 h2 h3 h4 h5 h6 h7 h8 h9
  simp only [false_and, and_false, true_or, or_true, false_or, or_false, true_and, and_true, true_implies, false_implies, implies_true, not_true_eq_false, not_false_eq_true, and_self, List.length_cons, List.length_nil, mNoCut_, mCat_n, mCat_I, mCat_L, mCat_R, mIsL_n, mIsL_I, mIsL_R, mIsL_L, Nat.reduceAdd, Nat.reduceSub, Nat.reduceLeDiff, Nat.reduceLT, Nat.reduceEqDiff, Nat.zero_le, Int.reduceEq, Int.reduceLT, Int.reduceLE, Int.reduceNeg, Int.reduceAdd, if_true, if_false, reduceIte, reduceCtorEq, Bool.false_eq_true, ne_eq, qCmp_0, qCmp_1, qCmp_2, qCmp_3, qCmp_4, qCmp_5, ib_0, ib_1, ib_2, lb_0, lb_1, lb_2, dv_0, dv_1, wq_ic, wq_ld_i, wq_ld_a, wq_ib, wq_icmp, wq_if, wq_goto, wq_get, mGet_0, mGet_1, mGet_2, mGet_3, wq_ald, wq_ret0, wq_ret1, wq_ret2, wq_ret3, wq_ret4, wq_sw, wqsw_n, wqsw_c, ldI1, mrg_100_, mrg_389_, ldR0, fk_10_0, fk_7_0, fk_3_6, fk_3_0, fk_3_1, fk_3_2, fk_3_3, fk_3_4, fk_3_5, fk_7_1, wq_callV1_0, fk_10_3, fk_5_1, fk_7_2, fk_1_0, fk_1_1, fk_1_2, mrg_1_, mrg_0_, fk_6_6, mrg_m1_, mGo_n, sfxX10_count_29, cutX10_count_29, sfxX10_count_92, cutX10_count_92, sfxX10_count_103, cutX10_count_103, sfxX10_count_114, cutX10_count_114, sfxX10_count_125, cutX10_count_125, sfxX10_count_136, cutX10_count_136, sfxX10_count_147, cutX10_count_147, sfxX10_count_158, cutX10_count_158, sfxX10_count_169, cutX10_count_169, sfxX10_count_177, cutX10_count_177, sfxX10_count_188, cutX10_count_188, sfxX10_count_199, cutX10_count_199, sfxX10_count_216, cutX10_count_216, sfxX10_count_217, cutX10_count_217, sfxX10_count_218, cutX10_count_218, sfxX10_count_229, cutX10_count_229, kX10_count_229, kX10_count_218, kX10_count_217, kX10_count_216, kX10_count_199, kX10_count_188, kX10_count_177, kX10_count_169, kX10_count_158, kX10_count_147, kX10_count_136, kX10_count_125, kX10_count_114, kX10_count_103, kX10_count_92, kX10_count_29, kX10_count_0, sk_13, al_13, sk_11, al_11, rf_11_6, sk_14, al_14, sn_14, sk_102, al_102, rf_102_6, sk_105, al_105, sn_105, sk_100, al_100, sk_12, al_12, sk_10, al_10, rf_10_0, rf_10_1, rf_10_2, sk_0, al_0, rf_0_0, rf_0_3, ald_n, ro0_n, al_ro, SX10_count_0, shqR_, spX6_manyThere, mrg, mrl, mSet_ap, ncast, Option.some.injEq, g0, g1, g2, g3, g4, g5, e6, d0, d1, d2]
  (try simp only [mrg, mrl] at *) <;> repeat' (first | (with_reducible assumption) | (with_reducible apply And.intro) | intro _)
  all_goals first | omega | exact hB _ (by assumption) (by assumption) | exact (hB _ (by assumption) (by assumption)).1 | exact (hB _ (by assumption) (by assumption)).2 | exact k0 () (by omega) | exact k1 () (by omega) | exact k2 () (by omega) | exact k3 () (by omega) | exact k4 () (by omega) | exact k5 () (by omega) | exact kw () (by omega) | exact k7 () (by omega) | exact k8 () (by omega) | exact k9 () (by omega) | exact k10 () (by omega) (by omega) | exact k10b () (by omega) (by omega) | exact k11 () (by omega) | exact k12 () (by omega) (by omega) | exact ⟨I 201, H.s20e, k6 () (by omega)⟩ | skip
theorem ctrX10_count {l : Launch} (hst : l.stackTraces = false) (hT : mTxM l) : mCtr l calX10_count spX10_count :=
  mMet0 (T := TX10_count) (S := SX10_count) hst hT (by decide) okX10_count ⟨_, _, rfl, rfl⟩ (fun a => match a with
    | 0 => ctrX6_manyThere hst hT
    | _ + 1 => mCtr_no) vcX10_count

end SPC17
