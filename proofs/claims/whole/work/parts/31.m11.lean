section SPM11
theorem set_201 (I : mM) (p v : Int) : mSet I 200 p v 201 = I 201 := by
  funext q
  simp [mSet]
def spX11_judge : mSp := shR (fun _ i I Q => i = some 200 ∧ WFt (I 201) ∧ Q (.inl (some (mI (judgeT (I 201))))) (mSet I 200 3 0))
def SX11_judge : Nat → mSp := fun a => match a with
  | 0 => spX11_judgement
  | _ => fun _ _ _ _ => False
theorem SX11_judge_0 : SX11_judge 0 = spX11_judgement := Eq.trans rfl rfl
set_option maxRecDepth 100000 in
set_option maxHeartbeats 4000000 in
theorem vcX11_judge (fl : Nat → Bool) (avs : List mV) (I : mM) (Q : mO → mM → Prop) (hsp : spX11_judge fl avs I Q) : mVC0 SX11_judge fl Q kX11_judge 1 avs I := by
  obtain ⟨i, rfl, h0⟩ := shR_inv hsp
  refine ⟨rfl, ?_⟩
  show mWp _ _ _ _ _ _ kX11_judge_0 [some (mR i)] [] I
  obtain ⟨rfl, H, h⟩ := h0
  simp only [true_or, or_true, false_or, or_false, true_and, and_true, true_implies, false_implies, implies_true, not_true_eq_false, not_false_eq_true, and_self, List.length_cons, List.length_nil, mNoCut_, mCat_n, mCat_I, mCat_L, mCat_R, mIsL_n, mIsL_I, mIsL_R, mIsL_L, Nat.reduceAdd, Nat.reduceSub, Nat.reduceLeDiff, Nat.reduceLT, Nat.reduceEqDiff, Nat.zero_le, Int.reduceEq, Int.reduceLT, Int.reduceLE, Int.reduceNeg, Int.reduceAdd, if_true, if_false, reduceIte, reduceCtorEq, Bool.false_eq_true, ne_eq, qCmp_0, qCmp_1, qCmp_2, qCmp_3, qCmp_4, qCmp_5, ib_0, ib_1, ib_2, lb_0, lb_1, lb_2, dv_0, dv_1, wq_ic, wq_ld_a, wq_putI, wq_putL, wq_ret0, wq_ret1, wq_ret2, wq_ret3, wq_ret4, ldR0, mrg_0_, fk_11_3, wq_callV1_0, kX11_judge_0, sk_200, al_200, SX11_judge_0, shqR_, spX11_judgement, mrg, mrl, mSet_ap, ncast, Option.some.injEq]
  simp only [set_201]
  exact ⟨H, h⟩
theorem ctrX11_judge {l : Launch} (hst : l.stackTraces = false) (hT : mTxM l) : mCtr l calX11_judge spX11_judge :=
  mMet0 (T := TX11_judge) (S := SX11_judge) hst hT (by decide) okX11_judge ⟨_, _, rfl, rfl⟩ (fun a => match a with
    | 0 => ctrX11_judgement hst hT
    | _ + 1 => mCtr_no) vcX11_judge

def spX11_mean : mSp := shRI (fun _ i b I Q => i = some 200 ∧ WFt (I 201) ∧ (-2147483648 ≤ b ∧ b < 2147483648) ∧ (¬ (0 ≤ b ∧ b < 6) → Q (.inl (some (mI 0))) (mSet I 200 3 1)) ∧ ((0 ≤ b ∧ b < 6) → allT (I 201) b = 0 → Q (.inl (some (mI 0))) (mSet (mSet (mSet I 200 3 0) 200 16 0) 200 17 0)) ∧ ((0 ≤ b ∧ b < 6) → ¬ allT (I 201) b = 0 → Q (.inl (some (mI 1))) (mSet (mSet (mSet I 200 3 0) 200 16 (upT (meanT (I 201) b) (10000 * allT (I 201) b))) 200 17 (loT (meanT (I 201) b) (10000 * allT (I 201) b)))))
def SX11_mean : Nat → mSp := fun a => match a with
  | 0 => spX11_isBall
  | 1 => spX11_meanOf
  | 2 => spX11_lowOf
  | 3 => spX11_takes
  | _ => fun _ _ _ _ => False
theorem SX11_mean_0 : SX11_mean 0 = spX11_isBall := Eq.trans rfl rfl
theorem SX11_mean_1 : SX11_mean 1 = spX11_meanOf := Eq.trans rfl rfl
theorem SX11_mean_2 : SX11_mean 2 = spX11_lowOf := Eq.trans rfl rfl
theorem SX11_mean_3 : SX11_mean 3 = spX11_takes := Eq.trans rfl rfl
set_option maxRecDepth 100000 in
set_option maxHeartbeats 4000000 in
theorem vcX11_mean (fl : Nat → Bool) (avs : List mV) (I : mM) (Q : mO → mM → Prop) (hsp : spX11_mean fl avs I Q) : mVC0 SX11_mean fl Q kX11_mean 2 avs I := by
  obtain ⟨i, b, rfl, h0⟩ := shRI_inv hsp
  refine ⟨rfl, ?_⟩
  show mWp _ _ _ _ _ _ kX11_mean_0 [some (mR i), some (mI b)] [] I
  obtain ⟨rfl, H, hr, h1, h2, h3⟩ := h0
  simp only [true_or, or_true, false_or, or_false, true_and, and_true, true_implies, false_implies, implies_true, not_true_eq_false, not_false_eq_true, and_self, List.length_cons, List.length_nil, mNoCut_, mCat_n, mCat_I, mCat_L, mCat_R, mIsL_n, mIsL_I, mIsL_R, mIsL_L, Nat.reduceAdd, Nat.reduceSub, Nat.reduceLeDiff, Nat.reduceLT, Nat.reduceEqDiff, Nat.zero_le, Int.reduceEq, Int.reduceLT, Int.reduceLE, Int.reduceNeg, Int.reduceAdd, if_true, if_false, reduceIte, reduceCtorEq, Bool.false_eq_true, ne_eq, qCmp_0, qCmp_1, qCmp_2, qCmp_3, qCmp_4, qCmp_5, ib_0, ib_1, ib_2, lb_0, lb_1, lb_2, dv_0, dv_1, wq_ic, wq_ld_i, wq_ld_a, wq_if, wq_goto, wq_get, mGet_0, mGet_1, mGet_2, mGet_3, wq_putI, wq_putL, wq_ret0, wq_ret1, wq_ret2, wq_ret3, wq_ret4, ldR0, ldI1, wq_callS1_1, mrg_0_, mrg_1_, fk_11_3, wq_callV2_0, wq_callV3_0, mGo_n, sfxX11_mean_12, cutX11_mean_12, sfxX11_mean_13, cutX11_mean_13, sfxX11_mean_44, cutX11_mean_44, sfxX11_mean_45, cutX11_mean_45, kX11_mean_45, kX11_mean_44, kX11_mean_13, kX11_mean_12, kX11_mean_0, sk_200, al_200, SX11_mean_0, SX11_mean_1, SX11_mean_2, SX11_mean_3, shqI_, shqRI_, shqRLL_, spX11_isBall, spX11_meanOf, spX11_lowOf, spX11_takes, mrg, mrl, mSet_ap, ncast, Option.some.injEq]
  simp only [set_201]
  refine ⟨fun z => ?_, fun z => h1 (by omega), hr⟩
  have hb : 0 ≤ b ∧ b < 6 := ⟨by omega, by omega⟩
  have mb := meanT_bd H hb
  have hn := H.2.1 b hb.1 hb.2
  have ab := allN_bd H hb (I 201 (13 + b)).toNat (by omega)
  have eb : allT (I 201) b = allN (I 201) b (I 201 (13 + b)).toNat := rfl
  exact ⟨H, hb, H, hb, ⟨by omega, by omega⟩, ⟨by omega, by omega⟩, fun w => h2 hb (by omega), fun w => h3 hb (by omega)⟩
theorem ctrX11_mean {l : Launch} (hst : l.stackTraces = false) (hT : mTxM l) : mCtr l calX11_mean spX11_mean :=
  mMet0 (T := TX11_mean) (S := SX11_mean) hst hT (by decide) okX11_mean ⟨_, _, rfl, rfl⟩ (fun a => match a with
    | 0 => ctrX11_isBall hst hT
    | 1 => ctrX11_meanOf hst hT
    | 2 => ctrX11_lowOf hst hT
    | 3 => ctrX11_takes hst hT
    | _ + 4 => mCtr_no) vcX11_mean

end SPM11
