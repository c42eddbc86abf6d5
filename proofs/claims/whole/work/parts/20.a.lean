section SPA
/-- FAR -/
def far (a b : Int) : Int := max (if a % 17 - b % 17 < 0 then b % 17 - a % 17 else a % 17 - b % 17) (if a / 17 - b / 17 < 0 then b / 17 - a / 17 else a / 17 - b / 17)
def spX10_apart : mSp := shII (fun fl a b I Q => (0 ≤ a ∧ a < 289) ∧ (0 ≤ b ∧ b < 289) ∧ Q (.inl (some (mI (far a b)))) I)
def SX10_apart : Nat → mSp := fun a => match a with
  | _ => fun _ _ _ _ => False
set_option maxRecDepth 100000 in
set_option maxHeartbeats 4000000 in
theorem vcX10_apart (fl : Nat → Bool) (avs : List mV) (I : mM) (Q : mO → mM → Prop) (h : spX10_apart fl avs I Q) : mVC0 SX10_apart fl Q kX10_apart 6 avs I := by
  obtain ⟨a, b, rfl, h⟩ := shII_inv h
  refine ⟨rfl, ?_⟩
  show mWp _ _ _ _ _ _ kX10_apart_0 [some (mI a), some (mI b), none, none, none, none] [] I
  obtain ⟨ha, hb, h⟩ := h
  simp only [true_and, and_true, true_implies, false_implies, implies_true, not_true_eq_false, not_false_eq_true, and_self, List.length_cons, List.length_nil, mNoCut_, mCat_n, mCat_I, mCat_L, mCat_R, mIsL_n, mIsL_I, mIsL_R, mIsL_L, Nat.reduceAdd, Nat.reduceSub, Nat.reduceLeDiff, Nat.reduceLT, Nat.reduceEqDiff, Nat.zero_le, Int.reduceEq, Int.reduceLT, Int.reduceLE, Int.reduceNeg, Int.reduceAdd, if_true, if_false, reduceIte, reduceCtorEq, Bool.false_eq_true, ne_eq, mCmp_0, mCmp_1, mCmp_2, mCmp_3, mCmp_4, mCmp_5, ib_0, ib_1, ib_2, lb_0, lb_1, lb_2, dv_0, dv_1, wp_ic, wp_ld_i, wp_st_i, wp_ib, wp_ineg, wp_idv, wp_icmp, wp_if, wp_goto, wp_ret0, wp_ret1, wp_ret2, wp_ret3, wp_ret4, ldI0, mrg_17_, ldI1, stI2, stI3, ldI2, stI4, ldI3, stI5, ldI4, ldI5, mPut_s, mPut_I0, mPut_R0, mPut_L0, mPut_I1, mPut_R1, mPut_L1, mrg_0_, mGo_n, sfxX10_apart_29, cutX10_apart_29, sfxX10_apart_30, cutX10_apart_30, sfxX10_apart_41, cutX10_apart_41, sfxX10_apart_42, cutX10_apart_42, sfxX10_apart_56, cutX10_apart_56, sfxX10_apart_58, cutX10_apart_58, kX10_apart_58, kX10_apart_56, kX10_apart_42, kX10_apart_41, kX10_apart_30, kX10_apart_29, kX10_apart_0]
  have e1 := Int.tmod_eq_emod_of_nonneg (b := 17) ha.1
  have e2 := Int.tmod_eq_emod_of_nonneg (b := 17) hb.1
  have e3 := Int.tdiv_eq_ediv_of_nonneg (b := 17) ha.1
  have e4 := Int.tdiv_eq_ediv_of_nonneg (b := 17) hb.1
  simp only [e1, e2, e3, e4, mrg]
  unfold far at h
  refine ⟨by omega, by omega, by omega, by omega, by omega, ?_⟩
  repeat' (first | apply And.intro | intro _)
  all_goals first | omega | exact q_I (by omega) h
theorem ctrX10_apart {l : Launch} (hst : l.stackTraces = false) (hT : mTxM l) : mCtr l calX10_apart spX10_apart :=
  mMet0 (T := TX10_apart) (S := SX10_apart) hst hT (by decide) okX10_apart ⟨_, _, rfl, rfl⟩ (fun a => mCtr_no) vcX10_apart

end SPA
