section SPM4
def spX11_reaches : mSp := shRIIII (fun _ i f b h k I Q => i = some 200 ∧ WFt (I 201) ∧ (0 ≤ f ∧ f < 9) ∧ (0 ≤ b ∧ b < 6) ∧ (0 ≤ h ∧ h < 8) ∧ (0 ≤ k ∧ k ≤ stepsT (I 201) b h) ∧ (stT (I 201) f ≠ -1 ∧ far (stT (I 201) f) (cellT (I 201) b h k) * pcT (I 201) f ≤ tickT (I 201) b h k → Q (.inl (some (mI 1))) I) ∧ (¬ (stT (I 201) f ≠ -1 ∧ far (stT (I 201) f) (cellT (I 201) b h k) * pcT (I 201) f ≤ tickT (I 201) b h k) → Q (.inl (some (mI 0))) I))
def SX11_reaches : Nat → mSp := fun a => match a with
  | 0 => spX11_standOf
  | 1 => spX11_cellAt
  | 2 => spX11_far
  | 3 => spX11_ofFielder
  | 4 => spX11_tickAt
  | _ => fun _ _ _ _ => False
theorem SX11_reaches_0 : SX11_reaches 0 = spX11_standOf := Eq.trans rfl rfl
theorem SX11_reaches_1 : SX11_reaches 1 = spX11_cellAt := Eq.trans rfl rfl
theorem SX11_reaches_2 : SX11_reaches 2 = spX11_far := Eq.trans rfl rfl
theorem SX11_reaches_3 : SX11_reaches 3 = spX11_ofFielder := Eq.trans rfl rfl
theorem SX11_reaches_4 : SX11_reaches 4 = spX11_tickAt := Eq.trans rfl rfl
set_option maxRecDepth 100000 in
set_option maxHeartbeats 4000000 in
theorem vcX11_reaches (fl : Nat → Bool) (avs : List mV) (I : mM) (Q : mO → mM → Prop) (hsp : spX11_reaches fl avs I Q) : mVC0 SX11_reaches fl Q kX11_reaches 5 avs I := by
  obtain ⟨i, f, b, hh, k, rfl, h0⟩ := shRIIII_inv hsp
  refine ⟨rfl, ?_⟩
  show mWp _ _ _ _ _ _ kX11_reaches_0 [some (mR i), some (mI f), some (mI b), some (mI hh), some (mI k)] [] I
  obtain ⟨rfl, H, hf, hb, hh1, hk, h1, h2⟩ := h0
  have fl1 := H.fld hf
  have cl1 := cell_in H hb hh1 hk
  have tk1 := tickT_bd H hb hh1 hk.1 hk.2
  have st8 := (steps_spec H hb hh1).1
  simp only [true_or, or_true, false_or, or_false, true_and, and_true, true_implies, false_implies, implies_true, not_true_eq_false, not_false_eq_true, and_self, List.length_cons, List.length_nil, mNoCut_, mCat_n, mCat_I, mCat_L, mCat_R, mIsL_n, mIsL_I, mIsL_R, mIsL_L, Nat.reduceAdd, Nat.reduceSub, Nat.reduceLeDiff, Nat.reduceLT, Nat.reduceEqDiff, Nat.zero_le, Int.reduceEq, Int.reduceLT, Int.reduceLE, Int.reduceNeg, Int.reduceAdd, if_true, if_false, reduceIte, reduceCtorEq, Bool.false_eq_true, ne_eq, qCmp_0, qCmp_1, qCmp_2, qCmp_3, qCmp_4, qCmp_5, ib_0, ib_1, ib_2, lb_0, lb_1, lb_2, dv_0, dv_1, wq_ic, wq_ld_i, wq_ld_a, wq_ib, wq_icmp, wq_goto, wq_ret0, wq_ret1, wq_ret2, wq_ret3, wq_ret4, ldR0, ldI1, wq_callV2_0, mrg_m1_, ldI2, ldI3, ldI4, wq_callV4_0, wq_callS2_1, mrg_1_, wq_callV3_0, mrg_0_, mGo_n, sfxX11_reaches_47, cutX11_reaches_47, sfxX11_reaches_48, cutX11_reaches_48, kX11_reaches_48, kX11_reaches_47, kX11_reaches_0, sk_200, al_200, SX11_reaches_0, SX11_reaches_1, SX11_reaches_2, SX11_reaches_3, SX11_reaches_4, shqRI_, shqRIII_, shqII_, shqRII_, spX11_standOf, spX11_cellAt, spX11_far, spX11_ofFielder, spX11_tickAt, mrg, mrl, mSet_ap, ncast, Option.some.injEq]
  trace_state
  sorry
theorem ctrX11_reaches {l : Launch} (hst : l.stackTraces = false) (hT : mTxM l) : mCtr l calX11_reaches spX11_reaches :=
  mMet0 (T := TX11_reaches) (S := SX11_reaches) hst hT (by decide) okX11_reaches ⟨_, _, rfl, rfl⟩ (fun a => match a with
    | 0 => ctrX11_standOf hst hT
    | 1 => ctrX11_cellAt hst hT
    | 2 => ctrX11_far hst hT
    | 3 => ctrX11_ofFielder hst hT
    | 4 => ctrX11_tickAt hst hT
    | _ + 5 => mCtr_no) vcX11_reaches

end SPM4
