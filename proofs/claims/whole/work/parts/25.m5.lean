section SPM5
theorem soonT_bd (st pc : Int → Int) (c tk but : Int) : -1 ≤ soonT st pc c tk but ∧ soonT st pc c tk but < 9 ∧ (soonT st pc c tk but ≠ -1 → st (soonT st pc c tk but) ≠ -1 ∧ soonT st pc c tk but ≠ but ∧ far (st (soonT st pc c tk but)) c * pc (soonT st pc c tk but) ≤ tk) := soonU_bd st pc c tk but 9
theorem stopGo_sp (st pc cell tick : Int → Int) (but : Int) : ∀ (m : Nat) (k : Int), stopGo st pc cell tick but m k = -1 ∨ (k ≤ stopGo st pc cell tick but m k ∧ stopGo st pc cell tick but m k < k + m ∧ soonT st pc (cell (stopGo st pc cell tick but m k)) (tick (stopGo st pc cell tick but m k)) but ≠ -1)
  | 0, k => Or.inl rfl
  | m + 1, k => by
    simp only [stopGo]
    split
    · rcases stopGo_sp st pc cell tick but m (k + 1) with h | ⟨h1, h2, h3⟩
      · exact Or.inl h
      · exact Or.inr ⟨by omega, by omega, h3⟩
    · rename_i h
      exact Or.inr ⟨by omega, by omega, h⟩
theorem stopT_sp (st pc cell tick : Int → Int) (a n but : Int) (ha : 0 ≤ a) : (stopT st pc cell tick a n but = -1 ∨ (a + 1 ≤ stopT st pc cell tick a n but ∧ stopT st pc cell tick a n but ≤ n ∧ soonT st pc (cell (stopT st pc cell tick a n but)) (tick (stopT st pc cell tick a n but)) but ≠ -1)) := by
  unfold stopT
  rcases stopGo_sp st pc cell tick but (n - a).toNat (a + 1) with h | ⟨h1, h2, h3⟩
  · exact Or.inl h
  · exact Or.inr ⟨h1, by omega, h3⟩
theorem catcherT_bd (st pc cell tick : Int → Int) (a n : Int) : -1 ≤ catcherT st pc cell tick a n ∧ catcherT st pc cell tick a n < 9 ∧ (catcherT st pc cell tick a n ≠ -1 → (1 ≤ a ∧ a ≤ n) ∧ st (catcherT st pc cell tick a n) ≠ -1) := by
  unfold catcherT
  split
  · rename_i h
    obtain ⟨h1, h2, h3⟩ := soonT_bd st pc (cell a) (tick a) (-1)
    exact ⟨h1, h2, fun z => ⟨h, (h3 z).1⟩⟩
  · exact ⟨by omega, by omega, fun h => absurd rfl h⟩
def spX11_catcherOf : mSp := shRII (fun _ i b h I Q => i = some 200 ∧ WFt (I 201) ∧ (0 ≤ b ∧ b < 6) ∧ (0 ≤ h ∧ h < 8) ∧ Q (.inl (some (mI (catcherT (stT (I 201)) (pcT (I 201)) (cellT (I 201) b h) (tickT (I 201) b h) (airT (I 201) b h) (stepsT (I 201) b h))))) I)
def SX11_catcherOf : Nat → mSp := fun a => match a with
  | 0 => spX11_airOf
  | 1 => spX11_stepsOf
  | 2 => spX11_within
  | 3 => spX11_soonest
  | _ => fun _ _ _ _ => False
theorem SX11_catcherOf_0 : SX11_catcherOf 0 = spX11_airOf := Eq.trans rfl rfl
theorem SX11_catcherOf_1 : SX11_catcherOf 1 = spX11_stepsOf := Eq.trans rfl rfl
theorem SX11_catcherOf_2 : SX11_catcherOf 2 = spX11_within := Eq.trans rfl rfl
theorem SX11_catcherOf_3 : SX11_catcherOf 3 = spX11_soonest := Eq.trans rfl rfl
set_option maxRecDepth 100000 in
set_option maxHeartbeats 4000000 in
theorem vcX11_catcherOf (fl : Nat → Bool) (avs : List mV) (I : mM) (Q : mO → mM → Prop) (hsp : spX11_catcherOf fl avs I Q) : mVC0 SX11_catcherOf fl Q kX11_catcherOf 3 avs I := by
  obtain ⟨i, b, hh, rfl, h0⟩ := shRII_inv hsp
  refine ⟨rfl, ?_⟩
  show mWp _ _ _ _ _ _ kX11_catcherOf_0 [some (mR i), some (mI b), some (mI hh)] [] I
  obtain ⟨rfl, H, hb, hh1, h⟩ := h0
  have st8 := (steps_spec H hb hh1).1
  have ha := H.air hb hh1
  simp only [true_or, or_true, false_or, or_false, true_and, and_true, true_implies, false_implies, implies_true, not_true_eq_false, not_false_eq_true, and_self, List.length_cons, List.length_nil, mNoCut_, mCat_n, mCat_I, mCat_L, mCat_R, mIsL_n, mIsL_I, mIsL_R, mIsL_L, Nat.reduceAdd, Nat.reduceSub, Nat.reduceLeDiff, Nat.reduceLT, Nat.reduceEqDiff, Nat.zero_le, Int.reduceEq, Int.reduceLT, Int.reduceLE, Int.reduceNeg, Int.reduceAdd, if_true, if_false, reduceIte, reduceCtorEq, Bool.false_eq_true, ne_eq, qCmp_0, qCmp_1, qCmp_2, qCmp_3, qCmp_4, qCmp_5, ib_0, ib_1, ib_2, lb_0, lb_1, lb_2, dv_0, dv_1, wq_ic, wq_lc, wq_ld_i, wq_ld_a, wq_i2l, wq_if, wq_goto, wq_ret0, wq_ret1, wq_ret2, wq_ret3, wq_ret4, ldR0, ldI1, ldI2, wq_callV3_0, wq_callS3_1, mrg_m1_, wq_callV5_0, mrg_0_, mGo_n, sfxX11_catcherOf_37, cutX11_catcherOf_37, sfxX11_catcherOf_38, cutX11_catcherOf_38, kX11_catcherOf_38, kX11_catcherOf_37, kX11_catcherOf_0, sk_200, al_200, SX11_catcherOf_0, SX11_catcherOf_1, SX11_catcherOf_2, SX11_catcherOf_3, shqRII_, shqLLL_, shqRIIII_, spX11_airOf, spX11_stepsOf, spX11_within, spX11_soonest, mrg, mrl, mSet_ap, ncast, Option.some.injEq]
  unfold catcherT at h
  refine ⟨H, hb, hh1, ⟨by omega, by omega⟩, H, hb, hh1, ⟨by omega, by omega⟩, fun z => ?_, fun z => ?_, ⟨by omega, by omega⟩, by omega, by omega⟩
  · rw [if_pos z] at h
    exact ⟨H, hb, hh1, H, hb, hh1, ⟨by omega, z.2⟩, h⟩
  · rw [if_neg z] at h
    exact h
theorem ctrX11_catcherOf {l : Launch} (hst : l.stackTraces = false) (hT : mTxM l) : mCtr l calX11_catcherOf spX11_catcherOf :=
  mMet0 (T := TX11_catcherOf) (S := SX11_catcherOf) hst hT (by decide) okX11_catcherOf ⟨_, _, rfl, rfl⟩ (fun a => match a with
    | 0 => ctrX11_airOf hst hT
    | 1 => ctrX11_stepsOf hst hT
    | 2 => ctrX11_within hst hT
    | 3 => ctrX11_soonest hst hT
    | _ + 4 => mCtr_no) vcX11_catcherOf

def spX11_handsOf : mSp := shRIII (fun _ i f b h I Q => i = some 200 ∧ WFt (I 201) ∧ (0 ≤ f ∧ f < 9) ∧ stT (I 201) f ≠ -1 ∧ (0 ≤ b ∧ b < 6) ∧ (0 ≤ h ∧ h < 8) ∧ airT (I 201) b h ≤ stepsT (I 201) b h ∧ Q (.inl (some (mI (handsT (hdT (I 201)) (prT (I 201)) (stT (I 201)) f (cellT (I 201) b h (airT (I 201) b h)))))) I)
def SX11_handsOf : Nat → mSp := fun a => match a with
  | 0 => spX11_ofFielder
  | 1 => spX11_standOf
  | 2 => spX11_airOf
  | 3 => spX11_cellAt
  | 4 => spX11_far
  | _ => fun _ _ _ _ => False
theorem SX11_handsOf_0 : SX11_handsOf 0 = spX11_ofFielder := Eq.trans rfl rfl
theorem SX11_handsOf_1 : SX11_handsOf 1 = spX11_standOf := Eq.trans rfl rfl
theorem SX11_handsOf_2 : SX11_handsOf 2 = spX11_airOf := Eq.trans rfl rfl
theorem SX11_handsOf_3 : SX11_handsOf 3 = spX11_cellAt := Eq.trans rfl rfl
theorem SX11_handsOf_4 : SX11_handsOf 4 = spX11_far := Eq.trans rfl rfl
set_option maxRecDepth 100000 in
set_option maxHeartbeats 4000000 in
theorem vcX11_handsOf (fl : Nat → Bool) (avs : List mV) (I : mM) (Q : mO → mM → Prop) (hsp : spX11_handsOf fl avs I Q) : mVC0 SX11_handsOf fl Q kX11_handsOf 4 avs I := by
  obtain ⟨i, f, b, hh, rfl, h0⟩ := shRIII_inv hsp
  refine ⟨rfl, ?_⟩
  show mWp _ _ _ _ _ _ kX11_handsOf_0 [some (mR i), some (mI f), some (mI b), some (mI hh)] [] I
  obtain ⟨rfl, H, hf, hst, hb, hh1, hair, h⟩ := h0
  have st8 := (steps_spec H hb hh1).1
  have ha := H.air hb hh1
  have fl1 := H.fld hf
  simp only [true_or, or_true, false_or, or_false, true_and, and_true, true_implies, false_implies, implies_true, not_true_eq_false, not_false_eq_true, and_self, List.length_cons, List.length_nil, mNoCut_, mCat_n, mCat_I, mCat_L, mCat_R, mIsL_n, mIsL_I, mIsL_R, mIsL_L, Nat.reduceAdd, Nat.reduceSub, Nat.reduceLeDiff, Nat.reduceLT, Nat.reduceEqDiff, Nat.zero_le, Int.reduceEq, Int.reduceLT, Int.reduceLE, Int.reduceNeg, Int.reduceAdd, if_true, if_false, reduceIte, reduceCtorEq, Bool.false_eq_true, ne_eq, qCmp_0, qCmp_1, qCmp_2, qCmp_3, qCmp_4, qCmp_5, ib_0, ib_1, ib_2, lb_0, lb_1, lb_2, dv_0, dv_1, wq_ic, wq_ld_i, wq_ld_a, wq_ib, wq_ret0, wq_ret1, wq_ret2, wq_ret3, wq_ret4, wq_max, wq_min, wq_abs, wq_lmax, mrg_0_, ldR0, ldI1, mrg_2_, wq_callV3_0, mrg_3_, wq_callV2_0, ldI2, ldI3, wq_callV4_0, wq_callS2_1, kX11_handsOf_0, sk_200, al_200, SX11_handsOf_0, SX11_handsOf_1, SX11_handsOf_2, SX11_handsOf_3, SX11_handsOf_4, shqRII_, shqRI_, shqRIII_, shqII_, spX11_ofFielder, spX11_standOf, spX11_airOf, spX11_cellAt, spX11_far, mrg, mrl, mSet_ap, ncast, Option.some.injEq]
  have cl1 := cell_in H hb hh1 (k := airT (I 201) b hh) ⟨by omega, hair⟩
  have f1 := far_bd (a := stT (I 201) f) ⟨by omega, by omega⟩ cl1
  have p1 := prod_bd (x := prT (I 201) f) (a := 50) ⟨by omega, by omega⟩ f1
  have e2 : I 201 (550 + 5 * f + 2) = hdT (I 201) f := rfl
  have e3 : I 201 (550 + 5 * f + 3) = prT (I 201) f := rfl
  simp only [e2, e3]
  exact ⟨hf, hf, hf, H, hb, hh1, H, hb, hh1, ⟨by omega, by omega⟩, cl1, ⟨by omega, by omega⟩, h⟩
theorem ctrX11_handsOf {l : Launch} (hst : l.stackTraces = false) (hT : mTxM l) : mCtr l calX11_handsOf spX11_handsOf :=
  mMet0 (T := TX11_handsOf) (S := SX11_handsOf) hst hT (by decide) okX11_handsOf ⟨_, _, rfl, rfl⟩ (fun a => match a with
    | 0 => ctrX11_ofFielder hst hT
    | 1 => ctrX11_standOf hst hT
    | 2 => ctrX11_airOf hst hT
    | 3 => ctrX11_cellAt hst hT
    | 4 => ctrX11_far hst hT
    | _ + 5 => mCtr_no) vcX11_handsOf

def spX11_stopStep : mSp := shRIII (fun _ i b h but I Q => i = some 200 ∧ WFt (I 201) ∧ (0 ≤ b ∧ b < 6) ∧ (0 ≤ h ∧ h < 8) ∧ (-1 ≤ but ∧ but < 9) ∧ Q (.inl (some (mI (stopT (stT (I 201)) (pcT (I 201)) (cellT (I 201) b h) (tickT (I 201) b h) (airT (I 201) b h) (stepsT (I 201) b h) but)))) I)
def SX11_stopStep : Nat → mSp := fun a => match a with
  | 0 => spX11_stepsOf
  | 1 => spX11_airOf
  | 2 => spX11_soonest
  | _ => fun _ _ _ _ => False
theorem SX11_stopStep_0 : SX11_stopStep 0 = spX11_stepsOf := Eq.trans rfl rfl
theorem SX11_stopStep_1 : SX11_stopStep 1 = spX11_airOf := Eq.trans rfl rfl
theorem SX11_stopStep_2 : SX11_stopStep 2 = spX11_soonest := Eq.trans rfl rfl
theorem cutsX11_stopStep {t : Nat} {bs : List Bool} (h : cutX11_stopStep t = some bs) : (t = 18 ∧ bs = [true, true, true, true, true, true]) := by
  unfold cutX11_stopStep at h
  simp only [mLk] at h
  by_cases h0 : 18 = t
  · subst h0
    simp at h
    exact ⟨rfl, h.symm⟩
  rw [if_neg h0] at h
  cases h
set_option maxRecDepth 100000 in
set_option maxHeartbeats 4000000 in
theorem vcX11_stopStep (fl : Nat → Bool) (avs : List mV) (I : mM) (Q : mO → mM → Prop) (hsp : spX11_stopStep fl avs I Q) : mVC SX11_stopStep fl Q kX11_stopStep cutX11_stopStep 6 avs I := by
  obtain ⟨i, b, hh, but, rfl, h0⟩ := shRIII_inv hsp
  obtain ⟨rfl, H, hb, hh1, hbut, h⟩ := h0
  have st8 := (steps_spec H hb hh1).1
  have ha := H.air hb hh1
  refine ⟨rfl, (fun n t lv st I1 => I1 = I ∧ st = [] ∧ ∃ (last k : Int), lv = [some (mR (some 200)), some (mI b), some (mI hh), some (mI but), some (mI last), some (mI k)] ∧ last = stepsT (I 201) b hh ∧ airT (I 201) b hh + 1 ≤ k ∧ k ≤ 100 ∧ n = (last + 1 - k).toNat ∧ stopT (stT (I 201)) (pcT (I 201)) (cellT (I 201) b hh) (tickT (I 201) b hh) (airT (I 201) b hh) last but = stopGo (stT (I 201)) (pcT (I 201)) (cellT (I 201) b hh) (tickT (I 201) b hh) but (last + 1 - k).toNat k), ?_, ?_⟩
  · intro n t bs hbs lv st I1 hc
    rcases cutsX11_stopStep hbs with ⟨rfl, rfl⟩
    rw [sfxX11_stopStep_18]
    obtain ⟨rfl, rfl, last, k, rfl, el, hk, hk9, hn, hv⟩ := hc
    simp only [true_or, or_true, false_or, or_false, true_and, and_true, true_implies, false_implies, implies_true, not_true_eq_false, not_false_eq_true, and_self, List.length_cons, List.length_nil, mNoCut_, mCat_n, mCat_I, mCat_L, mCat_R, mIsL_n, mIsL_I, mIsL_R, mIsL_L, Nat.reduceAdd, Nat.reduceSub, Nat.reduceLeDiff, Nat.reduceLT, Nat.reduceEqDiff, Nat.zero_le, Int.reduceEq, Int.reduceLT, Int.reduceLE, Int.reduceNeg, Int.reduceAdd, if_true, if_false, reduceIte, reduceCtorEq, Bool.false_eq_true, ne_eq, qCmp_0, qCmp_1, qCmp_2, qCmp_3, qCmp_4, qCmp_5, ib_0, ib_1, ib_2, lb_0, lb_1, lb_2, dv_0, dv_1, wq_ic, wq_ld_i, wq_ld_a, wq_st_i, wq_iinc, wq_ib, wq_icmp, wq_goto, wq_ret0, wq_ret1, wq_ret2, wq_ret3, wq_ret4, ldR0, ldI1, ldI2, wq_callV3_0, stI4, mrg_1_, stI5, ldI5, ldI4, ldI3, wq_callV5_0, mrg_m1_, wqinc5, mPut_s, mPut_I0, mPut_R0, mPut_L0, mPut_I1, mPut_R1, mPut_L1, mGo_n, sfxX11_stopStep_18, cutX11_stopStep_18, sfxX11_stopStep_41, cutX11_stopStep_41, sfxX11_stopStep_47, cutX11_stopStep_47, wq_cut, mGo_c, mMask_t, mMask_f, mMask_n, kX11_stopStep_47, kX11_stopStep_41, kX11_stopStep_18, kX11_stopStep_0, sk_200, al_200, SX11_stopStep_0, SX11_stopStep_1, SX11_stopStep_2, shqRII_, shqRIIII_, spX11_stepsOf, spX11_airOf, spX11_soonest, mrg, mrl, mSet_ap, ncast, Option.some.injEq]
    have go : k ≤ last → stopGo (stT (I1 201)) (pcT (I1 201)) (cellT (I1 201) b hh) (tickT (I1 201) b hh) but (last + 1 - k).toNat k = if soonT (stT (I1 201)) (pcT (I1 201)) (cellT (I1 201) b hh k) (tickT (I1 201) b hh k) but = -1 then stopGo (stT (I1 201)) (pcT (I1 201)) (cellT (I1 201) b hh) (tickT (I1 201) b hh) but (last + 1 - (k + 1)).toNat (k + 1) else k := fun z => by
      rw [show (last + 1 - k).toNat = (last + 1 - (k + 1)).toNat + 1 by omega]
      rfl
    have sb := soonU_bd (stT (I1 201)) (pcT (I1 201)) (cellT (I1 201) b hh k) (tickT (I1 201) b hh k) but 9
    have su : soonT (stT (I1 201)) (pcT (I1 201)) (cellT (I1 201) b hh k) (tickT (I1 201) b hh k) but = soonU (stT (I1 201)) (pcT (I1 201)) (cellT (I1 201) b hh k) (tickT (I1 201) b hh k) but 9 := rfl
    rw [← su] at sb
    rw [← el] at h ⊢
    refine ⟨⟨⟨by omega, by omega⟩, by omega, by omega⟩, fun z => ?_, fun z => ⟨H, hb, hh1, ⟨by omega, by omega⟩, hbut, ⟨by omega, by omega⟩, fun w => ?_, fun w => ?_⟩⟩
    · refine q_I ?_ h
      rw [hv, show (last + 1 - k).toNat = 0 by omega]
      rfl
    · have g := go (by omega)
      rw [if_pos w] at g
      exact ⟨_, by omega, _, _, rfl, rfl, by omega, by omega, rfl, by rw [hv, g]⟩
    · have g := go (by omega)
      rw [if_neg w] at g
      exact q_I (by rw [hv, g]) h
  · show mWp _ _ _ _ _ _ kX11_stopStep_0 [some (mR (some 200)), some (mI b), some (mI hh), some (mI but), none, none] [] I
    simp only [true_or, or_true, false_or, or_false, true_and, and_true, true_implies, false_implies, implies_true, not_true_eq_false, not_false_eq_true, and_self, List.length_cons, List.length_nil, mNoCut_, mCat_n, mCat_I, mCat_L, mCat_R, mIsL_n, mIsL_I, mIsL_R, mIsL_L, Nat.reduceAdd, Nat.reduceSub, Nat.reduceLeDiff, Nat.reduceLT, Nat.reduceEqDiff, Nat.zero_le, Int.reduceEq, Int.reduceLT, Int.reduceLE, Int.reduceNeg, Int.reduceAdd, if_true, if_false, reduceIte, reduceCtorEq, Bool.false_eq_true, ne_eq, qCmp_0, qCmp_1, qCmp_2, qCmp_3, qCmp_4, qCmp_5, ib_0, ib_1, ib_2, lb_0, lb_1, lb_2, dv_0, dv_1, wq_ic, wq_ld_i, wq_ld_a, wq_st_i, wq_iinc, wq_ib, wq_icmp, wq_goto, wq_ret0, wq_ret1, wq_ret2, wq_ret3, wq_ret4, ldR0, ldI1, ldI2, wq_callV3_0, stI4, mrg_1_, stI5, ldI5, ldI4, ldI3, wq_callV5_0, mrg_m1_, wqinc5, mPut_s, mPut_I0, mPut_R0, mPut_L0, mPut_I1, mPut_R1, mPut_L1, mGo_n, sfxX11_stopStep_18, cutX11_stopStep_18, sfxX11_stopStep_41, cutX11_stopStep_41, sfxX11_stopStep_47, cutX11_stopStep_47, wq_cut, mGo_c, mMask_t, mMask_f, mMask_n, kX11_stopStep_47, kX11_stopStep_41, kX11_stopStep_18, kX11_stopStep_0, sk_200, al_200, SX11_stopStep_0, SX11_stopStep_1, SX11_stopStep_2, shqRII_, shqRIIII_, spX11_stepsOf, spX11_airOf, spX11_soonest, mrg, mrl, mSet_ap, ncast, Option.some.injEq]
    exact ⟨H, hb, hh1, H, hb, hh1, _, _, _, rfl, rfl, by omega, by omega, rfl, by unfold stopT; rw [show stepsT (I 201) b hh + 1 - (airT (I 201) b hh + 1) = stepsT (I 201) b hh - airT (I 201) b hh by omega]⟩
theorem ctrX11_stopStep {l : Launch} (hst : l.stackTraces = false) (hT : mTxM l) : mCtr l calX11_stopStep spX11_stopStep :=
  mMet (T := TX11_stopStep) (S := SX11_stopStep) hst hT cutX11_stopStep (by decide) okX11_stopStep ⟨_, _, rfl, rfl⟩ trivial (fun t bs h => by rcases cutsX11_stopStep h with ⟨-, rfl⟩ <;> rfl) (fun a => match a with
    | 0 => ctrX11_stepsOf hst hT
    | 1 => ctrX11_airOf hst hT
    | 2 => ctrX11_soonest hst hT
    | _ + 3 => mCtr_no) vcX11_stopStep

def spX11_catchOf : mSp := shRII (fun _ i b h I Q => i = some 200 ∧ WFt (I 201) ∧ (0 ≤ b ∧ b < 6) ∧ (0 ≤ h ∧ h < 8) ∧ Q (.inl (some (mI (caughtT (I 201) b h)))) I)
def SX11_catchOf : Nat → mSp := fun a => match a with
  | 0 => spX11_catcherOf
  | 1 => spX11_handsOf
  | _ => fun _ _ _ _ => False
theorem SX11_catchOf_0 : SX11_catchOf 0 = spX11_catcherOf := Eq.trans rfl rfl
theorem SX11_catchOf_1 : SX11_catchOf 1 = spX11_handsOf := Eq.trans rfl rfl
set_option maxRecDepth 100000 in
set_option maxHeartbeats 4000000 in
theorem vcX11_catchOf (fl : Nat → Bool) (avs : List mV) (I : mM) (Q : mO → mM → Prop) (hsp : spX11_catchOf fl avs I Q) : mVC0 SX11_catchOf fl Q kX11_catchOf 4 avs I := by
  obtain ⟨i, b, hh, rfl, h0⟩ := shRII_inv hsp
  refine ⟨rfl, ?_⟩
  show mWp _ _ _ _ _ _ kX11_catchOf_0 [some (mR i), some (mI b), some (mI hh), none] [] I
  obtain ⟨rfl, H, hb, hh1, h⟩ := h0
  simp only [true_or, or_true, false_or, or_false, true_and, and_true, true_implies, false_implies, implies_true, not_true_eq_false, not_false_eq_true, and_self, List.length_cons, List.length_nil, mNoCut_, mCat_n, mCat_I, mCat_L, mCat_R, mIsL_n, mIsL_I, mIsL_R, mIsL_L, Nat.reduceAdd, Nat.reduceSub, Nat.reduceLeDiff, Nat.reduceLT, Nat.reduceEqDiff, Nat.zero_le, Int.reduceEq, Int.reduceLT, Int.reduceLE, Int.reduceNeg, Int.reduceAdd, if_true, if_false, reduceIte, reduceCtorEq, Bool.false_eq_true, ne_eq, qCmp_0, qCmp_1, qCmp_2, qCmp_3, qCmp_4, qCmp_5, ib_0, ib_1, ib_2, lb_0, lb_1, lb_2, dv_0, dv_1, wq_ic, wq_ld_i, wq_ld_a, wq_st_i, wq_icmp, wq_goto, wq_ret0, wq_ret1, wq_ret2, wq_ret3, wq_ret4, ldR0, ldI1, ldI2, wq_callV3_0, stI3, ldI3, mrg_m1_, mrg_0_, wq_callV4_0, mPut_s, mPut_I0, mPut_R0, mPut_L0, mPut_I1, mPut_R1, mPut_L1, mGo_n, sfxX11_catchOf_16, cutX11_catchOf_16, sfxX11_catchOf_23, cutX11_catchOf_23, kX11_catchOf_23, kX11_catchOf_16, kX11_catchOf_0, sk_200, al_200, SX11_catchOf_0, SX11_catchOf_1, shqRII_, shqRIII_, spX11_catcherOf, spX11_handsOf, mrg, mrl, mSet_ap, ncast, Option.some.injEq]
  have cb := catcherT_bd (stT (I 201)) (pcT (I 201)) (cellT (I 201) b hh) (tickT (I 201) b hh) (airT (I 201) b hh) (stepsT (I 201) b hh)
  unfold caughtT catchT at h
  generalize hg : catcherT (stT (I 201)) (pcT (I 201)) (cellT (I 201) b hh) (tickT (I 201) b hh) (airT (I 201) b hh) (stepsT (I 201) b hh) = g at *
  refine ⟨H, hb, hh1, ⟨by omega, by omega⟩, fun z => ?_, fun z => ?_⟩
  · rw [if_neg z] at h
    exact ⟨H, ⟨by omega, by omega⟩, (cb.2.2 z).2, hb, hh1, (cb.2.2 z).1.2, h⟩
  · rw [if_pos (by omega)] at h
    exact h
theorem ctrX11_catchOf {l : Launch} (hst : l.stackTraces = false) (hT : mTxM l) : mCtr l calX11_catchOf spX11_catchOf :=
  mMet0 (T := TX11_catchOf) (S := SX11_catchOf) hst hT (by decide) okX11_catchOf ⟨_, _, rfl, rfl⟩ (fun a => match a with
    | 0 => ctrX11_catcherOf hst hT
    | 1 => ctrX11_handsOf hst hT
    | _ + 2 => mCtr_no) vcX11_catchOf

def spX11_runsBut : mSp := shRIII (fun _ i b h but I Q => i = some 200 ∧ WFt (I 201) ∧ (0 ≤ b ∧ b < 6) ∧ (0 ≤ h ∧ h < 8) ∧ (-1 ≤ but ∧ but < 9) ∧ Q (.inl (some (mI (runsButT (amT (I 201)) (stT (I 201)) (pcT (I 201)) (cellT (I 201) b h) (tickT (I 201) b h) ((I 201) 2) (airT (I 201) b h) (stepsT (I 201) b h) but)))) I)
def SX11_runsBut : Nat → mSp := fun a => match a with
  | 0 => spX11_stopStep
  | 1 => spX11_airOf
  | 2 => spX11_stepsOf
  | 3 => spX11_soonest
  | 4 => spX11_tickAt
  | 5 => spX11_ofFielder
  | 6 => spX11_cellAt
  | 7 => spX11_fromBat
  | _ => fun _ _ _ _ => False
theorem SX11_runsBut_0 : SX11_runsBut 0 = spX11_stopStep := Eq.trans rfl rfl
theorem SX11_runsBut_1 : SX11_runsBut 1 = spX11_airOf := Eq.trans rfl rfl
theorem SX11_runsBut_2 : SX11_runsBut 2 = spX11_stepsOf := Eq.trans rfl rfl
theorem SX11_runsBut_3 : SX11_runsBut 3 = spX11_soonest := Eq.trans rfl rfl
theorem SX11_runsBut_4 : SX11_runsBut 4 = spX11_tickAt := Eq.trans rfl rfl
theorem SX11_runsBut_5 : SX11_runsBut 5 = spX11_ofFielder := Eq.trans rfl rfl
theorem SX11_runsBut_6 : SX11_runsBut 6 = spX11_cellAt := Eq.trans rfl rfl
theorem SX11_runsBut_7 : SX11_runsBut 7 = spX11_fromBat := Eq.trans rfl rfl
set_option maxRecDepth 100000 in
set_option maxHeartbeats 4000000 in
theorem vcX11_runsBut (fl : Nat → Bool) (avs : List mV) (I : mM) (Q : mO → mM → Prop) (hsp : spX11_runsBut fl avs I Q) : mVC0 SX11_runsBut fl Q kX11_runsBut 6 avs I := by
  obtain ⟨i, b, hh, but, rfl, h0⟩ := shRIII_inv hsp
  refine ⟨rfl, ?_⟩
  show mWp _ _ _ _ _ _ kX11_runsBut_0 [some (mR i), some (mI b), some (mI hh), some (mI but), none, none] [] I
  obtain ⟨rfl, H, hb, hh1, hbut, h⟩ := h0
  have st8 := (steps_spec H hb hh1).1
  have ha := H.air hb hh1
  simp only [true_or, or_true, false_or, or_false, true_and, and_true, true_implies, false_implies, implies_true, not_true_eq_false, not_false_eq_true, and_self, List.length_cons, List.length_nil, mNoCut_, mCat_n, mCat_I, mCat_L, mCat_R, mIsL_n, mIsL_I, mIsL_R, mIsL_L, Nat.reduceAdd, Nat.reduceSub, Nat.reduceLeDiff, Nat.reduceLT, Nat.reduceEqDiff, Nat.zero_le, Int.reduceEq, Int.reduceLT, Int.reduceLE, Int.reduceNeg, Int.reduceAdd, if_true, if_false, reduceIte, reduceCtorEq, Bool.false_eq_true, ne_eq, qCmp_0, qCmp_1, qCmp_2, qCmp_3, qCmp_4, qCmp_5, ib_0, ib_1, ib_2, lb_0, lb_1, lb_2, dv_0, dv_1, wq_ic, wq_ld_i, wq_ld_a, wq_st_i, wq_ib, wq_idv, wq_icmp, wq_goto, wq_get, mGet_0, mGet_1, mGet_2, mGet_3, wq_ald, wq_ret0, wq_ret1, wq_ret2, wq_ret3, wq_ret4, wq_max, wq_min, wq_abs, wq_lmax, ldR0, ldI1, ldI2, ldI3, wq_callV4_0, stI4, ldI4, mrg_m1_, wq_callV3_0, mrg_6_, mrg_4_, wq_callV5_0, stI5, mrg_3_, ldI5, wq_callS1_1, fk_11_0, mrg_2_, mPut_s, mPut_I0, mPut_R0, mPut_L0, mPut_I1, mPut_R1, mPut_L1, mGo_n, sfxX11_runsBut_35, cutX11_runsBut_35, sfxX11_runsBut_36, cutX11_runsBut_36, sfxX11_runsBut_37, cutX11_runsBut_37, kX11_runsBut_37, kX11_runsBut_36, kX11_runsBut_35, kX11_runsBut_0, sk_200, al_200, rf_200_0, sk_201, al_201, sn_201, ald_n, ro0_n, al_ro, SX11_runsBut_0, SX11_runsBut_1, SX11_runsBut_2, SX11_runsBut_3, SX11_runsBut_4, SX11_runsBut_5, SX11_runsBut_6, SX11_runsBut_7, shqRIII_, shqRII_, shqRIIII_, shqI_, spX11_stopStep, spX11_airOf, spX11_stepsOf, spX11_soonest, spX11_tickAt, spX11_ofFielder, spX11_cellAt, spX11_fromBat, mrg, mrl, mSet_ap, ncast, Option.some.injEq]
  have sp := stopT_sp (stT (I 201)) (pcT (I 201)) (cellT (I 201) b hh) (tickT (I 201) b hh) (airT (I 201) b hh) (stepsT (I 201) b hh) but (by omega)
  have e4 : ∀ f, I 201 (550 + 5 * f + 4) = amT (I 201) f := fun _ => rfl
  simp only [e4]
  unfold runsButT runsByT at h
  generalize hk : stopT (stT (I 201)) (pcT (I 201)) (cellT (I 201) b hh) (tickT (I 201) b hh) (airT (I 201) b hh) (stepsT (I 201) b hh) but = k at *
  have sb := soonT_bd (stT (I 201)) (pcT (I 201)) (cellT (I 201) b hh k) (tickT (I 201) b hh k) but
  generalize hf : soonT (stT (I 201)) (pcT (I 201)) (cellT (I 201) b hh k) (tickT (I 201) b hh k) but = f at *
  refine ⟨H, hb, hh1, hbut, ⟨by omega, by omega⟩, fun z => ?_, fun z => ?_⟩
  · have cl1 := cell_in H hb hh1 (k := k) ⟨by omega, by omega⟩
    have tk1 := tickT_bd H hb hh1 (k := k) (by omega) (by omega)
    have fl1 := H.fld (f := f) ⟨by omega, by omega⟩
    have f1 := far_bd cl1 (b := 144) ⟨by omega, by omega⟩
    have p1 := prod_bd (x := amT (I 201) f) (a := 9) ⟨by omega, by omega⟩ f1
    have hr := H.1.2.2.1
    rw [if_neg z] at h
    generalize hx : tickT (I 201) b hh k + amT (I 201) f * far (cellT (I 201) b hh k) 144 = x at *
    have hx0 : 0 ≤ x ∧ x ≤ 10000 := by omega
    have hd := Int.tdiv_eq_ediv_of_nonneg (b := I 201 2) hx0.1
    have d0 : 0 ≤ x / I 201 2 := Int.ediv_nonneg hx0.1 (by omega)
    have d1 : x / I 201 2 ≤ x := Int.ediv_le_self _ hx0.1
    rw [hd]
    exact ⟨H, hb, hh1, ⟨by omega, by omega⟩, hbut, H, hb, hh1, ⟨by omega, by omega⟩, ⟨by omega, by omega⟩, H, hb, hh1, cl1, ⟨⟨by omega, by omega⟩, ⟨by omega, by omega⟩, by omega⟩, ⟨by omega, by omega⟩, h⟩
  · rw [if_pos (by omega)] at h
    refine ⟨H, hb, hh1, H, hb, hh1, ⟨⟨by omega, by omega⟩, by omega, by omega⟩, fun z => ?_, fun z => ?_⟩
    · rw [if_neg (by omega)] at h
      exact h
    · rw [if_pos (by omega)] at h
      exact h
theorem ctrX11_runsBut {l : Launch} (hst : l.stackTraces = false) (hT : mTxM l) : mCtr l calX11_runsBut spX11_runsBut :=
  mMet0 (T := TX11_runsBut) (S := SX11_runsBut) hst hT (by decide) okX11_runsBut ⟨_, _, rfl, rfl⟩ (fun a => match a with
    | 0 => ctrX11_stopStep hst hT
    | 1 => ctrX11_airOf hst hT
    | 2 => ctrX11_stepsOf hst hT
    | 3 => ctrX11_soonest hst hT
    | 4 => ctrX11_tickAt hst hT
    | 5 => ctrX11_ofFielder hst hT
    | 6 => ctrX11_cellAt hst hT
    | 7 => ctrX11_fromBat hst hT
    | _ + 8 => mCtr_no) vcX11_runsBut

def spX11_runsOf : mSp := shRII (fun _ i b h I Q => i = some 200 ∧ WFt (I 201) ∧ (0 ≤ b ∧ b < 6) ∧ (0 ≤ h ∧ h < 8) ∧ Q (.inl (some (mI (runsT (I 201) b h)))) I)
def SX11_runsOf : Nat → mSp := fun a => match a with
  | 0 => spX11_catcherOf
  | 1 => spX11_runsBut
  | _ => fun _ _ _ _ => False
theorem SX11_runsOf_0 : SX11_runsOf 0 = spX11_catcherOf := Eq.trans rfl rfl
theorem SX11_runsOf_1 : SX11_runsOf 1 = spX11_runsBut := Eq.trans rfl rfl
set_option maxRecDepth 100000 in
set_option maxHeartbeats 4000000 in
theorem vcX11_runsOf (fl : Nat → Bool) (avs : List mV) (I : mM) (Q : mO → mM → Prop) (hsp : spX11_runsOf fl avs I Q) : mVC0 SX11_runsOf fl Q kX11_runsOf 3 avs I := by
  obtain ⟨i, b, hh, rfl, h0⟩ := shRII_inv hsp
  refine ⟨rfl, ?_⟩
  show mWp _ _ _ _ _ _ kX11_runsOf_0 [some (mR i), some (mI b), some (mI hh)] [] I
  obtain ⟨rfl, H, hb, hh1, h⟩ := h0
  simp only [true_or, or_true, false_or, or_false, true_and, and_true, true_implies, false_implies, implies_true, not_true_eq_false, not_false_eq_true, and_self, List.length_cons, List.length_nil, mNoCut_, mCat_n, mCat_I, mCat_L, mCat_R, mIsL_n, mIsL_I, mIsL_R, mIsL_L, Nat.reduceAdd, Nat.reduceSub, Nat.reduceLeDiff, Nat.reduceLT, Nat.reduceEqDiff, Nat.zero_le, Int.reduceEq, Int.reduceLT, Int.reduceLE, Int.reduceNeg, Int.reduceAdd, if_true, if_false, reduceIte, reduceCtorEq, Bool.false_eq_true, ne_eq, qCmp_0, qCmp_1, qCmp_2, qCmp_3, qCmp_4, qCmp_5, ib_0, ib_1, ib_2, lb_0, lb_1, lb_2, dv_0, dv_1, wq_ld_i, wq_ld_a, wq_ret0, wq_ret1, wq_ret2, wq_ret3, wq_ret4, ldR0, ldI1, ldI2, wq_callV3_0, wq_callV4_0, kX11_runsOf_0, sk_200, al_200, SX11_runsOf_0, SX11_runsOf_1, shqRII_, shqRIII_, spX11_catcherOf, spX11_runsBut, mrg, mrl, mSet_ap, ncast, Option.some.injEq]
  have cb := catcherT_bd (stT (I 201)) (pcT (I 201)) (cellT (I 201) b hh) (tickT (I 201) b hh) (airT (I 201) b hh) (stepsT (I 201) b hh)
  exact ⟨H, hb, hh1, H, hb, hh1, ⟨cb.1, cb.2.1⟩, h⟩
theorem ctrX11_runsOf {l : Launch} (hst : l.stackTraces = false) (hT : mTxM l) : mCtr l calX11_runsOf spX11_runsOf :=
  mMet0 (T := TX11_runsOf) (S := SX11_runsOf) hst hT (by decide) okX11_runsOf ⟨_, _, rfl, rfl⟩ (fun a => match a with
    | 0 => ctrX11_catcherOf hst hT
    | 1 => ctrX11_runsBut hst hT
    | _ + 2 => mCtr_no) vcX11_runsOf

def spX11_costOf : mSp := shRII (fun _ i b h I Q => i = some 200 ∧ WFt (I 201) ∧ (0 ≤ b ∧ b < 6) ∧ (0 ≤ h ∧ h < 8) ∧ Q (.inl (some (mI (costT (I 201) b h)))) I)
def SX11_costOf : Nat → mSp := fun a => match a with
  | 0 => spX11_catchOf
  | 1 => spX11_runsOf
  | _ => fun _ _ _ _ => False
theorem SX11_costOf_0 : SX11_costOf 0 = spX11_catchOf := Eq.trans rfl rfl
theorem SX11_costOf_1 : SX11_costOf 1 = spX11_runsOf := Eq.trans rfl rfl
set_option maxRecDepth 100000 in
set_option maxHeartbeats 4000000 in
theorem vcX11_costOf (fl : Nat → Bool) (avs : List mV) (I : mM) (Q : mO → mM → Prop) (hsp : spX11_costOf fl avs I Q) : mVC0 SX11_costOf fl Q kX11_costOf 4 avs I := by
  obtain ⟨i, b, hh, rfl, h0⟩ := shRII_inv hsp
  refine ⟨rfl, ?_⟩
  show mWp _ _ _ _ _ _ kX11_costOf_0 [some (mR i), some (mI b), some (mI hh), none] [] I
  obtain ⟨rfl, H, hb, hh1, h⟩ := h0
  simp only [true_or, or_true, false_or, or_false, true_and, and_true, true_implies, false_implies, implies_true, not_true_eq_false, not_false_eq_true, and_self, List.length_cons, List.length_nil, mNoCut_, mCat_n, mCat_I, mCat_L, mCat_R, mIsL_n, mIsL_I, mIsL_R, mIsL_L, Nat.reduceAdd, Nat.reduceSub, Nat.reduceLeDiff, Nat.reduceLT, Nat.reduceEqDiff, Nat.zero_le, Int.reduceEq, Int.reduceLT, Int.reduceLE, Int.reduceNeg, Int.reduceAdd, if_true, if_false, reduceIte, reduceCtorEq, Bool.false_eq_true, ne_eq, qCmp_0, qCmp_1, qCmp_2, qCmp_3, qCmp_4, qCmp_5, ib_0, ib_1, ib_2, lb_0, lb_1, lb_2, dv_0, dv_1, wq_ic, wq_ld_i, wq_ld_a, wq_st_i, wq_ib, wq_get, mGet_0, mGet_1, mGet_2, mGet_3, wq_ald, wq_ret0, wq_ret1, wq_ret2, wq_ret3, wq_ret4, ldR0, ldI1, ldI2, wq_callV3_0, stI3, mrg_100_, ldI3, fk_11_0, mrg_3_, mPut_s, mPut_I0, mPut_R0, mPut_L0, mPut_I1, mPut_R1, mPut_L1, kX11_costOf_0, sk_200, al_200, rf_200_0, sk_201, al_201, sn_201, ald_n, ro0_n, al_ro, SX11_costOf_0, SX11_costOf_1, shqRII_, spX11_catchOf, spX11_runsOf, mrg, mrl, mSet_ap, ncast, Option.some.injEq]
  exact ⟨H, hb, hh1, H, hb, hh1, h⟩
theorem ctrX11_costOf {l : Launch} (hst : l.stackTraces = false) (hT : mTxM l) : mCtr l calX11_costOf spX11_costOf :=
  mMet0 (T := TX11_costOf) (S := SX11_costOf) hst hT (by decide) okX11_costOf ⟨_, _, rfl, rfl⟩ (fun a => match a with
    | 0 => ctrX11_catchOf hst hT
    | 1 => ctrX11_runsOf hst hT
    | _ + 2 => mCtr_no) vcX11_costOf

end SPM5
