section SPM4
def spX11_reaches : mSp := shRIIII (fun _ i f b h k I Q => i = some 200 ∧ WFt (I 201) ∧ (0 ≤ f ∧ f < 9) ∧ (0 ≤ b ∧ b < 6) ∧ (0 ≤ h ∧ h < 8) ∧ (0 ≤ k ∧ k ≤ stepsT (I 201) b h) ∧ (stT (I 201) f ≠ -1 ∧ far (stT (I 201) f) (cellT (I 201) b h k) * pcT (I 201) f ≤ tickT (I 201) b h k → Q (.inl (some (mI 1))) I) ∧ (¬ (stT (I 201) f ≠ -1 ∧ far (stT (I 201) f) (cellT (I 201) b h k) * pcT (I 201) f ≤ tickT (I 201) b h k) → Q (.inl (some (mI 0))) I))
def SX11_reaches : Nat → mSp := fun a => match a with
  | 0 => spX11_standOf
  | 1 => spX11_cellAt
  | 2 => spX11_far
  | 3 => spX11_ofFielder
  | 4 => spX11_tickAt
  | _ => fun _ _ _ _ => False
theorem SX11_reaches_0 : SX11_reaches 0 = spX11_standOf := Eq.trans rfl rfl
theorem SX11_reaches_1 : SX11_reaches 1 = spX11_cellAt := Eq.trans rfl rfl
theorem SX11_reaches_2 : SX11_reaches 2 = spX11_far := Eq.trans rfl rfl
theorem SX11_reaches_3 : SX11_reaches 3 = spX11_ofFielder := Eq.trans rfl rfl
theorem SX11_reaches_4 : SX11_reaches 4 = spX11_tickAt := Eq.trans rfl rfl
set_option maxRecDepth 100000 in
set_option maxHeartbeats 4000000 in
theorem vcX11_reaches (fl : Nat → Bool) (avs : List mV) (I : mM) (Q : mO → mM → Prop) (hsp : spX11_reaches fl avs I Q) : mVC0 SX11_reaches fl Q kX11_reaches 5 avs I := by
  obtain ⟨i, f, b, hh, k, rfl, h0⟩ := shRIIII_inv hsp
  refine ⟨rfl, ?_⟩
  show mWp _ _ _ _ _ _ kX11_reaches_0 [some (mR i), some (mI f), some (mI b), some (mI hh), some (mI k)] [] I
  obtain ⟨rfl, H, hf, hb, hh1, hk, h1, h2⟩ := h0
  have fl1 := H.fld hf
  have cl1 := cell_in H hb hh1 hk
  have tk1 := tickT_bd H hb hh1 hk.1 hk.2
  have st8 := (steps_spec H hb hh1).1
  simp only [true_or, or_true, false_or, or_false, true_and, and_true, true_implies, false_implies, implies_true, not_true_eq_false, not_false_eq_true, and_self, List.length_cons, List.length_nil, mNoCut_, mCat_n, mCat_I, mCat_L, mCat_R, mIsL_n, mIsL_I, mIsL_R, mIsL_L, Nat.reduceAdd, Nat.reduceSub, Nat.reduceLeDiff, Nat.reduceLT, Nat.reduceEqDiff, Nat.zero_le, Int.reduceEq, Int.reduceLT, Int.reduceLE, Int.reduceNeg, Int.reduceAdd, if_true, if_false, reduceIte, reduceCtorEq, Bool.false_eq_true, ne_eq, qCmp_0, qCmp_1, qCmp_2, qCmp_3, qCmp_4, qCmp_5, ib_0, ib_1, ib_2, lb_0, lb_1, lb_2, dv_0, dv_1, wq_ic, wq_ld_i, wq_ld_a, wq_ib, wq_icmp, wq_goto, wq_ret0, wq_ret1, wq_ret2, wq_ret3, wq_ret4, ldR0, ldI1, wq_callV2_0, mrg_m1_, ldI2, ldI3, ldI4, wq_callV4_0, wq_callS2_1, mrg_1_, wq_callV3_0, mrg_0_, mGo_n, sfxX11_reaches_47, cutX11_reaches_47, sfxX11_reaches_48, cutX11_reaches_48, kX11_reaches_48, kX11_reaches_47, kX11_reaches_0, sk_200, al_200, SX11_reaches_0, SX11_reaches_1, SX11_reaches_2, SX11_reaches_3, SX11_reaches_4, shqRI_, shqRIII_, shqII_, shqRII_, spX11_standOf, spX11_cellAt, spX11_far, spX11_ofFielder, spX11_tickAt, mrg, mrl, mSet_ap, ncast, Option.some.injEq]
  have e : I 201 (550 + 5 * f + 1) = pcT (I 201) f := rfl
  simp only [e]
  refine ⟨hf, by omega, fun z => h2 (fun w => w.1 z), fun z => ?_⟩
  have fb := far_bd (a := stT (I 201) f) ⟨by omega, by omega⟩ cl1
  have pb := prod_bd fb (y := pcT (I 201) f) (b := 9) ⟨by omega, fl1.2.1.2⟩
  exact ⟨hf, H, hb, hh1, ⟨by omega, by omega⟩, cl1, hf, H, hb, hh1, hk, ⟨⟨by omega, by omega⟩, by omega, by omega⟩, fun w => h2 (fun q => by omega), fun w => h1 ⟨z, by omega⟩⟩
theorem ctrX11_reaches {l : Launch} (hst : l.stackTraces = false) (hT : mTxM l) : mCtr l calX11_reaches spX11_reaches :=
  mMet0 (T := TX11_reaches) (S := SX11_reaches) hst hT (by decide) okX11_reaches ⟨_, _, rfl, rfl⟩ (fun a => match a with
    | 0 => ctrX11_standOf hst hT
    | 1 => ctrX11_cellAt hst hT
    | 2 => ctrX11_far hst hT
    | 3 => ctrX11_ofFielder hst hT
    | 4 => ctrX11_tickAt hst hT
    | _ + 5 => mCtr_no) vcX11_reaches

def spX11_soonest : mSp := shRIIII (fun _ i b h k but I Q => i = some 200 ∧ WFt (I 201) ∧ (0 ≤ b ∧ b < 6) ∧ (0 ≤ h ∧ h < 8) ∧ (0 ≤ k ∧ k ≤ stepsT (I 201) b h) ∧ (-1 ≤ but ∧ but < 9) ∧ Q (.inl (some (mI (soonT (stT (I 201)) (pcT (I 201)) (cellT (I 201) b h k) (tickT (I 201) b h k) but)))) I)
def SX11_soonest : Nat → mSp := fun a => match a with
  | 0 => spX11_reaches
  | 1 => spX11_standOf
  | 2 => spX11_cellAt
  | 3 => spX11_far
  | 4 => spX11_ofFielder
  | _ => fun _ _ _ _ => False
theorem SX11_soonest_0 : SX11_soonest 0 = spX11_reaches := Eq.trans rfl rfl
theorem SX11_soonest_1 : SX11_soonest 1 = spX11_standOf := Eq.trans rfl rfl
theorem SX11_soonest_2 : SX11_soonest 2 = spX11_cellAt := Eq.trans rfl rfl
theorem SX11_soonest_3 : SX11_soonest 3 = spX11_far := Eq.trans rfl rfl
theorem SX11_soonest_4 : SX11_soonest 4 = spX11_ofFielder := Eq.trans rfl rfl
theorem cutsX11_soonest {t : Nat} {bs : List Bool} (h : cutX11_soonest t = some bs) : (t = 6 ∧ bs = [true, true, true, true, true, true, true]) := by
  unfold cutX11_soonest at h
  simp only [mLk] at h
  by_cases h0 : 6 = t
  · subst h0
    simp at h
    exact ⟨rfl, h.symm⟩
  rw [if_neg h0] at h
  cases h
set_option maxRecDepth 100000 in
set_option maxHeartbeats 4000000 in
theorem vcX11_soonest (fl : Nat → Bool) (avs : List mV) (I : mM) (Q : mO → mM → Prop) (hsp : spX11_soonest fl avs I Q) : mVC SX11_soonest fl Q kX11_soonest cutX11_soonest 7 avs I := by
  obtain ⟨i, b, hh, k, but, rfl, h0⟩ := shRIIII_inv hsp
  obtain ⟨rfl, H, hb, hh1, hk, hbut, h⟩ := h0
  have cl1 := cell_in H hb hh1 hk
  have tk1 := tickT_bd H hb hh1 hk.1 hk.2
  have st8 := (steps_spec H hb hh1).1
  refine ⟨rfl, (fun n t lv st I1 => I1 = I ∧ st = [] ∧ ∃ (best : Int) (j : Nat), lv = [some (mR (some 200)), some (mI b), some (mI hh), some (mI k), some (mI but), some (mI best), some (mI j)] ∧ best = soonU (stT (I 201)) (pcT (I 201)) (cellT (I 201) b hh k) (tickT (I 201) b hh k) but j ∧ j ≤ 9 ∧ n = 9 - j), ?_, ?_⟩
  · intro n t bs hbs lv st I1 hc
    rcases cutsX11_soonest hbs with ⟨rfl, rfl⟩
    rw [sfxX11_soonest_6]
    obtain ⟨rfl, rfl, best, j, rfl, eb, hj, hn⟩ := hc
    have sb := soonU_bd (stT (I1 201)) (pcT (I1 201)) (cellT (I1 201) b hh k) (tickT (I1 201) b hh k) but j
    have hs : soonU (stT (I1 201)) (pcT (I1 201)) (cellT (I1 201) b hh k) (tickT (I1 201) b hh k) but (j + 1) = if (j : Int) = but ∨ stT (I1 201) j = -1 ∨ tickT (I1 201) b hh k < far (stT (I1 201) j) (cellT (I1 201) b hh k) * pcT (I1 201) j then soonU (stT (I1 201)) (pcT (I1 201)) (cellT (I1 201) b hh k) (tickT (I1 201) b hh k) but j else if soonU (stT (I1 201)) (pcT (I1 201)) (cellT (I1 201) b hh k) (tickT (I1 201) b hh k) but j = -1 ∨ far (stT (I1 201) j) (cellT (I1 201) b hh k) * pcT (I1 201) j < far (stT (I1 201) (soonU (stT (I1 201)) (pcT (I1 201)) (cellT (I1 201) b hh k) (tickT (I1 201) b hh k) but j)) (cellT (I1 201) b hh k) * pcT (I1 201) (soonU (stT (I1 201)) (pcT (I1 201)) (cellT (I1 201) b hh k) (tickT (I1 201) b hh k) but j) then (j : Int) else soonU (stT (I1 201)) (pcT (I1 201)) (cellT (I1 201) b hh k) (tickT (I1 201) b hh k) but j := rfl
    rw [← eb] at hs sb
    simp only [true_or, or_true, false_or, or_false, true_and, and_true, true_implies, false_implies, implies_true, not_true_eq_false, not_false_eq_true, and_self, List.length_cons, List.length_nil, mNoCut_, mCat_n, mCat_I, mCat_L, mCat_R, mIsL_n, mIsL_I, mIsL_R, mIsL_L, Nat.reduceAdd, Nat.reduceSub, Nat.reduceLeDiff, Nat.reduceLT, Nat.reduceEqDiff, Nat.zero_le, Int.reduceEq, Int.reduceLT, Int.reduceLE, Int.reduceNeg, Int.reduceAdd, if_true, if_false, reduceIte, reduceCtorEq, Bool.false_eq_true, ne_eq, qCmp_0, qCmp_1, qCmp_2, qCmp_3, qCmp_4, qCmp_5, ib_0, ib_1, ib_2, lb_0, lb_1, lb_2, dv_0, dv_1, wq_ic, wq_ld_i, wq_ld_a, wq_st_i, wq_iinc, wq_ib, wq_icmp, wq_if, wq_goto, wq_ret0, wq_ret1, wq_ret2, wq_ret3, wq_ret4, mrg_m1_, stI5, mrg_0_, stI6, ldI6, mrg_9_, ldI4, ldR0, ldI1, ldI2, ldI3, wq_callV5_0, ldI5, wq_callV2_0, wq_callV4_0, wq_callS2_1, mrg_1_, wq_callV3_0, wqinc6, mPut_s, mPut_I0, mPut_R0, mPut_L0, mPut_I1, mPut_R1, mPut_L1, mGo_n, sfxX11_soonest_6, cutX11_soonest_6, sfxX11_soonest_35, cutX11_soonest_35, sfxX11_soonest_92, cutX11_soonest_92, sfxX11_soonest_96, cutX11_soonest_96, sfxX11_soonest_102, cutX11_soonest_102, wq_cut, mGo_c, mMask_t, mMask_f, mMask_n, kX11_soonest_102, kX11_soonest_96, kX11_soonest_92, kX11_soonest_35, kX11_soonest_6, kX11_soonest_0, sk_200, al_200, SX11_soonest_0, SX11_soonest_1, SX11_soonest_2, SX11_soonest_3, SX11_soonest_4, shqRIIII_, shqRI_, shqRIII_, shqII_, shqRII_, spX11_reaches, spX11_standOf, spX11_cellAt, spX11_far, spX11_ofFielder, mrg, mrl, mSet_ap, ncast, Option.some.injEq]
    have e : ∀ f, I1 201 (550 + 5 * f + 1) = pcT (I1 201) f := fun _ => rfl
    simp only [e]
    have go : ∀ b', j < 9 → b' = soonU (stT (I1 201)) (pcT (I1 201)) (cellT (I1 201) b hh k) (tickT (I1 201) b hh k) but (j + 1) → ∃ n', n' < n ∧ ∃ (b2 : Int) (j2 : Nat), [some (mR (some 200)), some (mI b), some (mI hh), some (mI k), some (mI but), some (mI b'), some (mI ((j : Int) + 1))] = [some (mR (some 200)), some (mI b), some (mI hh), some (mI k), some (mI but), some (mI b2), some (mI j2)] ∧ b2 = soonU (stT (I1 201)) (pcT (I1 201)) (cellT (I1 201) b hh k) (tickT (I1 201) b hh k) but j2 ∧ j2 ≤ 9 ∧ n' = 9 - j2 := fun b' hj9 eb' => ⟨9 - (j + 1), by omega, b', j + 1, rfl, eb', by omega, rfl⟩
    refine ⟨⟨by omega, by omega⟩, fun z => ?_, fun z => ?_⟩
    · have : j = 9 := by omega
      subst this
      exact q_I eb.symm h
    have hj9 : j < 9 := by omega
    have fj := H.fld (f := j) ⟨by omega, by omega⟩
    refine ⟨⟨⟨by omega, by omega⟩, by omega, by omega⟩, fun w => go _ hj9 (by rw [hs, if_pos (Or.inl w)]), fun w => ⟨H, ⟨by omega, by omega⟩, hb, hh1, hk, fun r => ⟨⟨by omega, by omega⟩, fun x => go _ hj9 (by rw [hs, if_neg (fun q => by omega), if_pos (Or.inl x)]), fun x => ?_⟩, fun r => go _ hj9 (by rw [hs, if_pos (by omega)])⟩⟩
    have fb := H.fld (f := best) ⟨by omega, by omega⟩
    have sb3 := sb.2.2 x
    have f1 := far_bd (a := stT (I1 201) j) (b := cellT (I1 201) b hh k) ⟨by omega, by omega⟩ cl1
    have f2 := far_bd (a := stT (I1 201) best) (b := cellT (I1 201) b hh k) ⟨by omega, by omega⟩ cl1
    have p1 := prod_bd f1 (y := pcT (I1 201) j) (b := 9) ⟨by omega, fj.2.1.2⟩
    have p2 := prod_bd f2 (y := pcT (I1 201) best) (b := 9) ⟨by omega, fb.2.1.2⟩
    refine ⟨⟨by omega, by omega⟩, H, hb, hh1, ⟨by omega, by omega⟩, cl1, ⟨by omega, by omega⟩, ⟨by omega, by omega⟩, H, hb, hh1, ⟨by omega, by omega⟩, cl1, ⟨by omega, by omega⟩, ⟨⟨by omega, by omega⟩, by omega, by omega⟩, fun y => go _ hj9 ?_, fun y => go _ hj9 ?_⟩
    · rw [hs, if_neg (fun q => by omega), if_neg (fun q => by omega)]
    · rw [hs, if_neg (fun q => by omega), if_pos (Or.inr (by omega))]
  · show mWp _ _ _ _ _ _ kX11_soonest_0 [some (mR (some 200)), some (mI b), some (mI hh), some (mI k), some (mI but), none, none] [] I
    simp only [true_or, or_true, false_or, or_false, true_and, and_true, true_implies, false_implies, implies_true, not_true_eq_false, not_false_eq_true, and_self, List.length_cons, List.length_nil, mNoCut_, mCat_n, mCat_I, mCat_L, mCat_R, mIsL_n, mIsL_I, mIsL_R, mIsL_L, Nat.reduceAdd, Nat.reduceSub, Nat.reduceLeDiff, Nat.reduceLT, Nat.reduceEqDiff, Nat.zero_le, Int.reduceEq, Int.reduceLT, Int.reduceLE, Int.reduceNeg, Int.reduceAdd, if_true, if_false, reduceIte, reduceCtorEq, Bool.false_eq_true, ne_eq, qCmp_0, qCmp_1, qCmp_2, qCmp_3, qCmp_4, qCmp_5, ib_0, ib_1, ib_2, lb_0, lb_1, lb_2, dv_0, dv_1, wq_ic, wq_ld_i, wq_ld_a, wq_st_i, wq_iinc, wq_ib, wq_icmp, wq_if, wq_goto, wq_ret0, wq_ret1, wq_ret2, wq_ret3, wq_ret4, mrg_m1_, stI5, mrg_0_, stI6, ldI6, mrg_9_, ldI4, ldR0, ldI1, ldI2, ldI3, wq_callV5_0, ldI5, wq_callV2_0, wq_callV4_0, wq_callS2_1, mrg_1_, wq_callV3_0, wqinc6, mPut_s, mPut_I0, mPut_R0, mPut_L0, mPut_I1, mPut_R1, mPut_L1, mGo_n, sfxX11_soonest_6, cutX11_soonest_6, sfxX11_soonest_35, cutX11_soonest_35, sfxX11_soonest_92, cutX11_soonest_92, sfxX11_soonest_96, cutX11_soonest_96, sfxX11_soonest_102, cutX11_soonest_102, wq_cut, mGo_c, mMask_t, mMask_f, mMask_n, kX11_soonest_102, kX11_soonest_96, kX11_soonest_92, kX11_soonest_35, kX11_soonest_6, kX11_soonest_0, sk_200, al_200, SX11_soonest_0, SX11_soonest_1, SX11_soonest_2, SX11_soonest_3, SX11_soonest_4, shqRIIII_, shqRI_, shqRIII_, shqII_, shqRII_, spX11_reaches, spX11_standOf, spX11_cellAt, spX11_far, spX11_ofFielder, mrg, mrl, mSet_ap, ncast, Option.some.injEq]
    exact ⟨9, -1, 0, rfl, rfl, by omega, by omega⟩
theorem ctrX11_soonest {l : Launch} (hst : l.stackTraces = false) (hT : mTxM l) : mCtr l calX11_soonest spX11_soonest :=
  mMet (T := TX11_soonest) (S := SX11_soonest) hst hT cutX11_soonest (by decide) okX11_soonest ⟨_, _, rfl, rfl⟩ trivial (fun t bs h => by rcases cutsX11_soonest h with ⟨-, rfl⟩ <;> rfl) (fun a => match a with
    | 0 => ctrX11_reaches hst hT
    | 1 => ctrX11_standOf hst hT
    | 2 => ctrX11_cellAt hst hT
    | 3 => ctrX11_far hst hT
    | 4 => ctrX11_ofFielder hst hT
    | _ + 5 => mCtr_no) vcX11_soonest

end SPM4
