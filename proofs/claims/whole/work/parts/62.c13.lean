section SPC13
def spX10_draw : mSp := shR (fun _ i I Q => i = some 0 ∧ Q (.inl (some (mI (ib 8 (nx (I 0 15)) 16)))) (mSet I 0 15 (nx (I 0 15))))
def SX10_draw : Nat → mSp := fun a => match a with
  | _ => fun _ _ _ _ => False
set_option maxRecDepth 100000 in
set_option maxHeartbeats 1000000 in
theorem vcX10_draw (fl : Nat → Bool) (avs : List mV) (I : mM) (Q : mO → mM → Prop) (hsp : spX10_draw fl avs I Q) : mVC0 SX10_draw fl Q kX10_draw 1 avs I := by
  obtain ⟨i, rfl, h0⟩ := shR_inv hsp
  refine ⟨rfl, ?_⟩
  show mWp _ _ _ _ _ _ kX10_draw_0 [some (mR i)] [] I
  obtain ⟨rfl, h⟩ := h0
  unfold nx at h
  simp only [false_and, and_false, true_or, or_true, false_or, or_false, true_and, and_true, true_implies, false_implies, implies_true, not_true_eq_false, not_false_eq_true, and_self, List.length_cons, List.length_nil, mNoCut_, mCat_n, mCat_I, mCat_L, mCat_R, mIsL_n, mIsL_I, mIsL_R, mIsL_L, Nat.reduceAdd, Nat.reduceSub, Nat.reduceLeDiff, Nat.reduceLT, Nat.reduceEqDiff, Nat.zero_le, Int.reduceEq, Int.reduceLT, Int.reduceLE, Int.reduceNeg, Int.reduceAdd, if_true, if_false, reduceIte, reduceCtorEq, Bool.false_eq_true, ne_eq, qCmp_0, qCmp_1, qCmp_2, qCmp_3, qCmp_4, qCmp_5, ib_0, ib_1, ib_2, lb_0, lb_1, lb_2, dv_0, dv_1, wq_ic, wq_ld_a, wq_ib, wq_get, mGet_0, mGet_1, mGet_2, mGet_3, wq_putI, wq_putL, wq_ret0, wq_ret1, wq_ret2, wq_ret3, wq_ret4, ldR0, mrg_1103515245_, fk_10_15, mrg_12345_, mrg_16_, kX10_draw_0, sk_0, al_0, mrg, mrl, mSet_ap, ncast, Option.some.injEq]
  exact h
theorem ctrX10_draw {l : Launch} (hst : l.stackTraces = false) (hT : mTxM l) : mCtr l calX10_draw spX10_draw :=
  mMet0 (T := TX10_draw) (S := SX10_draw) hst hT (by decide) okX10_draw ⟨_, _, rfl, rfl⟩ (fun a => mCtr_no) vcX10_draw

def spX1_note : mSp := shRII (fun _ i m o I Q => i = some 13 ∧ mrg m ∧ (o = 0 ∨ o = 1) ∧ Q (.inl none) (mSet (mSet (mSet (mSet I 27 0 (I 27 0 + m)) 27 1 (I 27 1 + o)) 27 2 (I 27 2 + if 4 ≤ m then 1 else 0)) 27 3 (I 27 3 + 1)))
def SX1_note : Nat → mSp := fun a => match a with
  | _ => fun _ _ _ _ => False
set_option maxRecDepth 100000 in
set_option maxHeartbeats 1000000 in
theorem vcX1_note (fl : Nat → Bool) (avs : List mV) (I : mM) (Q : mO → mM → Prop) (hsp : spX1_note fl avs I Q) : mVC0 SX1_note fl Q kX1_note 3 avs I := by
  obtain ⟨i, m, o, rfl, h0⟩ := shRII_inv hsp
  refine ⟨rfl, ?_⟩
  show mWp _ _ _ _ _ _ kX1_note_0 [some (mR i), some (mI m), some (mI o)] [] I
  obtain ⟨rfl, hm, ho, h⟩ := h0
  have e1 : ∀ _ : Unit, 4 ≤ m → Q (.inl none) (mSet (mSet (mSet (mSet I 27 0 (I 27 0 + m)) 27 1 (I 27 1 + o)) 27 2 (I 27 2 + 1)) 27 3 (I 27 3 + 1)) := fun _ z => by
    rw [if_pos z] at h
    exact h
  have e2 : ∀ _ : Unit, ¬ 4 ≤ m → Q (.inl none) (mSet (mSet (mSet (mSet I 27 0 (I 27 0 + m)) 27 1 (I 27 1 + o)) 27 2 (I 27 2 + 0)) 27 3 (I 27 3 + 1)) := fun _ z => by
    rw [if_neg z] at h
    exact h
  clear h
  rcases ho with rfl | rfl
  · simp only [false_and, and_false, true_or, or_true, false_or, or_false, true_and, and_true, true_implies, false_implies, implies_true, not_true_eq_false, not_false_eq_true, and_self, List.length_cons, List.length_nil, mNoCut_, mCat_n, mCat_I, mCat_L, mCat_R, mIsL_n, mIsL_I, mIsL_R, mIsL_L, Nat.reduceAdd, Nat.reduceSub, Nat.reduceLeDiff, Nat.reduceLT, Nat.reduceEqDiff, Nat.zero_le, Int.reduceEq, Int.reduceLT, Int.reduceLE, Int.reduceNeg, Int.reduceAdd, if_true, if_false, reduceIte, reduceCtorEq, Bool.false_eq_true, ne_eq, qCmp_0, qCmp_1, qCmp_2, qCmp_3, qCmp_4, qCmp_5, ib_0, ib_1, ib_2, lb_0, lb_1, lb_2, dv_0, dv_1, wq_ic, wq_ld_i, wq_ld_a, wq_ib, wq_icmp, wq_if, wq_goto, wq_get, mGet_0, mGet_1, mGet_2, mGet_3, wq_ald, wq_astI, wq_astL, wq_dup2, dup2_IR, wq_ret0, wq_ret1, wq_ret2, wq_ret3, wq_ret4, ldR0, fk_1_4, mrg_0_, ldI1, mrg_1_, ldI2, mrg_2_, mrg_4_, mrg_3_, mGo_n, sfxX1_note_25, cutX1_note_25, sfxX1_note_26, cutX1_note_26, sfxX1_note_44, cutX1_note_44, sfxX1_note_45, cutX1_note_45, kX1_note_45, kX1_note_44, kX1_note_26, kX1_note_25, kX1_note_0, sk_13, al_13, rf_13_4, sk_27, al_27, sn_27, ald_n, ro0_n, al_ro, mrg, mrl, mSet_ap, ncast, Option.some.injEq]
    (try simp only [mrg, mrl] at *) <;> repeat' (first | (with_reducible assumption) | (with_reducible apply And.intro) | intro _)
    all_goals first | omega | exact e1 () (by omega) | exact e2 () (by omega) | skip
  · simp only [false_and, and_false, true_or, or_true, false_or, or_false, true_and, and_true, true_implies, false_implies, implies_true, not_true_eq_false, not_false_eq_true, and_self, List.length_cons, List.length_nil, mNoCut_, mCat_n, mCat_I, mCat_L, mCat_R, mIsL_n, mIsL_I, mIsL_R, mIsL_L, Nat.reduceAdd, Nat.reduceSub, Nat.reduceLeDiff, Nat.reduceLT, Nat.reduceEqDiff, Nat.zero_le, Int.reduceEq, Int.reduceLT, Int.reduceLE, Int.reduceNeg, Int.reduceAdd, if_true, if_false, reduceIte, reduceCtorEq, Bool.false_eq_true, ne_eq, qCmp_0, qCmp_1, qCmp_2, qCmp_3, qCmp_4, qCmp_5, ib_0, ib_1, ib_2, lb_0, lb_1, lb_2, dv_0, dv_1, wq_ic, wq_ld_i, wq_ld_a, wq_ib, wq_icmp, wq_if, wq_goto, wq_get, mGet_0, mGet_1, mGet_2, mGet_3, wq_ald, wq_astI, wq_astL, wq_dup2, dup2_IR, wq_ret0, wq_ret1, wq_ret2, wq_ret3, wq_ret4, ldR0, fk_1_4, mrg_0_, ldI1, mrg_1_, ldI2, mrg_2_, mrg_4_, mrg_3_, mGo_n, sfxX1_note_25, cutX1_note_25, sfxX1_note_26, cutX1_note_26, sfxX1_note_44, cutX1_note_44, sfxX1_note_45, cutX1_note_45, kX1_note_45, kX1_note_44, kX1_note_26, kX1_note_25, kX1_note_0, sk_13, al_13, rf_13_4, sk_27, al_27, sn_27, ald_n, ro0_n, al_ro, mrg, mrl, mSet_ap, ncast, Option.some.injEq]
    (try simp only [mrg, mrl] at *) <;> repeat' (first | (with_reducible assumption) | (with_reducible apply And.intro) | intro _)
    all_goals first | omega | exact e1 () (by omega) | exact e2 () (by omega) | skip
theorem ctrX1_note {l : Launch} (hst : l.stackTraces = false) (hT : mTxM l) : mCtr l calX1_note spX1_note :=
  mMet0 (T := TX1_note) (S := SX1_note) hst hT (by decide) okX1_note ⟨_, _, rfl, rfl⟩ (fun a => mCtr_no) vcX1_note

def spX6_nearestTo : mSp := shRI (fun _ i c I Q => i = some 12 ∧ (0 ≤ c ∧ c < 289) ∧ stB (I 20) ∧ Q (.inl (some (mI (nearN (I 20) c 9)))) I)
def SX6_nearestTo : Nat → mSp := fun a => match a with
  | 0 => spX10_apart
  | _ => fun _ _ _ _ => False
theorem SX6_nearestTo_0 : SX6_nearestTo 0 = spX10_apart := Eq.trans rfl rfl
theorem cutsX6_nearestTo {t : Nat} {bs : List Bool} (h : cutX6_nearestTo t = some bs) : (t = 7 ∧ bs = [true, true, true, true, true, false]) := by
  unfold cutX6_nearestTo at h
  simp only [mLk] at h
  by_cases h0 : 7 = t
  · subst h0
    simp at h
    exact ⟨rfl, h.symm⟩
  rw [if_neg h0] at h
  cases h
set_option maxRecDepth 100000 in
set_option maxHeartbeats 1000000 in
theorem vcX6_nearestTo (fl : Nat → Bool) (avs : List mV) (I : mM) (Q : mO → mM → Prop) (hsp : spX6_nearestTo fl avs I Q) : mVC SX6_nearestTo fl Q kX6_nearestTo cutX6_nearestTo 6 avs I := by
  obtain ⟨i, c, rfl, h0⟩ := shRI_inv hsp
  obtain ⟨rfl, hc, hB, h⟩ := h0
  refine ⟨rfl, (fun m pc lv st I1 => st = [] ∧ I1 = I ∧ ∃ (j : Nat) (l : Int), lv = [some (mR (some 12)), some (mI c), some (mI (nearN (I 20) c j)), some (mI l), some (mI j), none] ∧ j ≤ 9 ∧ m = 9 - j ∧ (nearN (I 20) c j = -1 ∨ l = far (I 20 (nearN (I 20) c j)) c) ∧ (0 ≤ l ∧ l ≤ 16)), ?_, ?_⟩
  · intro n t bs hbs lv st I1 hc
    rcases cutsX6_nearestTo hbs with ⟨rfl, rfl⟩
    rw [sfxX6_nearestTo_7]
    obtain ⟨rfl, rfl, j, l, rfl, hj, hm, hl, hl2⟩ := hc
    have nb := nearN_bd (I1 20) c j
    have ns : nearN (I1 20) c (j + 1) = if I1 20 j ≠ -1 ∧ (nearN (I1 20) c j = -1 ∨ far (I1 20 j) c < far (I1 20 (nearN (I1 20) c j)) c) then (j : Int) else nearN (I1 20) c j := rfl
    have hfin : ∀ _ : Unit, j = 9 → Q (.inl (some (mI (nearN (I1 20) c j)))) I1 := fun _ z => by
      subst z
      exact h
    generalize hX : nearN (I1 20) c j = X at *
    clear h
    rcases Nat.lt_or_ge j 9 with z | z
    · have bj := hB j (by omega) (by omega)
      by_cases z2 : I1 20 j = -1
      · simp only [false_and, and_false, true_or, or_true, false_or, or_false, true_and, and_true, true_implies, false_implies, implies_true, not_true_eq_false, not_false_eq_true, and_self, List.length_cons, List.length_nil, mNoCut_, mCat_n, mCat_I, mCat_L, mCat_R, mIsL_n, mIsL_I, mIsL_R, mIsL_L, Nat.reduceAdd, Nat.reduceSub, Nat.reduceLeDiff, Nat.reduceLT, Nat.reduceEqDiff, Nat.zero_le, Int.reduceEq, Int.reduceLT, Int.reduceLE, Int.reduceNeg, Int.reduceAdd, if_true, if_false, reduceIte, reduceCtorEq, Bool.false_eq_true, ne_eq, qCmp_0, qCmp_1, qCmp_2, qCmp_3, qCmp_4, qCmp_5, ib_0, ib_1, ib_2, lb_0, lb_1, lb_2, dv_0, dv_1, wq_ic, wq_ld_i, wq_ld_a, wq_st_i, wq_iinc, wq_icmp, wq_goto, wq_get, mGet_0, mGet_1, mGet_2, mGet_3, wq_ald, wq_ret0, wq_ret1, wq_ret2, wq_ret3, wq_ret4, mrg_m1_, stI2, mrg_0_, stI3, stI4, ldI4, mrg_9_, ldR0, fk_6_0, ldI1, wq_callS2_3, stI5, ldI2, ldI5, ldI3, wqinc4, mPut_s, mPut_I0, mPut_R0, mPut_L0, mPut_I1, mPut_R1, mPut_L1, mGo_n, sfxX6_nearestTo_7, cutX6_nearestTo_7, sfxX6_nearestTo_28, cutX6_nearestTo_28, sfxX6_nearestTo_52, cutX6_nearestTo_52, sfxX6_nearestTo_58, cutX6_nearestTo_58, sfxX6_nearestTo_64, cutX6_nearestTo_64, wq_cut, mGo_c, mMask_t, mMask_f, mMask_n, kX6_nearestTo_64, kX6_nearestTo_58, kX6_nearestTo_52, kX6_nearestTo_28, kX6_nearestTo_7, kX6_nearestTo_0, sk_12, al_12, rf_12_0, sk_20, al_20, sn_20, ald_n, ro0_n, al_ro, SX6_nearestTo_0, shqII_, spX10_apart, mrg, mrl, mSet_ap, ncast, Option.some.injEq]
        (try simp only [mrg, mrl] at *) <;> repeat' (first | (with_reducible assumption) | (with_reducible apply And.intro) | intro _)
        all_goals first | omega | exact ⟨9 - (j + 1), by omega, j + 1, l, by rw [ns, if_neg (by omega)]; rfl, by omega, rfl, by rw [ns, if_neg (by omega)]; exact hl, by omega⟩ | skip
      · have f1 := far_bd (a := I1 20 j) ⟨by omega, by omega⟩ hc
        simp only [false_and, and_false, true_or, or_true, false_or, or_false, true_and, and_true, true_implies, false_implies, implies_true, not_true_eq_false, not_false_eq_true, and_self, List.length_cons, List.length_nil, mNoCut_, mCat_n, mCat_I, mCat_L, mCat_R, mIsL_n, mIsL_I, mIsL_R, mIsL_L, Nat.reduceAdd, Nat.reduceSub, Nat.reduceLeDiff, Nat.reduceLT, Nat.reduceEqDiff, Nat.zero_le, Int.reduceEq, Int.reduceLT, Int.reduceLE, Int.reduceNeg, Int.reduceAdd, if_true, if_false, reduceIte, reduceCtorEq, Bool.false_eq_true, ne_eq, qCmp_0, qCmp_1, qCmp_2, qCmp_3, qCmp_4, qCmp_5, ib_0, ib_1, ib_2, lb_0, lb_1, lb_2, dv_0, dv_1, wq_ic, wq_ld_i, wq_ld_a, wq_st_i, wq_iinc, wq_icmp, wq_goto, wq_get, mGet_0, mGet_1, mGet_2, mGet_3, wq_ald, wq_ret0, wq_ret1, wq_ret2, wq_ret3, wq_ret4, mrg_m1_, stI2, mrg_0_, stI3, stI4, ldI4, mrg_9_, ldR0, fk_6_0, ldI1, wq_callS2_3, stI5, ldI2, ldI5, ldI3, wqinc4, mPut_s, mPut_I0, mPut_R0, mPut_L0, mPut_I1, mPut_R1, mPut_L1, mGo_n, sfxX6_nearestTo_7, cutX6_nearestTo_7, sfxX6_nearestTo_28, cutX6_nearestTo_28, sfxX6_nearestTo_52, cutX6_nearestTo_52, sfxX6_nearestTo_58, cutX6_nearestTo_58, sfxX6_nearestTo_64, cutX6_nearestTo_64, wq_cut, mGo_c, mMask_t, mMask_f, mMask_n, kX6_nearestTo_64, kX6_nearestTo_58, kX6_nearestTo_52, kX6_nearestTo_28, kX6_nearestTo_7, kX6_nearestTo_0, sk_12, al_12, rf_12_0, sk_20, al_20, sn_20, ald_n, ro0_n, al_ro, SX6_nearestTo_0, shqII_, spX10_apart, mrg, mrl, mSet_ap, ncast, Option.some.injEq]
        (try simp only [mrg, mrl] at *) <;> repeat' (first | (with_reducible assumption) | (with_reducible apply And.intro) | intro _)
        all_goals first | omega | exact ⟨9 - (j + 1), by omega, j + 1, _, by rw [ns, if_pos (by omega)]; rfl, by omega, rfl, by rw [ns, if_pos (by omega)]; exact Or.inr rfl, by omega⟩ | exact ⟨9 - (j + 1), by omega, j + 1, l, by rw [ns, if_neg (by omega)]; rfl, by omega, rfl, by rw [ns, if_neg (by omega)]; exact hl, by omega⟩ | skip
    · simp only [false_and, and_false, true_or, or_true, false_or, or_false, true_and, and_true, true_implies, false_implies, implies_true, not_true_eq_false, not_false_eq_true, and_self, List.length_cons, List.length_nil, mNoCut_, mCat_n, mCat_I, mCat_L, mCat_R, mIsL_n, mIsL_I, mIsL_R, mIsL_L, Nat.reduceAdd, Nat.reduceSub, Nat.reduceLeDiff, Nat.reduceLT, Nat.reduceEqDiff, Nat.zero_le, Int.reduceEq, Int.reduceLT, Int.reduceLE, Int.reduceNeg, Int.reduceAdd, if_true, if_false, reduceIte, reduceCtorEq, Bool.false_eq_true, ne_eq, qCmp_0, qCmp_1, qCmp_2, qCmp_3, qCmp_4, qCmp_5, ib_0, ib_1, ib_2, lb_0, lb_1, lb_2, dv_0, dv_1, wq_ic, wq_ld_i, wq_ld_a, wq_st_i, wq_iinc, wq_icmp, wq_goto, wq_get, mGet_0, mGet_1, mGet_2, mGet_3, wq_ald, wq_ret0, wq_ret1, wq_ret2, wq_ret3, wq_ret4, mrg_m1_, stI2, mrg_0_, stI3, stI4, ldI4, mrg_9_, ldR0, fk_6_0, ldI1, wq_callS2_3, stI5, ldI2, ldI5, ldI3, wqinc4, mPut_s, mPut_I0, mPut_R0, mPut_L0, mPut_I1, mPut_R1, mPut_L1, mGo_n, sfxX6_nearestTo_7, cutX6_nearestTo_7, sfxX6_nearestTo_28, cutX6_nearestTo_28, sfxX6_nearestTo_52, cutX6_nearestTo_52, sfxX6_nearestTo_58, cutX6_nearestTo_58, sfxX6_nearestTo_64, cutX6_nearestTo_64, wq_cut, mGo_c, mMask_t, mMask_f, mMask_n, kX6_nearestTo_64, kX6_nearestTo_58, kX6_nearestTo_52, kX6_nearestTo_28, kX6_nearestTo_7, kX6_nearestTo_0, sk_12, al_12, rf_12_0, sk_20, al_20, sn_20, ald_n, ro0_n, al_ro, SX6_nearestTo_0, shqII_, spX10_apart, mrg, mrl, mSet_ap, ncast, Option.some.injEq]
      (try simp only [mrg, mrl] at *) <;> repeat' (first | (with_reducible assumption) | (with_reducible apply And.intro) | intro _)
      all_goals first | omega | exact hfin () (by omega) | skip
  · show mWp _ _ _ _ _ _ kX6_nearestTo_0 [some (mR (some 12)), some (mI c), none, none, none, none] [] I
    simp only [false_and, and_false, true_or, or_true, false_or, or_false, true_and, and_true, true_implies, false_implies, implies_true, not_true_eq_false, not_false_eq_true, and_self, List.length_cons, List.length_nil, mNoCut_, mCat_n, mCat_I, mCat_L, mCat_R, mIsL_n, mIsL_I, mIsL_R, mIsL_L, Nat.reduceAdd, Nat.reduceSub, Nat.reduceLeDiff, Nat.reduceLT, Nat.reduceEqDiff, Nat.zero_le, Int.reduceEq, Int.reduceLT, Int.reduceLE, Int.reduceNeg, Int.reduceAdd, if_true, if_false, reduceIte, reduceCtorEq, Bool.false_eq_true, ne_eq, qCmp_0, qCmp_1, qCmp_2, qCmp_3, qCmp_4, qCmp_5, ib_0, ib_1, ib_2, lb_0, lb_1, lb_2, dv_0, dv_1, wq_ic, wq_ld_i, wq_ld_a, wq_st_i, wq_iinc, wq_icmp, wq_goto, wq_get, mGet_0, mGet_1, mGet_2, mGet_3, wq_ald, wq_ret0, wq_ret1, wq_ret2, wq_ret3, wq_ret4, mrg_m1_, stI2, mrg_0_, stI3, stI4, ldI4, mrg_9_, ldR0, fk_6_0, ldI1, wq_callS2_3, stI5, ldI2, ldI5, ldI3, wqinc4, mPut_s, mPut_I0, mPut_R0, mPut_L0, mPut_I1, mPut_R1, mPut_L1, mGo_n, sfxX6_nearestTo_7, cutX6_nearestTo_7, sfxX6_nearestTo_28, cutX6_nearestTo_28, sfxX6_nearestTo_52, cutX6_nearestTo_52, sfxX6_nearestTo_58, cutX6_nearestTo_58, sfxX6_nearestTo_64, cutX6_nearestTo_64, wq_cut, mGo_c, mMask_t, mMask_f, mMask_n, kX6_nearestTo_64, kX6_nearestTo_58, kX6_nearestTo_52, kX6_nearestTo_28, kX6_nearestTo_7, kX6_nearestTo_0, sk_12, al_12, rf_12_0, sk_20, al_20, sn_20, ald_n, ro0_n, al_ro, SX6_nearestTo_0, shqII_, spX10_apart, mrg, mrl, mSet_ap, ncast, Option.some.injEq]
    exact ⟨9, 0, 0, rfl, by omega, rfl, Or.inl rfl, by omega⟩
theorem ctrX6_nearestTo {l : Launch} (hst : l.stackTraces = false) (hT : mTxM l) : mCtr l calX6_nearestTo spX6_nearestTo :=
  mMet (T := TX6_nearestTo) (S := SX6_nearestTo) hst hT cutX6_nearestTo (by decide) okX6_nearestTo ⟨_, _, rfl, rfl⟩ trivial (fun t bs h => by rcases cutsX6_nearestTo h with ⟨-, rfl⟩ <;> rfl) (fun a => match a with
    | 0 => ctrX10_apart hst hT
    | _ + 1 => mCtr_no) vcX6_nearestTo

def spX0_hitAt : mSp := shRI (fun _ i l I Q => i = some 120 ∧ ∃ t b, WFt t ∧ (0 ≤ b ∧ b < 6) ∧ Laid I t b ∧ (0 ≤ l ∧ l < allT t b) ∧ Q (.inl (some (mI (pickT t b l)))) I)
def SX0_hitAt : Nat → mSp := fun a => match a with
  | _ => fun _ _ _ _ => False
theorem cutsX0_hitAt {t : Nat} {bs : List Bool} (h : cutX0_hitAt t = some bs) : (t = 4 ∧ bs = [true, false, true, true]) := by
  unfold cutX0_hitAt at h
  simp only [mLk] at h
  by_cases h0 : 4 = t
  · subst h0
    simp at h
    exact ⟨rfl, h.symm⟩
  rw [if_neg h0] at h
  cases h
set_option maxRecDepth 100000 in
set_option maxHeartbeats 1000000 in
theorem vcX0_hitAt (fl : Nat → Bool) (avs : List mV) (I : mM) (Q : mO → mM → Prop) (hsp : spX0_hitAt fl avs I Q) : mVC SX0_hitAt fl Q kX0_hitAt cutX0_hitAt 4 avs I := by
  obtain ⟨i, l, rfl, h0⟩ := shRI_inv hsp
  obtain ⟨rfl, t, b, H, hb, hL, hl, h⟩ := h0
  have hn := H.2.1 b hb.1 hb.2
  have ab := allT_bd H hb
  refine ⟨rfl, (fun m pc lv st I1 => st = [] ∧ I1 = I ∧ ∃ (j : Nat) (v : Int), lv = [some (mR (some 120)), none, some (mI v), some (mI j)] ∧ j ≤ (t (13 + b)).toNat ∧ m = 8 - j ∧ (0 ≤ v ∧ v < allT t b - allN t b j) ∧ pickT t b l = pickGo t b (8 - j) v j), ?_, ?_⟩
  · intro n t bs hbs lv st I1 hc
    rcases cutsX0_hitAt hbs with ⟨rfl, rfl⟩
    rw [sfxX0_hitAt_4]
    obtain ⟨rfl, rfl, j, v, rfl, hj, hm, hv, he⟩ := hc
    have e0 := hL.1
    have hlt : (j : Int) < t (13 + b) := by
      rcases Int.lt_or_le (j : Int) (t (13 + b)) with q | q
      · exact q
      · have e : j = (t (13 + b)).toNat := by omega
        have e2 : allT t b = allN t b (t (13 + b)).toNat := rfl
        rw [← e] at e2
        omega
    have e4 := (hL.2.2.2 j (by omega) hlt).2.2.2.1
    have fb := forT_bd H hb (h := j) ⟨by omega, by omega⟩
    have aj := allN_bd H hb j (by omega)
    have a1 : allN t b (j + 1) = allN t b j + rawT t b j 3 := rfl
    have ps : pickGo t b (8 - j) v j = if v < rawT t b j 3 then (j : Int) else pickGo t b (8 - (j + 1)) (v - rawT t b j 3) ((j + 1 : Nat) : Int) := by
      rw [show 8 - j = (8 - (j + 1)) + 1 by omega]
      rfl
    simp only [false_and, and_false, true_or, or_true, false_or, or_false, true_and, and_true, true_implies, false_implies, implies_true, not_true_eq_false, not_false_eq_true, and_self, List.length_cons, List.length_nil, mNoCut_, mCat_n, mCat_I, mCat_L, mCat_R, mIsL_n, mIsL_I, mIsL_R, mIsL_L, Nat.reduceAdd, Nat.reduceSub, Nat.reduceLeDiff, Nat.reduceLT, Nat.reduceEqDiff, Nat.zero_le, Int.reduceEq, Int.reduceLT, Int.reduceLE, Int.reduceNeg, Int.reduceAdd, if_true, if_false, reduceIte, reduceCtorEq, Bool.false_eq_true, ne_eq, qCmp_0, qCmp_1, qCmp_2, qCmp_3, qCmp_4, qCmp_5, ib_0, ib_1, ib_2, lb_0, lb_1, lb_2, dv_0, dv_1, wq_ic, wq_ld_i, wq_ld_a, wq_st_i, wq_iinc, wq_ib, wq_icmp, wq_if, wq_goto, wq_get, mGet_0, mGet_1, mGet_2, mGet_3, wq_ald, wq_ret0, wq_ret1, wq_ret2, wq_ret3, wq_ret4, ldI1, stI2, mrg_0_, stI3, ldI3, ldR0, fk_0_0, ldI2, fk_0_6, wqinc3, mPut_s, mPut_I0, mPut_R0, mPut_L0, mPut_I1, mPut_R1, mPut_L1, mGo_n, sfxX0_hitAt_4, cutX0_hitAt_4, sfxX0_hitAt_27, cutX0_hitAt_27, sfxX0_hitAt_33, cutX0_hitAt_33, wq_cut, mGo_c, mMask_t, mMask_f, mMask_n, kX0_hitAt_33, kX0_hitAt_27, kX0_hitAt_4, kX0_hitAt_0, sk_120, al_120, rf_120_6, sk_124, al_124, sn_124, ald_n, ro0_n, al_ro, mrg, mrl, mSet_ap, ncast, Option.some.injEq, e0, e4]
    (try simp only [mrg, mrl] at *) <;> repeat' (first | (with_reducible assumption) | (with_reducible apply And.intro) | intro _)
    all_goals first | omega | exact q_I (by rw [he, ps, if_pos (by omega)]) h | exact ⟨8 - (j + 1), by omega, j + 1, _, rfl, by omega, rfl, ⟨by omega, by omega⟩, by rw [he, ps, if_neg (by omega)]⟩ | skip
  · show mWp _ _ _ _ _ _ kX0_hitAt_0 [some (mR (some 120)), some (mI l), none, none] [] I
    simp only [false_and, and_false, true_or, or_true, false_or, or_false, true_and, and_true, true_implies, false_implies, implies_true, not_true_eq_false, not_false_eq_true, and_self, List.length_cons, List.length_nil, mNoCut_, mCat_n, mCat_I, mCat_L, mCat_R, mIsL_n, mIsL_I, mIsL_R, mIsL_L, Nat.reduceAdd, Nat.reduceSub, Nat.reduceLeDiff, Nat.reduceLT, Nat.reduceEqDiff, Nat.zero_le, Int.reduceEq, Int.reduceLT, Int.reduceLE, Int.reduceNeg, Int.reduceAdd, if_true, if_false, reduceIte, reduceCtorEq, Bool.false_eq_true, ne_eq, qCmp_0, qCmp_1, qCmp_2, qCmp_3, qCmp_4, qCmp_5, ib_0, ib_1, ib_2, lb_0, lb_1, lb_2, dv_0, dv_1, wq_ic, wq_ld_i, wq_ld_a, wq_st_i, wq_iinc, wq_ib, wq_icmp, wq_if, wq_goto, wq_get, mGet_0, mGet_1, mGet_2, mGet_3, wq_ald, wq_ret0, wq_ret1, wq_ret2, wq_ret3, wq_ret4, ldI1, stI2, mrg_0_, stI3, ldI3, ldR0, fk_0_0, ldI2, fk_0_6, wqinc3, mPut_s, mPut_I0, mPut_R0, mPut_L0, mPut_I1, mPut_R1, mPut_L1, mGo_n, sfxX0_hitAt_4, cutX0_hitAt_4, sfxX0_hitAt_27, cutX0_hitAt_27, sfxX0_hitAt_33, cutX0_hitAt_33, wq_cut, mGo_c, mMask_t, mMask_f, mMask_n, kX0_hitAt_33, kX0_hitAt_27, kX0_hitAt_4, kX0_hitAt_0, sk_120, al_120, rf_120_6, sk_124, al_124, sn_124, ald_n, ro0_n, al_ro, mrg, mrl, mSet_ap, ncast, Option.some.injEq]
    exact ⟨8, 0, l, rfl, by omega, rfl, ⟨hl.1, by show l < allT t b - 0; omega⟩, rfl⟩
theorem ctrX0_hitAt {l : Launch} (hst : l.stackTraces = false) (hT : mTxM l) : mCtr l calX0_hitAt spX0_hitAt :=
  mMet (T := TX0_hitAt) (S := SX0_hitAt) hst hT cutX0_hitAt (by decide) okX0_hitAt ⟨_, _, rfl, rfl⟩ trivial (fun t bs h => by rcases cutsX0_hitAt h with ⟨-, rfl⟩ <;> rfl) (fun a => mCtr_no) vcX0_hitAt

def spX9_dearest : mSp := shRR (fun _ i s I Q => i = some 130 ∧ s = some 20 ∧ stB (I 20) ∧ ∃ t b, ctxU I t b ∧ ∀ J : mM, Q (.inl (some (mI (dearN (stR t (I 20)) b (t (13 + b)).toNat)))) (fr 130 130 J I))
def SX9_dearest : Nat → mSp := fun a => match a with
  | 0 => spX9_weigh
  | _ => fun _ _ _ _ => False
theorem SX9_dearest_0 : SX9_dearest 0 = spX9_weigh := Eq.trans rfl rfl
theorem cutsX9_dearest {t : Nat} {bs : List Bool} (h : cutX9_dearest t = some bs) : (t = 7 ∧ bs = [true, true, true, true, true]) := by
  unfold cutX9_dearest at h
  simp only [mLk] at h
  by_cases h0 : 7 = t
  · subst h0
    simp at h
    exact ⟨rfl, h.symm⟩
  rw [if_neg h0] at h
  cases h
set_option maxRecDepth 100000 in
set_option maxHeartbeats 1000000 in
theorem vcX9_dearest (fl : Nat → Bool) (avs : List mV) (I : mM) (Q : mO → mM → Prop) (hsp : spX9_dearest fl avs I Q) : mVC SX9_dearest fl Q kX9_dearest cutX9_dearest 5 avs I := by
  obtain ⟨i, s, rfl, h0⟩ := shRR_inv hsp
  obtain ⟨rfl, rfl, hB, t, b, H, h⟩ := h0
  have hn := H.1.2.1 b H.2.1.1 H.2.1.2
  refine ⟨rfl, (fun m pc lv st I1 => st = [] ∧ ∃ (j : Nat) (J : mM) (v : Int), I1 = fr 130 130 J I ∧ lv = [some (mR (some 130)), some (mR (some 20)), some (mI (dearN (stR t (I 20)) b j)), some (mI v), some (mI j)] ∧ j ≤ (t (13 + b)).toNat ∧ m = 8 - j ∧ (j = 0 ∨ v = costT (stR t (I 20)) b (dearN (stR t (I 20)) b j)) ∧ (-9900 ≤ v ∧ v ≤ 600)), ?_, ?_⟩
  · intro n t bs hbs lv st I1 hc
    rcases cutsX9_dearest hbs with ⟨rfl, rfl⟩
    rw [sfxX9_dearest_7]
    obtain ⟨rfl, j, J, v, rfl, rfl, hj, hm, hv, hv2⟩ := hc
    have e120 : fr 130 130 J I 120 0 = t (13 + b) := H.2.2.1.1
    have e20 : fr 130 130 J I 20 = I 20 := fr_ne (by decide)
    rcases Nat.lt_or_ge j (t (13 + b)).toNat with z | z
    · have cq := coS_eq H.1 (I 20) H.2.1 (h := j) ⟨by omega, by omega⟩
      have cb := coS_bd H.1 hB H.2.1 (h := j) ⟨by omega, by omega⟩
      have ds : dearN (stR t (I 20)) b (j + 1) = if j ≠ 0 ∧ costT (stR t (I 20)) b j > costT (stR t (I 20)) b (dearN (stR t (I 20)) b j) then (j : Int) else dearN (stR t (I 20)) b j := rfl
      have d0 : j = 0 → dearN (stR t (I 20)) b j = j := fun e => by
        subst e
        rfl
      rw [cq] at ds
      clear h
      generalize hX : dearN (stR t (I 20)) b j = X at *
      simp only [false_and, and_false, true_or, or_true, false_or, or_false, true_and, and_true, true_implies, false_implies, implies_true, not_true_eq_false, not_false_eq_true, and_self, List.length_cons, List.length_nil, mNoCut_, mCat_n, mCat_I, mCat_L, mCat_R, mIsL_n, mIsL_I, mIsL_R, mIsL_L, Nat.reduceAdd, Nat.reduceSub, Nat.reduceLeDiff, Nat.reduceLT, Nat.reduceEqDiff, Nat.zero_le, Int.reduceEq, Int.reduceLT, Int.reduceLE, Int.reduceNeg, Int.reduceAdd, if_true, if_false, reduceIte, reduceCtorEq, Bool.false_eq_true, ne_eq, qCmp_0, qCmp_1, qCmp_2, qCmp_3, qCmp_4, qCmp_5, ib_0, ib_1, ib_2, lb_0, lb_1, lb_2, dv_0, dv_1, wq_ic, wq_ld_i, wq_ld_a, wq_st_i, wq_iinc, wq_icmp, wq_if, wq_goto, wq_get, mGet_0, mGet_1, mGet_2, mGet_3, wq_ret0, wq_ret1, wq_ret2, wq_ret3, wq_ret4, mrg_0_, stI2, stI3, stI4, ldI4, ldR0, fk_9_2, fk_0_0, ldR1, wq_callV3_0, fk_9_8, ldI3, wqinc4, ldI2, mPut_s, mPut_I0, mPut_R0, mPut_L0, mPut_I1, mPut_R1, mPut_L1, mGo_n, sfxX9_dearest_7, cutX9_dearest_7, sfxX9_dearest_39, cutX9_dearest_39, sfxX9_dearest_47, cutX9_dearest_47, sfxX9_dearest_53, cutX9_dearest_53, wq_cut, mGo_c, mMask_t, mMask_f, mMask_n, kX9_dearest_53, kX9_dearest_47, kX9_dearest_39, kX9_dearest_7, kX9_dearest_0, sk_120, al_120, sk_130, al_130, rf_130_2, SX9_dearest_0, shqRIR_, spX9_weigh, mrg, mrl, mSet_ap, ncast, Option.some.injEq, e120, e20, Option.getD_some, ctxU_fr, fr_fr, fr_130]
      refine ⟨⟨⟨by omega, by omega⟩, by omega, by omega⟩, fun w => by omega, fun _ => ⟨Or.inr (Or.inl rfl), hB, t, b, H, ⟨by omega, by omega⟩, fun J2 q3 q4 q5 q6 q7 q8 => ?_⟩⟩
      rw [q8]
      by_cases j0 : j = 0
      · have d0 := d0 j0
        (try simp only [mrg, mrl] at *) <;> repeat' (first | (with_reducible assumption) | (with_reducible apply And.intro) | intro _)
        all_goals first | omega | exact ⟨8 - (j + 1), by omega, j + 1, J2, _, rfl, by rw [ds, if_neg (by omega), d0]; rfl, by omega, rfl, by rw [ds, if_neg (by omega), d0, cq]; exact Or.inr rfl, cb⟩ | skip
      · have hv := hv.resolve_left j0
        (try simp only [mrg, mrl] at *) <;> repeat' (first | (with_reducible assumption) | (with_reducible apply And.intro) | intro _)
        all_goals first | omega | exact ⟨8 - (j + 1), by omega, j + 1, J2, _, rfl, by rw [ds, if_pos (by omega)]; rfl, by omega, rfl, by rw [ds, if_pos (by omega), cq]; exact Or.inr rfl, cb⟩ | exact ⟨8 - (j + 1), by omega, j + 1, J2, v, rfl, by rw [ds, if_neg (by omega)]; rfl, by omega, rfl, by rw [ds, if_neg (by omega)]; exact Or.inr hv, hv2⟩ | skip
    · have e : j = (t (13 + b)).toNat := by omega
      have h2 := h J
      rw [← e] at h2
      clear h
      simp only [false_and, and_false, true_or, or_true, false_or, or_false, true_and, and_true, true_implies, false_implies, implies_true, not_true_eq_false, not_false_eq_true, and_self, List.length_cons, List.length_nil, mNoCut_, mCat_n, mCat_I, mCat_L, mCat_R, mIsL_n, mIsL_I, mIsL_R, mIsL_L, Nat.reduceAdd, Nat.reduceSub, Nat.reduceLeDiff, Nat.reduceLT, Nat.reduceEqDiff, Nat.zero_le, Int.reduceEq, Int.reduceLT, Int.reduceLE, Int.reduceNeg, Int.reduceAdd, if_true, if_false, reduceIte, reduceCtorEq, Bool.false_eq_true, ne_eq, qCmp_0, qCmp_1, qCmp_2, qCmp_3, qCmp_4, qCmp_5, ib_0, ib_1, ib_2, lb_0, lb_1, lb_2, dv_0, dv_1, wq_ic, wq_ld_i, wq_ld_a, wq_st_i, wq_iinc, wq_icmp, wq_if, wq_goto, wq_get, mGet_0, mGet_1, mGet_2, mGet_3, wq_ret0, wq_ret1, wq_ret2, wq_ret3, wq_ret4, mrg_0_, stI2, stI3, stI4, ldI4, ldR0, fk_9_2, fk_0_0, ldR1, wq_callV3_0, fk_9_8, ldI3, wqinc4, ldI2, mPut_s, mPut_I0, mPut_R0, mPut_L0, mPut_I1, mPut_R1, mPut_L1, mGo_n, sfxX9_dearest_7, cutX9_dearest_7, sfxX9_dearest_39, cutX9_dearest_39, sfxX9_dearest_47, cutX9_dearest_47, sfxX9_dearest_53, cutX9_dearest_53, wq_cut, mGo_c, mMask_t, mMask_f, mMask_n, kX9_dearest_53, kX9_dearest_47, kX9_dearest_39, kX9_dearest_7, kX9_dearest_0, sk_120, al_120, sk_130, al_130, rf_130_2, SX9_dearest_0, shqRIR_, spX9_weigh, mrg, mrl, mSet_ap, ncast, Option.some.injEq, e120]
      (try simp only [mrg, mrl] at *) <;> repeat' (first | (with_reducible assumption) | (with_reducible apply And.intro) | intro _)
      all_goals first | omega | exact h2 | skip
  · show mWp _ _ _ _ _ _ kX9_dearest_0 [some (mR (some 130)), some (mR (some 20)), none, none, none] [] I
    simp only [false_and, and_false, true_or, or_true, false_or, or_false, true_and, and_true, true_implies, false_implies, implies_true, not_true_eq_false, not_false_eq_true, and_self, List.length_cons, List.length_nil, mNoCut_, mCat_n, mCat_I, mCat_L, mCat_R, mIsL_n, mIsL_I, mIsL_R, mIsL_L, Nat.reduceAdd, Nat.reduceSub, Nat.reduceLeDiff, Nat.reduceLT, Nat.reduceEqDiff, Nat.zero_le, Int.reduceEq, Int.reduceLT, Int.reduceLE, Int.reduceNeg, Int.reduceAdd, if_true, if_false, reduceIte, reduceCtorEq, Bool.false_eq_true, ne_eq, qCmp_0, qCmp_1, qCmp_2, qCmp_3, qCmp_4, qCmp_5, ib_0, ib_1, ib_2, lb_0, lb_1, lb_2, dv_0, dv_1, wq_ic, wq_ld_i, wq_ld_a, wq_st_i, wq_iinc, wq_icmp, wq_if, wq_goto, wq_get, mGet_0, mGet_1, mGet_2, mGet_3, wq_ret0, wq_ret1, wq_ret2, wq_ret3, wq_ret4, mrg_0_, stI2, stI3, stI4, ldI4, ldR0, fk_9_2, fk_0_0, ldR1, wq_callV3_0, fk_9_8, ldI3, wqinc4, ldI2, mPut_s, mPut_I0, mPut_R0, mPut_L0, mPut_I1, mPut_R1, mPut_L1, mGo_n, sfxX9_dearest_7, cutX9_dearest_7, sfxX9_dearest_39, cutX9_dearest_39, sfxX9_dearest_47, cutX9_dearest_47, sfxX9_dearest_53, cutX9_dearest_53, wq_cut, mGo_c, mMask_t, mMask_f, mMask_n, kX9_dearest_53, kX9_dearest_47, kX9_dearest_39, kX9_dearest_7, kX9_dearest_0, sk_120, al_120, sk_130, al_130, rf_130_2, SX9_dearest_0, shqRIR_, spX9_weigh, mrg, mrl, mSet_ap, ncast, Option.some.injEq]
    exact ⟨8, 0, I, 0, (fr_self _ _ _).symm, rfl, by omega, rfl, Or.inl rfl, by omega⟩
theorem ctrX9_dearest {l : Launch} (hst : l.stackTraces = false) (hT : mTxM l) : mCtr l calX9_dearest spX9_dearest :=
  mMet (T := TX9_dearest) (S := SX9_dearest) hst hT cutX9_dearest (by decide) okX9_dearest ⟨_, _, rfl, rfl⟩ trivial (fun t bs h => by rcases cutsX9_dearest h with ⟨-, rfl⟩ <;> rfl) (fun a => match a with
    | 0 => ctrX9_weigh hst hT
    | _ + 1 => mCtr_no) vcX9_dearest

end SPC13
