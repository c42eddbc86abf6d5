section SPC32
def spX10_swapOrder : mSp := shRII (fun _ i a b I Q => i = some 0 ∧ (0 ≤ a ∧ a < 6) ∧ (0 ≤ b ∧ b < 6) ∧ Q (.inl none) (putA I 4 (swT (I 4) a b)))
def SX10_swapOrder : Nat → mSp := fun a => match a with
  | _ => fun _ _ _ _ => False
set_option maxRecDepth 100000 in
set_option maxHeartbeats 1000000 in
theorem vcX10_swapOrder (fl : Nat → Bool) (avs : List mV) (I : mM) (Q : mO → mM → Prop) (hsp : spX10_swapOrder fl avs I Q) : mVC0 SX10_swapOrder fl Q kX10_swapOrder 4 avs I := by
  obtain ⟨i, a, b, rfl, h0⟩ := shRII_inv hsp
  refine ⟨rfl, ?_⟩
  show mWp _ _ _ _ _ _ kX10_swapOrder_0 [some (mR i), some (mI a), some (mI b), none] [] I
  obtain ⟨rfl, ha, hb, h⟩ := h0
  rw [← sw_as] at h
  simp only [false_and, and_false, true_or, or_true, false_or, or_false, true_and, and_true, true_implies, false_implies, implies_true, not_true_eq_false, not_false_eq_true, and_self, List.length_cons, List.length_nil, mNoCut_, mCat_n, mCat_I, mCat_L, mCat_R, mIsL_n, mIsL_I, mIsL_R, mIsL_L, Nat.reduceAdd, Nat.reduceSub, Nat.reduceLeDiff, Nat.reduceLT, Nat.reduceEqDiff, Nat.zero_le, Int.reduceEq, Int.reduceLT, Int.reduceLE, Int.reduceNeg, Int.reduceAdd, if_true, if_false, reduceIte, reduceCtorEq, Bool.false_eq_true, ne_eq, qCmp_0, qCmp_1, qCmp_2, qCmp_3, qCmp_4, qCmp_5, ib_0, ib_1, ib_2, lb_0, lb_1, lb_2, dv_0, dv_1, wq_ld_i, wq_ld_a, wq_st_i, wq_get, mGet_0, mGet_1, mGet_2, mGet_3, wq_ald, wq_astI, wq_astL, wq_ret0, wq_ret1, wq_ret2, wq_ret3, wq_ret4, ldR0, fk_10_9, ldI1, stI3, ldI2, ldI3, mPut_s, mPut_I0, mPut_R0, mPut_L0, mPut_I1, mPut_R1, mPut_L1, kX10_swapOrder_0, sk_0, al_0, rf_0_9, sk_4, al_4, sn_4, ald_n, ro0_n, al_ro, mrg, mrl, mSet_ap, ncast, Option.some.injEq]
  (try simp only [mrg, mrl] at *) <;> repeat' (first | (with_reducible assumption) | (with_reducible apply And.intro) | intro _)
  all_goals first | omega | exact h | skip
theorem ctrX10_swapOrder {l : Launch} (hst : l.stackTraces = false) (hT : mTxM l) : mCtr l calX10_swapOrder spX10_swapOrder :=
  mMet0 (T := TX10_swapOrder) (S := SX10_swapOrder) hst hT (by decide) okX10_swapOrder ⟨_, _, rfl, rfl⟩ (fun a => mCtr_no) vcX10_swapOrder

def spX10_nextOrder : mSp := shRI (fun _ i n I Q => i = some 0 ∧ ∃ N : Nat, n = N ∧ (1 ≤ N ∧ N ≤ 6) ∧ (∀ q : Int, 0 ≤ q → q < N → 0 ≤ I 4 q ∧ I 4 q < 6) ∧ (ascT (I 4) (N - 1) = -1 → Q (.inl (some (mI 0))) I) ∧ (ascT (I 4) (N - 1) ≠ -1 → Q (.inl (some (mI 1))) (putA I 4 (nxT N (I 4)))))
def SX10_nextOrder : Nat → mSp := fun a => match a with
  | 0 => spX10_swapOrder
  | _ => fun _ _ _ _ => False
theorem SX10_nextOrder_0 : SX10_nextOrder 0 = spX10_swapOrder := Eq.trans rfl rfl
theorem cutsX10_nextOrder {t : Nat} {bs : List Bool} (h : cutX10_nextOrder t = some bs) : (t = 4 ∧ bs = [true, true, true, false, false, false]) ∨ (t = 41 ∧ bs = [true, true, true, true, false, false]) ∨ (t = 83 ∧ bs = [true, false, false, false, true, true]) := by
  unfold cutX10_nextOrder at h
  simp only [mLk] at h
  by_cases h0 : 4 = t
  · subst h0
    simp at h
    exact Or.inl ⟨rfl, h.symm⟩
  rw [if_neg h0] at h
  by_cases h1 : 41 = t
  · subst h1
    simp at h
    exact Or.inr (Or.inl ⟨rfl, h.symm⟩)
  rw [if_neg h1] at h
  by_cases h2 : 83 = t
  · subst h2
    simp at h
    exact Or.inr (Or.inr (⟨rfl, h.symm⟩))
  rw [if_neg h2] at h
  cases h
set_option maxRecDepth 100000 in
set_option maxHeartbeats 1000000 in
theorem vcX10_nextOrder (fl : Nat → Bool) (avs : List mV) (I : mM) (Q : mO → mM → Prop) (hsp : spX10_nextOrder fl avs I Q) : mVC SX10_nextOrder fl Q kX10_nextOrder cutX10_nextOrder 6 avs I := by
  obtain ⟨i, n_, rfl, h0⟩ := shRI_inv hsp
  obtain ⟨rfl, N, rfl, hN, hr, h1, h2⟩ := h0
  refine ⟨rfl, (fun m pc lv st I1 => st = [] ∧ (if pc = 4 then I1 = I ∧ ∃ k : Int, lv = [some (mR (some 0)), some (mI N), some (mI k), none, none, none] ∧ (-1 ≤ k ∧ k + 2 ≤ N) ∧ ascT (I 4) (N - 1) = ascT (I 4) (k + 1).toNat ∧ m = 100 + (k + 1).toNat else if pc = 41 then I1 = I ∧ ascT (I 4) (N - 1) ≠ -1 ∧ ∃ j : Int, lv = [some (mR (some 0)), some (mI N), some (mI (ascT (I 4) (N - 1))), some (mI j), none, none] ∧ (ascT (I 4) (N - 1) + 1 ≤ j ∧ j < N) ∧ drpT (I 4) (I 4 (ascT (I 4) (N - 1))) N = drpT (I 4) (I 4 (ascT (I 4) (N - 1))) (j + 1).toNat ∧ m = 50 + (j + 1).toNat else ascT (I 4) (N - 1) ≠ -1 ∧ ∃ (f : Nat) (x y : Int) (p : Int → Int), lv = [some (mR (some 0)), none, none, none, some (mI x), some (mI y)] ∧ (0 ≤ x ∧ x ≤ 10 ∧ -10 ≤ y ∧ y < 6 ∧ y - x ≤ 2 * f) ∧ I1 = putA I 4 p ∧ nxT N (I 4) = revT f x y p ∧ m = f)), ?_, ?_⟩
  · intro n t bs hbs lv st I1 hc
    rcases cutsX10_nextOrder hbs with ⟨rfl, rfl⟩ | ⟨rfl, rfl⟩ | ⟨rfl, rfl⟩
    · skip
      rw [sfxX10_nextOrder_4]
      obtain ⟨rfl, rfl, k, rfl, hk, he, hm⟩ := hc
      rcases Int.lt_or_le k 0 with z | z
      · have hk1 : k = -1 := by omega
        subst hk1
        have h := h1 (he.trans rfl)
        clear h1 h2
        simp only [false_and, and_false, true_or, or_true, false_or, or_false, true_and, and_true, true_implies, false_implies, implies_true, not_true_eq_false, not_false_eq_true, and_self, List.length_cons, List.length_nil, mNoCut_, mCat_n, mCat_I, mCat_L, mCat_R, mIsL_n, mIsL_I, mIsL_R, mIsL_L, Nat.reduceAdd, Nat.reduceSub, Nat.reduceLeDiff, Nat.reduceLT, Nat.reduceEqDiff, Nat.zero_le, Int.reduceEq, Int.reduceLT, Int.reduceLE, Int.reduceNeg, Int.reduceAdd, if_true, if_false, reduceIte, reduceCtorEq, Bool.false_eq_true, ne_eq, qCmp_0, qCmp_1, qCmp_2, qCmp_3, qCmp_4, qCmp_5, ib_0, ib_1, ib_2, lb_0, lb_1, lb_2, dv_0, dv_1, wq_ic, wq_ld_i, wq_ld_a, wq_st_i, wq_iinc, wq_ib, wq_icmp, wq_if, wq_goto, wq_get, mGet_0, mGet_1, mGet_2, mGet_3, wq_ald, wq_ret0, wq_ret1, wq_ret2, wq_ret3, wq_ret4, ldI1, mrg_2_, stI2, ldI2, ldR0, fk_10_9, mrg_1_, wqinc2, mrg_0_, stI3, ldI3, wqinc3, wq_callV3_0, stI4, stI5, ldI4, ldI5, wqinc4, wqinc5, mPut_s, mPut_I0, mPut_R0, mPut_L0, mPut_I1, mPut_R1, mPut_L1, mGo_n, sfxX10_nextOrder_4, cutX10_nextOrder_4, sfxX10_nextOrder_31, cutX10_nextOrder_31, sfxX10_nextOrder_37, cutX10_nextOrder_37, sfxX10_nextOrder_41, cutX10_nextOrder_41, sfxX10_nextOrder_67, cutX10_nextOrder_67, sfxX10_nextOrder_83, cutX10_nextOrder_83, sfxX10_nextOrder_107, cutX10_nextOrder_107, wq_cut, mGo_c, mMask_t, mMask_f, mMask_n, kX10_nextOrder_107, kX10_nextOrder_83, kX10_nextOrder_67, kX10_nextOrder_41, kX10_nextOrder_37, kX10_nextOrder_31, kX10_nextOrder_4, kX10_nextOrder_0, sk_0, al_0, rf_0_9, sk_4, al_4, sn_4, ald_n, ro0_n, al_ro, SX10_nextOrder_0, shqRII_, spX10_swapOrder, mrg, mrl, mSet_ap, ncast, Option.some.injEq]
        (try simp only [mrg, mrl] at *) <;> repeat' (first | (with_reducible assumption) | (with_reducible apply And.intro) | intro _)
        all_goals first | omega | exact h | skip
      · obtain ⟨kk, rfl⟩ : ∃ kk : Nat, k = kk := ⟨k.toNat, by omega⟩
        rw [show ((kk : Int) + 1).toNat = kk + 1 by omega] at he
        have r0 := hr kk (by omega) (by omega)
        have r1 := hr ((kk : Int) + 1) (by omega) (by omega)
        clear h1 h2 hr
        by_cases y : I1 4 ((kk : Int) + 1) < I1 4 kk
        · rw [show ascT (I1 4) (kk + 1) = ascT (I1 4) kk from if_pos y] at he
          have key : ∃ n', n' < n ∧ ∃ k_1 : Int, [some (mR (some 0)), some (mI N), some (mI ((kk : Int) + -1)), none, none, none] = [some (mR (some 0)), some (mI N), some (mI k_1), none, none, none] ∧ (-1 ≤ k_1 ∧ k_1 + 2 ≤ N) ∧ ascT (I1 4) (N - 1) = ascT (I1 4) (k_1 + 1).toNat ∧ n' = 100 + (k_1 + 1).toNat := ⟨100 + kk, by omega, (kk : Int) + -1, rfl, by omega, by rw [show ((kk : Int) + -1 + 1).toNat = kk by omega]; exact he, by omega⟩
          simp only [false_and, and_false, true_or, or_true, false_or, or_false, true_and, and_true, true_implies, false_implies, implies_true, not_true_eq_false, not_false_eq_true, and_self, List.length_cons, List.length_nil, mNoCut_, mCat_n, mCat_I, mCat_L, mCat_R, mIsL_n, mIsL_I, mIsL_R, mIsL_L, Nat.reduceAdd, Nat.reduceSub, Nat.reduceLeDiff, Nat.reduceLT, Nat.reduceEqDiff, Nat.zero_le, Int.reduceEq, Int.reduceLT, Int.reduceLE, Int.reduceNeg, Int.reduceAdd, if_true, if_false, reduceIte, reduceCtorEq, Bool.false_eq_true, ne_eq, qCmp_0, qCmp_1, qCmp_2, qCmp_3, qCmp_4, qCmp_5, ib_0, ib_1, ib_2, lb_0, lb_1, lb_2, dv_0, dv_1, wq_ic, wq_ld_i, wq_ld_a, wq_st_i, wq_iinc, wq_ib, wq_icmp, wq_if, wq_goto, wq_get, mGet_0, mGet_1, mGet_2, mGet_3, wq_ald, wq_ret0, wq_ret1, wq_ret2, wq_ret3, wq_ret4, ldI1, mrg_2_, stI2, ldI2, ldR0, fk_10_9, mrg_1_, wqinc2, mrg_0_, stI3, ldI3, wqinc3, wq_callV3_0, stI4, stI5, ldI4, ldI5, wqinc4, wqinc5, mPut_s, mPut_I0, mPut_R0, mPut_L0, mPut_I1, mPut_R1, mPut_L1, mGo_n, sfxX10_nextOrder_4, cutX10_nextOrder_4, sfxX10_nextOrder_31, cutX10_nextOrder_31, sfxX10_nextOrder_37, cutX10_nextOrder_37, sfxX10_nextOrder_41, cutX10_nextOrder_41, sfxX10_nextOrder_67, cutX10_nextOrder_67, sfxX10_nextOrder_83, cutX10_nextOrder_83, sfxX10_nextOrder_107, cutX10_nextOrder_107, wq_cut, mGo_c, mMask_t, mMask_f, mMask_n, kX10_nextOrder_107, kX10_nextOrder_83, kX10_nextOrder_67, kX10_nextOrder_41, kX10_nextOrder_37, kX10_nextOrder_31, kX10_nextOrder_4, kX10_nextOrder_0, sk_0, al_0, rf_0_9, sk_4, al_4, sn_4, ald_n, ro0_n, al_ro, SX10_nextOrder_0, shqRII_, spX10_swapOrder, mrg, mrl, mSet_ap, ncast, Option.some.injEq]
          (try simp only [mrg, mrl] at *) <;> repeat' (first | (with_reducible assumption) | (with_reducible apply And.intro) | intro _)
          all_goals first | omega | exact key | skip
        · rw [show ascT (I1 4) (kk + 1) = kk from if_neg y] at he
          have key : ∃ n', n' < n ∧ ¬ ascT (I1 4) (N - 1) = -1 ∧ ∃ j : Int, [some (mR (some 0)), some (mI N), some (mI kk), some (mI ((N : Int) - 1)), none, none] = [some (mR (some 0)), some (mI N), some (mI (ascT (I1 4) (N - 1))), some (mI j), none, none] ∧ (ascT (I1 4) (N - 1) + 1 ≤ j ∧ j < N) ∧ drpT (I1 4) (I1 4 (ascT (I1 4) (N - 1))) N = drpT (I1 4) (I1 4 (ascT (I1 4) (N - 1))) (j + 1).toNat ∧ n' = 50 + (j + 1).toNat := ⟨50 + N, by omega, by omega, (N : Int) - 1, by rw [he], by omega, by rw [show ((N : Int) - 1 + 1).toNat = N by omega], by omega⟩
          simp only [false_and, and_false, true_or, or_true, false_or, or_false, true_and, and_true, true_implies, false_implies, implies_true, not_true_eq_false, not_false_eq_true, and_self, List.length_cons, List.length_nil, mNoCut_, mCat_n, mCat_I, mCat_L, mCat_R, mIsL_n, mIsL_I, mIsL_R, mIsL_L, Nat.reduceAdd, Nat.reduceSub, Nat.reduceLeDiff, Nat.reduceLT, Nat.reduceEqDiff, Nat.zero_le, Int.reduceEq, Int.reduceLT, Int.reduceLE, Int.reduceNeg, Int.reduceAdd, if_true, if_false, reduceIte, reduceCtorEq, Bool.false_eq_true, ne_eq, qCmp_0, qCmp_1, qCmp_2, qCmp_3, qCmp_4, qCmp_5, ib_0, ib_1, ib_2, lb_0, lb_1, lb_2, dv_0, dv_1, wq_ic, wq_ld_i, wq_ld_a, wq_st_i, wq_iinc, wq_ib, wq_icmp, wq_if, wq_goto, wq_get, mGet_0, mGet_1, mGet_2, mGet_3, wq_ald, wq_ret0, wq_ret1, wq_ret2, wq_ret3, wq_ret4, ldI1, mrg_2_, stI2, ldI2, ldR0, fk_10_9, mrg_1_, wqinc2, mrg_0_, stI3, ldI3, wqinc3, wq_callV3_0, stI4, stI5, ldI4, ldI5, wqinc4, wqinc5, mPut_s, mPut_I0, mPut_R0, mPut_L0, mPut_I1, mPut_R1, mPut_L1, mGo_n, sfxX10_nextOrder_4, cutX10_nextOrder_4, sfxX10_nextOrder_31, cutX10_nextOrder_31, sfxX10_nextOrder_37, cutX10_nextOrder_37, sfxX10_nextOrder_41, cutX10_nextOrder_41, sfxX10_nextOrder_67, cutX10_nextOrder_67, sfxX10_nextOrder_83, cutX10_nextOrder_83, sfxX10_nextOrder_107, cutX10_nextOrder_107, wq_cut, mGo_c, mMask_t, mMask_f, mMask_n, kX10_nextOrder_107, kX10_nextOrder_83, kX10_nextOrder_67, kX10_nextOrder_41, kX10_nextOrder_37, kX10_nextOrder_31, kX10_nextOrder_4, kX10_nextOrder_0, sk_0, al_0, rf_0_9, sk_4, al_4, sn_4, ald_n, ro0_n, al_ro, SX10_nextOrder_0, shqRII_, spX10_swapOrder, mrg, mrl, mSet_ap, ncast, Option.some.injEq]
          (try simp only [mrg, mrl] at *) <;> repeat' (first | (with_reducible assumption) | (with_reducible apply And.intro) | intro _)
          all_goals first | omega | exact key | skip
    · skip
      rw [sfxX10_nextOrder_41]
      obtain ⟨rfl, rfl, hz, j, rfl, hj, he, hm⟩ := hc
      have nb := nx_bd hz
      have nd : nxT N (I1 4) = revT 3 (ascT (I1 4) (N - 1) + 1) ((N : Int) - 1) (swT (I1 4) (ascT (I1 4) (N - 1)) (drpT (I1 4) (I1 4 (ascT (I1 4) (N - 1))) N)) := rfl
      clear h1 h2
      obtain ⟨a, ha⟩ : ∃ a, a = ascT (I1 4) (N - 1) := ⟨_, rfl⟩
      rw [← ha] at hz hj he nb nd ⊢
      obtain ⟨jj, rfl⟩ : ∃ jj : Nat, j = jj := ⟨j.toNat, by omega⟩
      rw [show ((jj : Int) + 1).toNat = jj + 1 by omega] at he
      have r0 := hr a (by omega) (by omega)
      have r1 := hr jj (by omega) (by omega)
      clear hr
      by_cases y : I1 4 jj < I1 4 a
      · rw [show drpT (I1 4) (I1 4 a) (jj + 1) = drpT (I1 4) (I1 4 a) jj from if_pos y] at he
        have db := drpT_bd (I1 4) (I1 4 a) jj
        have key : ∃ n', n' < n ∧ ¬ a = -1 ∧ ∃ j : Int, [some (mR (some 0)), some (mI N), some (mI a), some (mI ((jj : Int) + -1)), none, none] = [some (mR (some 0)), some (mI N), some (mI a), some (mI j), none, none] ∧ (a + 1 ≤ j ∧ j < N) ∧ drpT (I1 4) (I1 4 a) N = drpT (I1 4) (I1 4 a) (j + 1).toNat ∧ n' = 50 + (j + 1).toNat := ⟨50 + jj, by omega, hz, (jj : Int) + -1, rfl, by omega, by rw [show ((jj : Int) + -1 + 1).toNat = jj by omega]; exact he, by omega⟩
        simp only [false_and, and_false, true_or, or_true, false_or, or_false, true_and, and_true, true_implies, false_implies, implies_true, not_true_eq_false, not_false_eq_true, and_self, List.length_cons, List.length_nil, mNoCut_, mCat_n, mCat_I, mCat_L, mCat_R, mIsL_n, mIsL_I, mIsL_R, mIsL_L, Nat.reduceAdd, Nat.reduceSub, Nat.reduceLeDiff, Nat.reduceLT, Nat.reduceEqDiff, Nat.zero_le, Int.reduceEq, Int.reduceLT, Int.reduceLE, Int.reduceNeg, Int.reduceAdd, if_true, if_false, reduceIte, reduceCtorEq, Bool.false_eq_true, ne_eq, qCmp_0, qCmp_1, qCmp_2, qCmp_3, qCmp_4, qCmp_5, ib_0, ib_1, ib_2, lb_0, lb_1, lb_2, dv_0, dv_1, wq_ic, wq_ld_i, wq_ld_a, wq_st_i, wq_iinc, wq_ib, wq_icmp, wq_if, wq_goto, wq_get, mGet_0, mGet_1, mGet_2, mGet_3, wq_ald, wq_ret0, wq_ret1, wq_ret2, wq_ret3, wq_ret4, ldI1, mrg_2_, stI2, ldI2, ldR0, fk_10_9, mrg_1_, wqinc2, mrg_0_, stI3, ldI3, wqinc3, wq_callV3_0, stI4, stI5, ldI4, ldI5, wqinc4, wqinc5, mPut_s, mPut_I0, mPut_R0, mPut_L0, mPut_I1, mPut_R1, mPut_L1, mGo_n, sfxX10_nextOrder_4, cutX10_nextOrder_4, sfxX10_nextOrder_31, cutX10_nextOrder_31, sfxX10_nextOrder_37, cutX10_nextOrder_37, sfxX10_nextOrder_41, cutX10_nextOrder_41, sfxX10_nextOrder_67, cutX10_nextOrder_67, sfxX10_nextOrder_83, cutX10_nextOrder_83, sfxX10_nextOrder_107, cutX10_nextOrder_107, wq_cut, mGo_c, mMask_t, mMask_f, mMask_n, kX10_nextOrder_107, kX10_nextOrder_83, kX10_nextOrder_67, kX10_nextOrder_41, kX10_nextOrder_37, kX10_nextOrder_31, kX10_nextOrder_4, kX10_nextOrder_0, sk_0, al_0, rf_0_9, sk_4, al_4, sn_4, ald_n, ro0_n, al_ro, SX10_nextOrder_0, shqRII_, spX10_swapOrder, mrg, mrl, mSet_ap, ncast, Option.some.injEq]
        (try simp only [mrg, mrl] at *) <;> repeat' (first | (with_reducible assumption) | (with_reducible apply And.intro) | intro _)
        all_goals first | omega | exact key | skip
      · rw [show drpT (I1 4) (I1 4 a) (jj + 1) = jj from if_neg y] at he
        rw [he] at nd
        have key : ∃ n', n' < n ∧ ¬ a = -1 ∧ ∃ (f : Nat) (x y : Int) (p : Int → Int), [some (mR (some 0)), none, none, none, some (mI (a + 1)), some (mI ((N : Int) - 1))] = [some (mR (some 0)), none, none, none, some (mI x), some (mI y)] ∧ (0 ≤ x ∧ x ≤ 10 ∧ -10 ≤ y ∧ y < 6 ∧ y - x ≤ 2 * f) ∧ putA I1 4 (swT (I1 4) a jj) = putA I1 4 p ∧ nxT N (I1 4) = revT f x y p ∧ n' = f := ⟨3, by omega, hz, 3, a + 1, (N : Int) - 1, _, rfl, by omega, rfl, nd, rfl⟩
        simp only [false_and, and_false, true_or, or_true, false_or, or_false, true_and, and_true, true_implies, false_implies, implies_true, not_true_eq_false, not_false_eq_true, and_self, List.length_cons, List.length_nil, mNoCut_, mCat_n, mCat_I, mCat_L, mCat_R, mIsL_n, mIsL_I, mIsL_R, mIsL_L, Nat.reduceAdd, Nat.reduceSub, Nat.reduceLeDiff, Nat.reduceLT, Nat.reduceEqDiff, Nat.zero_le, Int.reduceEq, Int.reduceLT, Int.reduceLE, Int.reduceNeg, Int.reduceAdd, if_true, if_false, reduceIte, reduceCtorEq, Bool.false_eq_true, ne_eq, qCmp_0, qCmp_1, qCmp_2, qCmp_3, qCmp_4, qCmp_5, ib_0, ib_1, ib_2, lb_0, lb_1, lb_2, dv_0, dv_1, wq_ic, wq_ld_i, wq_ld_a, wq_st_i, wq_iinc, wq_ib, wq_icmp, wq_if, wq_goto, wq_get, mGet_0, mGet_1, mGet_2, mGet_3, wq_ald, wq_ret0, wq_ret1, wq_ret2, wq_ret3, wq_ret4, ldI1, mrg_2_, stI2, ldI2, ldR0, fk_10_9, mrg_1_, wqinc2, mrg_0_, stI3, ldI3, wqinc3, wq_callV3_0, stI4, stI5, ldI4, ldI5, wqinc4, wqinc5, mPut_s, mPut_I0, mPut_R0, mPut_L0, mPut_I1, mPut_R1, mPut_L1, mGo_n, sfxX10_nextOrder_4, cutX10_nextOrder_4, sfxX10_nextOrder_31, cutX10_nextOrder_31, sfxX10_nextOrder_37, cutX10_nextOrder_37, sfxX10_nextOrder_41, cutX10_nextOrder_41, sfxX10_nextOrder_67, cutX10_nextOrder_67, sfxX10_nextOrder_83, cutX10_nextOrder_83, sfxX10_nextOrder_107, cutX10_nextOrder_107, wq_cut, mGo_c, mMask_t, mMask_f, mMask_n, kX10_nextOrder_107, kX10_nextOrder_83, kX10_nextOrder_67, kX10_nextOrder_41, kX10_nextOrder_37, kX10_nextOrder_31, kX10_nextOrder_4, kX10_nextOrder_0, sk_0, al_0, rf_0_9, sk_4, al_4, sn_4, ald_n, ro0_n, al_ro, SX10_nextOrder_0, shqRII_, spX10_swapOrder, mrg, mrl, mSet_ap, ncast, Option.some.injEq]
        (try simp only [mrg, mrl] at *) <;> repeat' (first | (with_reducible assumption) | (with_reducible apply And.intro) | intro _)
        all_goals first | omega | exact key | skip
    · skip
      rw [sfxX10_nextOrder_83]
      obtain ⟨rfl, hz, f, x, y, p, rfl, hx, rfl, he, hm⟩ := hc
      have h := h2 hz
      clear h1 h2
      rcases Int.lt_or_le x y with z | z
      · obtain ⟨f', rfl⟩ : ∃ f', f = f' + 1 := ⟨f - 1, by omega⟩
        rw [show revT (f' + 1) x y p = revT f' (x + 1) (y - 1) (swT p x y) from if_pos z] at he
        have key : ∃ n', n' < n ∧ ¬ ascT (I 4) (N - 1) = -1 ∧ ∃ (f : Nat) (x_1 y_1 : Int) (p_1 : Int → Int), [some (mR (some 0)), none, none, none, some (mI (x + 1)), some (mI (y + -1))] = [some (mR (some 0)), none, none, none, some (mI x_1), some (mI y_1)] ∧ (0 ≤ x_1 ∧ x_1 ≤ 10 ∧ -10 ≤ y_1 ∧ y_1 < 6 ∧ y_1 - x_1 ≤ 2 * f) ∧ putA (putA I 4 p) 4 (swT p x y) = putA I 4 p_1 ∧ nxT N (I 4) = revT f x_1 y_1 p_1 ∧ n' = f := ⟨f', by omega, hz, f', x + 1, y + -1, swT p x y, rfl, by omega, putA_putA _ _ _ _, he, rfl⟩
        simp only [false_and, and_false, true_or, or_true, false_or, or_false, true_and, and_true, true_implies, false_implies, implies_true, not_true_eq_false, not_false_eq_true, and_self, List.length_cons, List.length_nil, mNoCut_, mCat_n, mCat_I, mCat_L, mCat_R, mIsL_n, mIsL_I, mIsL_R, mIsL_L, Nat.reduceAdd, Nat.reduceSub, Nat.reduceLeDiff, Nat.reduceLT, Nat.reduceEqDiff, Nat.zero_le, Int.reduceEq, Int.reduceLT, Int.reduceLE, Int.reduceNeg, Int.reduceAdd, if_true, if_false, reduceIte, reduceCtorEq, Bool.false_eq_true, ne_eq, qCmp_0, qCmp_1, qCmp_2, qCmp_3, qCmp_4, qCmp_5, ib_0, ib_1, ib_2, lb_0, lb_1, lb_2, dv_0, dv_1, wq_ic, wq_ld_i, wq_ld_a, wq_st_i, wq_iinc, wq_ib, wq_icmp, wq_if, wq_goto, wq_get, mGet_0, mGet_1, mGet_2, mGet_3, wq_ald, wq_ret0, wq_ret1, wq_ret2, wq_ret3, wq_ret4, ldI1, mrg_2_, stI2, ldI2, ldR0, fk_10_9, mrg_1_, wqinc2, mrg_0_, stI3, ldI3, wqinc3, wq_callV3_0, stI4, stI5, ldI4, ldI5, wqinc4, wqinc5, mPut_s, mPut_I0, mPut_R0, mPut_L0, mPut_I1, mPut_R1, mPut_L1, mGo_n, sfxX10_nextOrder_4, cutX10_nextOrder_4, sfxX10_nextOrder_31, cutX10_nextOrder_31, sfxX10_nextOrder_37, cutX10_nextOrder_37, sfxX10_nextOrder_41, cutX10_nextOrder_41, sfxX10_nextOrder_67, cutX10_nextOrder_67, sfxX10_nextOrder_83, cutX10_nextOrder_83, sfxX10_nextOrder_107, cutX10_nextOrder_107, wq_cut, mGo_c, mMask_t, mMask_f, mMask_n, kX10_nextOrder_107, kX10_nextOrder_83, kX10_nextOrder_67, kX10_nextOrder_41, kX10_nextOrder_37, kX10_nextOrder_31, kX10_nextOrder_4, kX10_nextOrder_0, sk_0, al_0, rf_0_9, sk_4, al_4, sn_4, ald_n, ro0_n, al_ro, SX10_nextOrder_0, shqRII_, spX10_swapOrder, mrg, mrl, mSet_ap, ncast, Option.some.injEq, putA_eq]
        (try simp only [mrg, mrl] at *) <;> repeat' (first | (with_reducible assumption) | (with_reducible apply And.intro) | intro _)
        all_goals first | omega | exact key | skip
      · have e : revT f x y p = p := by
          cases f with
          | zero => rfl
          | succ f => exact if_neg (by omega)
        rw [he, e] at h
        simp only [false_and, and_false, true_or, or_true, false_or, or_false, true_and, and_true, true_implies, false_implies, implies_true, not_true_eq_false, not_false_eq_true, and_self, List.length_cons, List.length_nil, mNoCut_, mCat_n, mCat_I, mCat_L, mCat_R, mIsL_n, mIsL_I, mIsL_R, mIsL_L, Nat.reduceAdd, Nat.reduceSub, Nat.reduceLeDiff, Nat.reduceLT, Nat.reduceEqDiff, Nat.zero_le, Int.reduceEq, Int.reduceLT, Int.reduceLE, Int.reduceNeg, Int.reduceAdd, if_true, if_false, reduceIte, reduceCtorEq, Bool.false_eq_true, ne_eq, qCmp_0, qCmp_1, qCmp_2, qCmp_3, qCmp_4, qCmp_5, ib_0, ib_1, ib_2, lb_0, lb_1, lb_2, dv_0, dv_1, wq_ic, wq_ld_i, wq_ld_a, wq_st_i, wq_iinc, wq_ib, wq_icmp, wq_if, wq_goto, wq_get, mGet_0, mGet_1, mGet_2, mGet_3, wq_ald, wq_ret0, wq_ret1, wq_ret2, wq_ret3, wq_ret4, ldI1, mrg_2_, stI2, ldI2, ldR0, fk_10_9, mrg_1_, wqinc2, mrg_0_, stI3, ldI3, wqinc3, wq_callV3_0, stI4, stI5, ldI4, ldI5, wqinc4, wqinc5, mPut_s, mPut_I0, mPut_R0, mPut_L0, mPut_I1, mPut_R1, mPut_L1, mGo_n, sfxX10_nextOrder_4, cutX10_nextOrder_4, sfxX10_nextOrder_31, cutX10_nextOrder_31, sfxX10_nextOrder_37, cutX10_nextOrder_37, sfxX10_nextOrder_41, cutX10_nextOrder_41, sfxX10_nextOrder_67, cutX10_nextOrder_67, sfxX10_nextOrder_83, cutX10_nextOrder_83, sfxX10_nextOrder_107, cutX10_nextOrder_107, wq_cut, mGo_c, mMask_t, mMask_f, mMask_n, kX10_nextOrder_107, kX10_nextOrder_83, kX10_nextOrder_67, kX10_nextOrder_41, kX10_nextOrder_37, kX10_nextOrder_31, kX10_nextOrder_4, kX10_nextOrder_0, sk_0, al_0, rf_0_9, sk_4, al_4, sn_4, ald_n, ro0_n, al_ro, SX10_nextOrder_0, shqRII_, spX10_swapOrder, mrg, mrl, mSet_ap, ncast, Option.some.injEq, putA_eq]
        (try simp only [mrg, mrl] at *) <;> repeat' (first | (with_reducible assumption) | (with_reducible apply And.intro) | intro _)
        all_goals first | omega | exact h | skip
  · show mWp _ _ _ _ _ _ kX10_nextOrder_0 [some (mR (some 0)), some (mI N), none, none, none, none] [] I
    simp only [false_and, and_false, true_or, or_true, false_or, or_false, true_and, and_true, true_implies, false_implies, implies_true, not_true_eq_false, not_false_eq_true, and_self, List.length_cons, List.length_nil, mNoCut_, mCat_n, mCat_I, mCat_L, mCat_R, mIsL_n, mIsL_I, mIsL_R, mIsL_L, Nat.reduceAdd, Nat.reduceSub, Nat.reduceLeDiff, Nat.reduceLT, Nat.reduceEqDiff, Nat.zero_le, Int.reduceEq, Int.reduceLT, Int.reduceLE, Int.reduceNeg, Int.reduceAdd, if_true, if_false, reduceIte, reduceCtorEq, Bool.false_eq_true, ne_eq, qCmp_0, qCmp_1, qCmp_2, qCmp_3, qCmp_4, qCmp_5, ib_0, ib_1, ib_2, lb_0, lb_1, lb_2, dv_0, dv_1, wq_ic, wq_ld_i, wq_ld_a, wq_st_i, wq_iinc, wq_ib, wq_icmp, wq_if, wq_goto, wq_get, mGet_0, mGet_1, mGet_2, mGet_3, wq_ald, wq_ret0, wq_ret1, wq_ret2, wq_ret3, wq_ret4, ldI1, mrg_2_, stI2, ldI2, ldR0, fk_10_9, mrg_1_, wqinc2, mrg_0_, stI3, ldI3, wqinc3, wq_callV3_0, stI4, stI5, ldI4, ldI5, wqinc4, wqinc5, mPut_s, mPut_I0, mPut_R0, mPut_L0, mPut_I1, mPut_R1, mPut_L1, mGo_n, sfxX10_nextOrder_4, cutX10_nextOrder_4, sfxX10_nextOrder_31, cutX10_nextOrder_31, sfxX10_nextOrder_37, cutX10_nextOrder_37, sfxX10_nextOrder_41, cutX10_nextOrder_41, sfxX10_nextOrder_67, cutX10_nextOrder_67, sfxX10_nextOrder_83, cutX10_nextOrder_83, sfxX10_nextOrder_107, cutX10_nextOrder_107, wq_cut, mGo_c, mMask_t, mMask_f, mMask_n, kX10_nextOrder_107, kX10_nextOrder_83, kX10_nextOrder_67, kX10_nextOrder_41, kX10_nextOrder_37, kX10_nextOrder_31, kX10_nextOrder_4, kX10_nextOrder_0, sk_0, al_0, rf_0_9, sk_4, al_4, sn_4, ald_n, ro0_n, al_ro, SX10_nextOrder_0, shqRII_, spX10_swapOrder, mrg, mrl, mSet_ap, ncast, Option.some.injEq]
    exact ⟨_, (N : Int) - 2, rfl, by omega, by rw [show ((N : Int) - 2 + 1).toNat = N - 1 by omega], rfl⟩
theorem ctrX10_nextOrder {l : Launch} (hst : l.stackTraces = false) (hT : mTxM l) : mCtr l calX10_nextOrder spX10_nextOrder :=
  mMet (T := TX10_nextOrder) (S := SX10_nextOrder) hst hT cutX10_nextOrder (by decide) okX10_nextOrder ⟨_, _, rfl, rfl⟩ trivial (fun t bs h => by rcases cutsX10_nextOrder h with ⟨-, rfl⟩ | ⟨-, rfl⟩ | ⟨-, rfl⟩ <;> rfl) (fun a => match a with
    | 0 => ctrX10_swapOrder hst hT
    | _ + 1 => mCtr_no) vcX10_nextOrder

def spX10_seat : mSp := shRRI (fun fl i x n I Q => i = some 0 ∧ ∃ (k N : Nat), x = some (170 + 2 * k) ∧ k < 4 ∧ fl (3 + k) = true ∧ n = N ∧ N ≤ 6 ∧ (∀ q : Int, 0 ≤ q → q < N → (0 ≤ I 4 q ∧ I 4 q < 40) ∧ 0 ≤ I (171 + 2 * k) (I 4 q) ∧ I (171 + 2 * k) (I 4 q) ≤ 288) ∧ ∀ I' : mM, (∀ i, i ≠ 3 → I' i = I i) → (∀ q : Int, 0 ≤ q → q < N → I' 3 q = I (171 + 2 * k) (I 4 q)) → (∀ q : Int, N ≤ q → I' 3 q = I 3 q) → Q (.inl none) I')
def SX10_seat : Nat → mSp := fun a => match a with
  | _ => fun _ _ _ _ => False
theorem cutsX10_seat {t : Nat} {bs : List Bool} (h : cutX10_seat t = some bs) : (t = 2 ∧ bs = [true, true, true, true]) := by
  unfold cutX10_seat at h
  simp only [mLk] at h
  by_cases h0 : 2 = t
  · subst h0
    simp at h
    exact ⟨rfl, h.symm⟩
  rw [if_neg h0] at h
  cases h
set_option maxRecDepth 100000 in
set_option maxHeartbeats 1000000 in
theorem vcX10_seat (fl : Nat → Bool) (avs : List mV) (I : mM) (Q : mO → mM → Prop) (hsp : spX10_seat fl avs I Q) : mVC SX10_seat fl Q kX10_seat cutX10_seat 4 avs I := by
  obtain ⟨i, x, n_, rfl, h0⟩ := shRRI_inv hsp
  obtain ⟨rfl, k, N, rfl, hk, hf, rfl, hN, hv, h⟩ := h0
  have F := trayF hk hf
  have ha3 : 170 + 2 * k ≠ 3 := by omega
  have hd3 : 171 + 2 * k ≠ 3 := by omega
  generalize ha : 170 + 2 * k = a at *
  generalize hd : 171 + 2 * k = d at *
  have k1 := F.1.1
  have k2 := F.1.2
  have k3 := F.2.1
  have k4 := F.2.2.1.1
  have k5 := F.2.2.1.2
  have k6 := F.2.2.2.1
  have k7 := F.2.2.2.2
  clear F
  refine ⟨rfl, (fun m pc lv st I1 => st = [] ∧ ∃ j : Nat, lv = [some (mR (some 0)), some (mR (some a)), some (mI N), some (mI j)] ∧ j ≤ N ∧ m = 9 - j ∧ (∀ i, i ≠ 3 → I1 i = I i) ∧ (∀ q : Int, 0 ≤ q → q < j → I1 3 q = I d (I 4 q)) ∧ (∀ q : Int, N ≤ q → I1 3 q = I 3 q)), ?_, ?_⟩
  · intro n t bs hbs lv st I1 hc
    rcases cutsX10_seat hbs with ⟨rfl, rfl⟩
    rw [sfxX10_seat_2]
    obtain ⟨rfl, j, rfl, hj, hm, hI, hA, hB⟩ := hc
    rcases Nat.lt_or_ge j N with z | z
    · have e4 := hI 4 (by decide)
      have ed := hI d hd3
      have vj := hv j (by omega) (by omega)
      have key : ∃ n', n' < n ∧ ∃ j_1 : Nat, [some (mR (some 0)), some (mR (some a)), some (mI N), some (mI ((j : Int) + 1))] = [some (mR (some 0)), some (mR (some a)), some (mI N), some (mI j_1)] ∧ j_1 ≤ N ∧ n' = 9 - j_1 ∧ (∀ i, ¬ i = 3 → mSet I1 3 j (I d (I 4 j)) i = I i) ∧ (∀ q : Int, 0 ≤ q → q < j_1 → (if q = j then I d (I 4 j) else I1 3 q) = I d (I 4 q)) ∧ (∀ q : Int, N ≤ q → (if q = j then I d (I 4 j) else I1 3 q) = I 3 q) := by
        refine ⟨9 - (j + 1), by omega, j + 1, rfl, by omega, rfl, fun i hi => by rw [set_ne hi]; exact hI i hi, fun q q0 q1 => ?_, fun q q0 => by rw [if_neg (by omega)]; exact hB q q0⟩
        by_cases e : q = j
        · rw [if_pos e, e]
        · rw [if_neg e]
          exact hA q q0 (by omega)
      clear h hI hA hB hv
      simp only [false_and, and_false, true_or, or_true, false_or, or_false, true_and, and_true, true_implies, false_implies, implies_true, not_true_eq_false, not_false_eq_true, and_self, List.length_cons, List.length_nil, mNoCut_, mCat_n, mCat_I, mCat_L, mCat_R, mIsL_n, mIsL_I, mIsL_R, mIsL_L, Nat.reduceAdd, Nat.reduceSub, Nat.reduceLeDiff, Nat.reduceLT, Nat.reduceEqDiff, Nat.zero_le, Int.reduceEq, Int.reduceLT, Int.reduceLE, Int.reduceNeg, Int.reduceAdd, if_true, if_false, reduceIte, reduceCtorEq, Bool.false_eq_true, ne_eq, qCmp_0, qCmp_1, qCmp_2, qCmp_3, qCmp_4, qCmp_5, ib_0, ib_1, ib_2, lb_0, lb_1, lb_2, dv_0, dv_1, wq_ic, wq_ld_i, wq_ld_a, wq_st_i, wq_iinc, wq_l2i, wq_icmp, wq_goto, wq_get, mGet_0, mGet_1, mGet_2, mGet_3, wq_ald, wq_astI, wq_astL, wq_ret0, wq_ret1, wq_ret2, wq_ret3, wq_ret4, mrg_0_, stI3, ldI3, ldI2, ldR0, fk_10_8, ldR1, fk_8_2, fk_10_9, wqinc3, mPut_s, mPut_I0, mPut_R0, mPut_L0, mPut_I1, mPut_R1, mPut_L1, mGo_n, sfxX10_seat_2, cutX10_seat_2, sfxX10_seat_31, cutX10_seat_31, wq_cut, mGo_c, mMask_t, mMask_f, mMask_n, kX10_seat_31, kX10_seat_2, kX10_seat_0, sk_0, al_0, rf_0_8, sk_3, al_3, sn_3, rf_0_9, sk_4, al_4, sn_4, ald_n, ro0_n, al_ro, mrg, mrl, mSet_ap, ncast, Option.some.injEq, k1, k2, k3, k4, k5, k6, k7, e4, ed]
      (try simp only [mrg, mrl] at *) <;> repeat' (first | (with_reducible assumption) | (with_reducible apply And.intro) | intro _)
      all_goals first | omega | exact key | skip
    · have e : j = N := by omega
      subst e
      have h := h I1 hI hA hB
      clear hI hA hB hv
      simp only [false_and, and_false, true_or, or_true, false_or, or_false, true_and, and_true, true_implies, false_implies, implies_true, not_true_eq_false, not_false_eq_true, and_self, List.length_cons, List.length_nil, mNoCut_, mCat_n, mCat_I, mCat_L, mCat_R, mIsL_n, mIsL_I, mIsL_R, mIsL_L, Nat.reduceAdd, Nat.reduceSub, Nat.reduceLeDiff, Nat.reduceLT, Nat.reduceEqDiff, Nat.zero_le, Int.reduceEq, Int.reduceLT, Int.reduceLE, Int.reduceNeg, Int.reduceAdd, if_true, if_false, reduceIte, reduceCtorEq, Bool.false_eq_true, ne_eq, qCmp_0, qCmp_1, qCmp_2, qCmp_3, qCmp_4, qCmp_5, ib_0, ib_1, ib_2, lb_0, lb_1, lb_2, dv_0, dv_1, wq_ic, wq_ld_i, wq_ld_a, wq_st_i, wq_iinc, wq_l2i, wq_icmp, wq_goto, wq_get, mGet_0, mGet_1, mGet_2, mGet_3, wq_ald, wq_astI, wq_astL, wq_ret0, wq_ret1, wq_ret2, wq_ret3, wq_ret4, mrg_0_, stI3, ldI3, ldI2, ldR0, fk_10_8, ldR1, fk_8_2, fk_10_9, wqinc3, mPut_s, mPut_I0, mPut_R0, mPut_L0, mPut_I1, mPut_R1, mPut_L1, mGo_n, sfxX10_seat_2, cutX10_seat_2, sfxX10_seat_31, cutX10_seat_31, wq_cut, mGo_c, mMask_t, mMask_f, mMask_n, kX10_seat_31, kX10_seat_2, kX10_seat_0, sk_0, al_0, rf_0_8, sk_3, al_3, sn_3, rf_0_9, sk_4, al_4, sn_4, ald_n, ro0_n, al_ro, mrg, mrl, mSet_ap, ncast, Option.some.injEq]
      (try simp only [mrg, mrl] at *) <;> repeat' (first | (with_reducible assumption) | (with_reducible apply And.intro) | intro _)
      all_goals first | omega | exact h | skip
  · show mWp _ _ _ _ _ _ kX10_seat_0 [some (mR (some 0)), some (mR (some a)), some (mI N), none] [] I
    clear h
    simp only [false_and, and_false, true_or, or_true, false_or, or_false, true_and, and_true, true_implies, false_implies, implies_true, not_true_eq_false, not_false_eq_true, and_self, List.length_cons, List.length_nil, mNoCut_, mCat_n, mCat_I, mCat_L, mCat_R, mIsL_n, mIsL_I, mIsL_R, mIsL_L, Nat.reduceAdd, Nat.reduceSub, Nat.reduceLeDiff, Nat.reduceLT, Nat.reduceEqDiff, Nat.zero_le, Int.reduceEq, Int.reduceLT, Int.reduceLE, Int.reduceNeg, Int.reduceAdd, if_true, if_false, reduceIte, reduceCtorEq, Bool.false_eq_true, ne_eq, qCmp_0, qCmp_1, qCmp_2, qCmp_3, qCmp_4, qCmp_5, ib_0, ib_1, ib_2, lb_0, lb_1, lb_2, dv_0, dv_1, wq_ic, wq_ld_i, wq_ld_a, wq_st_i, wq_iinc, wq_l2i, wq_icmp, wq_goto, wq_get, mGet_0, mGet_1, mGet_2, mGet_3, wq_ald, wq_astI, wq_astL, wq_ret0, wq_ret1, wq_ret2, wq_ret3, wq_ret4, mrg_0_, stI3, ldI3, ldI2, ldR0, fk_10_8, ldR1, fk_8_2, fk_10_9, wqinc3, mPut_s, mPut_I0, mPut_R0, mPut_L0, mPut_I1, mPut_R1, mPut_L1, mGo_n, sfxX10_seat_2, cutX10_seat_2, sfxX10_seat_31, cutX10_seat_31, wq_cut, mGo_c, mMask_t, mMask_f, mMask_n, kX10_seat_31, kX10_seat_2, kX10_seat_0, sk_0, al_0, rf_0_8, sk_3, al_3, sn_3, rf_0_9, sk_4, al_4, sn_4, ald_n, ro0_n, al_ro, mrg, mrl, mSet_ap, ncast, Option.some.injEq]
    exact ⟨_, 0, rfl, by omega, rfl, fun q q0 q1 => absurd q1 (by show ¬ q < ((0 : Nat) : Int); omega)⟩
theorem ctrX10_seat {l : Launch} (hst : l.stackTraces = false) (hT : mTxM l) : mCtr l calX10_seat spX10_seat :=
  mMet (T := TX10_seat) (S := SX10_seat) hst hT cutX10_seat (by decide) okX10_seat ⟨_, _, rfl, rfl⟩ trivial (fun t bs h => by rcases cutsX10_seat h with ⟨-, rfl⟩ <;> rfl) (fun a => mCtr_no) vcX10_seat

def spX10_bestPlace : mSp := shRRII (fun fl i x n j I Q => i = some 0 ∧ ∃ (k N : Nat), x = some (170 + 2 * k) ∧ k < 4 ∧ fl (3 + k) = true ∧ n = N ∧ (1 ≤ N ∧ N ≤ 6) ∧ (0 ≤ j ∧ j < N) ∧ (∀ q : Int, 0 ≤ q → q < N → 0 ≤ I (171 + 2 * k) q ∧ I (171 + 2 * k) q ≤ 288) ∧ ∃ t b, ctxU I t b ∧ (∀ g : Int, 0 ≤ g → g < 9 → I 20 g = stT t g) ∧ ∀ I' : mM, (∀ i, i ≠ 3 → i ≠ 4 → i ≠ 130 → I' i = I i) → Q (.inl (some (mI (matchT t (I (171 + 2 * k)) b N j)))) I')
def SX10_bestPlace : Nat → mSp := fun a => match a with
  | 0 => spX10_copyRow
  | 1 => spX10_seat
  | 2 => spX9_verdict
  | 3 => spX9_meanTop
  | 4 => spX10_nextOrder
  | _ => fun _ _ _ _ => False
theorem SX10_bestPlace_0 : SX10_bestPlace 0 = spX10_copyRow := Eq.trans rfl rfl
theorem SX10_bestPlace_1 : SX10_bestPlace 1 = spX10_seat := Eq.trans rfl rfl
theorem SX10_bestPlace_2 : SX10_bestPlace 2 = spX9_verdict := Eq.trans rfl rfl
theorem SX10_bestPlace_3 : SX10_bestPlace 3 = spX9_meanTop := Eq.trans rfl rfl
theorem SX10_bestPlace_4 : SX10_bestPlace 4 = spX10_nextOrder := Eq.trans rfl rfl
theorem cutsX10_bestPlace {t : Nat} {bs : List Bool} (h : cutX10_bestPlace t = some bs) : (t = 20 ∧ bs = [true, true, true, true, true, false, false, false, false, false]) ∨ (t = 98 ∧ bs = [true, true, true, true, true, true, false, true, false, false]) := by
  unfold cutX10_bestPlace at h
  simp only [mLk] at h
  by_cases h0 : 20 = t
  · subst h0
    simp at h
    exact Or.inl ⟨rfl, h.symm⟩
  rw [if_neg h0] at h
  by_cases h1 : 98 = t
  · subst h1
    simp at h
    exact Or.inr (⟨rfl, h.symm⟩)
  rw [if_neg h1] at h
  cases h
set_option maxRecDepth 100000 in
set_option maxHeartbeats 1000000 in
theorem vcX10_bestPlace (fl : Nat → Bool) (avs : List mV) (I : mM) (Q : mO → mM → Prop) (hsp : spX10_bestPlace fl avs I Q) : mVC SX10_bestPlace fl Q kX10_bestPlace cutX10_bestPlace 10 avs I := by
  obtain ⟨i, x, n_, j, rfl, h0⟩ := shRRII_inv hsp
  obtain ⟨rfl, k, N, rfl, hk, hf, rfl, hN, hj, hv, t, b, H, h20, h⟩ := h0
  have F := trayF hk hf
  have ha3 : ¬ (170 + 2 * k = 3 ∨ 170 + 2 * k = 4 ∨ 170 + 2 * k = 130) := by omega
  have hd3 : ¬ (171 + 2 * k = 3 ∨ 171 + 2 * k = 4 ∨ 171 + 2 * k = 130) := by omega
  have hka : ∀ a, 170 + 2 * k = a → some a = some (170 + 2 * k) := fun a e => by rw [e]
  have hn := H.1.2.1 b H.2.1.1 H.2.1.2
  have e0 := H.2.2.1.1
  have g1 := H.2.2.2.2 1 (by omega) (by omega)
  have g4 := H.2.2.2.2 4 (by omega) (by omega)
  have g5 := H.2.2.2.2 5 (by omega) (by omega)
  have h11 := H.1.1
  obtain ⟨a, ha⟩ : ∃ a, a = 170 + 2 * k := ⟨_, rfl⟩
  obtain ⟨d, hd⟩ : ∃ d, d = 171 + 2 * k := ⟨_, rfl⟩
  rw [← ha]
  rw [← hd] at hv h hd3
  have sB : ∀ (f : Nat) (p : Int → Int), okP N f p → stB (seatS (stT t) (I d) p N) := fun f p hp => seat_B H.1 hN.2 hp hv
  have sK : ∀ (I2 : mM) (p : Int → Int) (f : Nat), okP N f p → (∀ i, i ≠ 3 → i ≠ 4 → i ≠ 130 → I2 i = I i) → (∀ q : Int, 0 ≤ q → q < N → I2 3 q = I d (p q)) → (∀ g : Int, N ≤ g → g < 9 → I2 3 g = stT t g) → stB (I2 3) ∧ ctxU I2 t b ∧ verdU (I 11) (I2 3) = judgeT (stR t (seatS (stT t) (I d) p N)) ∧ meanT (stR t (I2 3)) b = VT t (stT t) (I d) b N p := fun I2 p f hp f2 s2 s3 => by
    have e3 : ∀ g : Int, 0 ≤ g → g < 9 → I2 3 g = seatS (stT t) (I d) p N g := fun g g0 g1 => by
      simp only [seatS]
      by_cases y : g < N
      · rw [if_pos y]
        exact s2 g g0 y
      · rw [if_neg y]
        exact s3 g (by omega) g1
    have eR : stR t (I2 3) = stR t (seatS (stT t) (I d) p N) := stR_cong t e3
    exact ⟨fun g g0 g1 => by rw [e3 g g0 g1]; exact sB f p hp g g0 g1, ctxU_of (fun i hi => f2 i (by omega) (by omega) (by omega)) H, by rw [verd_eq H.1 H.2.2.2.2, eR], by rw [eR]; rfl⟩
  refine ⟨rfl, (fun m pc lv st I1 => st = [] ∧ (∀ i, i ≠ 3 → i ≠ 4 → i ≠ 130 → I1 i = I i) ∧ (∀ g : Int, N ≤ g → g < 9 → I1 3 g = stT t g) ∧ (if pc = 20 then ∃ q : Nat, lv = [some (mR (some 0)), some (mR (some a)), some (mI N), some (mI j), some (mI q), none, none, none, none, none] ∧ q ≤ N ∧ m = 900 - q ∧ (∀ g : Int, 0 ≤ g → g < q → I1 4 g = g) else ∃ (x l : Int) (f : Nat), lv = [some (mR (some 0)), some (mR (some a)), some (mI N), some (mI j), some (mI x), some (mL l), none, some (mI ((719 - f : Nat) : Int)), none, none] ∧ f ≤ 719 ∧ m = f ∧ mrl l ∧ (0 ≤ x ∧ x < 6) ∧ okP N f (I1 4) ∧ matchT t (I d) b N j = bstT N (VT t (stT t) (I d) b N) j f (I1 4) l x)), ?_, ?_⟩
  · intro n t bs hbs lv st I1 hc
    rcases cutsX10_bestPlace hbs with ⟨rfl, rfl⟩ | ⟨rfl, rfl⟩
    · skip
      rw [sfxX10_bestPlace_20]
      obtain ⟨rfl, hI, h3, q, rfl, hq, hm, hO⟩ := hc
      have n11 := hI 11 (by decide) (by decide) (by decide)
      have n120 := hI 120 (by decide) (by decide) (by decide)
      have nd := hI d (by omega) (by omega) (by omega)
      rcases Nat.lt_or_ge q N with z | z
      · have key : ∃ n', n' < n ∧ (∀ i, ¬ i = 3 → ¬ i = 4 → ¬ i = 130 → mSet I1 4 q q i = I i) ∧ (∀ g : Int, N ≤ g → g < 9 → I1 3 g = stT t g) ∧ ∃ q_1 : Nat, [some (mR (some 0)), some (mR (some a)), some (mI N), some (mI j), some (mI ((q : Int) + 1)), none, none, none, none, none] = [some (mR (some 0)), some (mR (some a)), some (mI N), some (mI j), some (mI q_1), none, none, none, none, none] ∧ q_1 ≤ N ∧ n' = 900 - q_1 ∧ (∀ g : Int, 0 ≤ g → g < q_1 → (if g = q then (q : Int) else I1 4 g) = g) := by
          refine ⟨900 - (q + 1), by omega, fun i i0 i1 i2 => by rw [set_ne i1]; exact hI i i0 i1 i2, h3, q + 1, rfl, by omega, rfl, fun g g0 g1 => ?_⟩
          by_cases e : g = q
          · rw [if_pos e, e]
          · rw [if_neg e]
            exact hO g g0 (by omega)
        clear h hO hI h3
        simp only [false_and, and_false, true_or, or_true, false_or, or_false, true_and, and_true, true_implies, false_implies, implies_true, not_true_eq_false, not_false_eq_true, and_self, List.length_cons, List.length_nil, mNoCut_, mCat_n, mCat_I, mCat_L, mCat_R, mIsL_n, mIsL_I, mIsL_R, mIsL_L, Nat.reduceAdd, Nat.reduceSub, Nat.reduceLeDiff, Nat.reduceLT, Nat.reduceEqDiff, Nat.zero_le, Int.reduceEq, Int.reduceLT, Int.reduceLE, Int.reduceNeg, Int.reduceAdd, if_true, if_false, reduceIte, reduceCtorEq, Bool.false_eq_true, ne_eq, qCmp_0, qCmp_1, qCmp_2, qCmp_3, qCmp_4, qCmp_5, ib_0, ib_1, ib_2, lb_0, lb_1, lb_2, dv_0, dv_1, wq_ic, wq_ld_i, wq_ld_l, wq_ld_a, wq_st_i, wq_st_l, wq_iinc, wq_icmp, wq_if, wq_lcmp, wq_goto, wq_get, mGet_0, mGet_1, mGet_2, mGet_3, wq_ald, wq_astI, wq_astL, wq_ret0, wq_ret1, wq_ret2, wq_ret3, wq_ret4, ldR0, fk_10_0, fk_7_1, fk_6_0, fk_10_8, wq_callS2_1, mrg_0_, stI4, ldI4, ldI2, fk_10_9, wqinc4, ldR1, wq_callV3_0, fk_10_4, fk_0_0, fk_10_5, wq_callV2_0, mrg_m1_, ldI3, stL5, stI7, ldI7, mrg_720_, stL8, ldL8, ldL5, wqinc7, mPut_s, mPut_I0, mPut_R0, mPut_L0, mPut_I1, mPut_R1, mPut_L1, mGo_n, sfxX10_bestPlace_20, cutX10_bestPlace_20, sfxX10_bestPlace_41, cutX10_bestPlace_41, sfxX10_bestPlace_72, cutX10_bestPlace_72, sfxX10_bestPlace_74, cutX10_bestPlace_74, sfxX10_bestPlace_98, cutX10_bestPlace_98, sfxX10_bestPlace_153, cutX10_bestPlace_153, sfxX10_bestPlace_159, cutX10_bestPlace_159, wq_cut, mGo_c, mMask_t, mMask_f, mMask_n, kX10_bestPlace_159, kX10_bestPlace_153, kX10_bestPlace_98, kX10_bestPlace_74, kX10_bestPlace_72, kX10_bestPlace_41, kX10_bestPlace_20, kX10_bestPlace_0, sk_120, al_120, sk_0, al_0, rf_0_0, sk_10, al_10, rf_0_8, sk_3, al_3, sn_3, rf_0_9, sk_4, al_4, sn_4, rf_0_4, rf_0_5, sk_130, al_130, sk_12, al_12, rf_12_0, sk_20, al_20, sn_20, rf_10_1, ald_n, ro0_n, al_ro, SX10_bestPlace_0, SX10_bestPlace_1, SX10_bestPlace_2, SX10_bestPlace_3, SX10_bestPlace_4, shqRR_, shqRRI_, shqRI_, spX10_copyRow, spX10_seat, spX9_verdict, spX9_meanTop, spX10_nextOrder, mrg, mrl, mSet_ap, ncast, Option.some.injEq]
        (try simp only [mrg, mrl] at *) <;> repeat' (first | (with_reducible assumption) | (with_reducible apply And.intro) | intro _)
        all_goals first | omega | exact key | skip
      · have e : q = N := by omega
        subst e
        have hP : okP q 719 (I1 4) := okP_id hN hO
        have hrg : ∀ g : Int, 0 ≤ g → g < q → (0 ≤ I1 4 g ∧ I1 4 g < 40) ∧ 0 ≤ I1 d (I1 4 g) ∧ I1 d (I1 4 g) ≤ 288 := fun g g0 g1 => by
          have := hP.rg g0 g1
          rw [nd]
          have := hv (I1 4 g) (by omega) (by omega)
          omega
        simp only [false_and, and_false, true_or, or_true, false_or, or_false, true_and, and_true, true_implies, false_implies, implies_true, not_true_eq_false, not_false_eq_true, and_self, List.length_cons, List.length_nil, mNoCut_, mCat_n, mCat_I, mCat_L, mCat_R, mIsL_n, mIsL_I, mIsL_R, mIsL_L, Nat.reduceAdd, Nat.reduceSub, Nat.reduceLeDiff, Nat.reduceLT, Nat.reduceEqDiff, Nat.zero_le, Int.reduceEq, Int.reduceLT, Int.reduceLE, Int.reduceNeg, Int.reduceAdd, if_true, if_false, reduceIte, reduceCtorEq, Bool.false_eq_true, ne_eq, qCmp_0, qCmp_1, qCmp_2, qCmp_3, qCmp_4, qCmp_5, ib_0, ib_1, ib_2, lb_0, lb_1, lb_2, dv_0, dv_1, wq_ic, wq_ld_i, wq_ld_l, wq_ld_a, wq_st_i, wq_st_l, wq_iinc, wq_icmp, wq_if, wq_lcmp, wq_goto, wq_get, mGet_0, mGet_1, mGet_2, mGet_3, wq_ald, wq_astI, wq_astL, wq_ret0, wq_ret1, wq_ret2, wq_ret3, wq_ret4, ldR0, fk_10_0, fk_7_1, fk_6_0, fk_10_8, wq_callS2_1, mrg_0_, stI4, ldI4, ldI2, fk_10_9, wqinc4, ldR1, wq_callV3_0, fk_10_4, fk_0_0, fk_10_5, wq_callV2_0, mrg_m1_, ldI3, stL5, stI7, ldI7, mrg_720_, stL8, ldL8, ldL5, wqinc7, mPut_s, mPut_I0, mPut_R0, mPut_L0, mPut_I1, mPut_R1, mPut_L1, mGo_n, sfxX10_bestPlace_20, cutX10_bestPlace_20, sfxX10_bestPlace_41, cutX10_bestPlace_41, sfxX10_bestPlace_72, cutX10_bestPlace_72, sfxX10_bestPlace_74, cutX10_bestPlace_74, sfxX10_bestPlace_98, cutX10_bestPlace_98, sfxX10_bestPlace_153, cutX10_bestPlace_153, sfxX10_bestPlace_159, cutX10_bestPlace_159, wq_cut, mGo_c, mMask_t, mMask_f, mMask_n, kX10_bestPlace_159, kX10_bestPlace_153, kX10_bestPlace_98, kX10_bestPlace_74, kX10_bestPlace_72, kX10_bestPlace_41, kX10_bestPlace_20, kX10_bestPlace_0, sk_120, al_120, sk_0, al_0, rf_0_0, sk_10, al_10, rf_0_8, sk_3, al_3, sn_3, rf_0_9, sk_4, al_4, sn_4, rf_0_4, rf_0_5, sk_130, al_130, sk_12, al_12, rf_12_0, sk_20, al_20, sn_20, rf_10_1, ald_n, ro0_n, al_ro, SX10_bestPlace_0, SX10_bestPlace_1, SX10_bestPlace_2, SX10_bestPlace_3, SX10_bestPlace_4, shqRR_, shqRRI_, shqRI_, spX10_copyRow, spX10_seat, spX9_verdict, spX9_meanTop, spX10_nextOrder, mrg, mrl, mSet_ap, ncast, Option.some.injEq, Option.getD_some]
        refine ⟨⟨by omega, by omega⟩, fun _ => ⟨k, q, ha, hk, hf, rfl, hN.2, by rw [← hd]; exact hrg, fun I2 f2 s2 s3 => ?_⟩, fun y => absurd (Int.le_refl _) y⟩
        rw [← hd, nd] at s2
        have fI : ∀ i, i ≠ 3 → i ≠ 4 → i ≠ 130 → I2 i = I i := fun i i0 i1 i2 => by rw [f2 i i0]; exact hI i i0 i1 i2
        have e4 : I2 4 = I1 4 := f2 4 (by decide)
        obtain ⟨y1, y2, y3, y4⟩ := sK I2 (I1 4) 719 hP fI s2 (fun g g0 g1 => by rw [s3 g g0]; exact h3 g g0 g1)
        have jb := judgeT_bd (stR t (seatS (stT t) (I d) (I1 4) q))
        have lw := law_seat H.1 hN.2 hP (c := I d) (fun g g0 g1 => (hv g g0 g1).1)
        have p4 := hP.rg hj.1 hj.2
        have mb := meanT_bd (H.1.sts y1) H.2.1
        have hNo : ∀ _ : Unit, ∀ I3 : mM, (∀ i, i ≠ 3 → i ≠ 4 → i ≠ 130 → I3 i = I i) → (t (13 + b) = 0 ∨ judgeT (stR t (seatS (stT t) (I d) (I1 4) q)) ≠ -1) → Q (.inl (some (mI (-1)))) I3 := fun _ I3 g3 y => by
          have e : matchT t (I d) b q j = -1 := by
            unfold matchT
            by_cases y5 : 0 < t (13 + b)
            · rw [if_pos y5]
              exact if_neg (fun w => (y.resolve_left (by omega)) (lw.2 w))
            · rw [if_neg y5]
          have h := h I3 g3
          rw [e] at h
          exact h
        rw [fI 120 (by decide) (by decide) (by decide), e0, fI 11 (by decide) (by decide) (by decide), y3]
        refine ⟨⟨by omega, by omega⟩, fun y => hNo () I2 fI (Or.inl y), fun y0 => ⟨Or.inl rfl, ⟨by omega, by omega⟩, ⟨by omega, by omega⟩, ⟨by omega, by omega⟩, y1, ⟨by omega, by omega⟩, fun yL => ⟨⟨hj.1, by omega⟩, Or.inl rfl, y1, t, b, y2, fun J => ?_⟩, fun yL => hNo () I2 fI (Or.inr yL)⟩⟩
        rw [y4] at mb
        rw [y4, e4]
        refine ⟨719, by omega, fun i i0 i1 i2 => by rw [fr_ne (by omega)]; exact fI i i0 i1 i2, fun g g0 g1 => by rw [fr_ne (by decide), s3 g g0]; exact h3 g g0 g1, I1 4 j, _, 719, rfl, Nat.le_refl _, rfl, ⟨by omega, by omega⟩, ⟨by omega, by omega⟩, by rw [fr_ne (by decide), e4]; exact hP, ?_⟩
        rw [fr_ne (by decide), e4, show matchT t (I d) b q j = _ from if_pos (show 0 < t (13 + b) by omega), show matT t (I d) b q j = _ from if_pos (lw.1 yL), hO j hj.1 hj.2, VT_cong t (stT t) (I d) b q (I1 4) (fun g => g) hO]
        exact (bst_cong (VT_cong t (stT t) (I d) b q) hj 719 _ _ _ _ hO).symm
    · skip
      rw [sfxX10_bestPlace_98]
      obtain ⟨rfl, hI, h3, x, l, f, rfl, hf9, hm, hl, hx, hP, hR⟩ := hc
      have nd := hI d (by omega) (by omega) (by omega)
      have hr : ∀ q : Int, 0 ≤ q → q < N → 0 ≤ I1 4 q ∧ I1 4 q < 6 := fun q q0 q1 => by
        have := hP.rg q0 q1
        omega
      simp only [false_and, and_false, true_or, or_true, false_or, or_false, true_and, and_true, true_implies, false_implies, implies_true, not_true_eq_false, not_false_eq_true, and_self, List.length_cons, List.length_nil, mNoCut_, mCat_n, mCat_I, mCat_L, mCat_R, mIsL_n, mIsL_I, mIsL_R, mIsL_L, Nat.reduceAdd, Nat.reduceSub, Nat.reduceLeDiff, Nat.reduceLT, Nat.reduceEqDiff, Nat.zero_le, Int.reduceEq, Int.reduceLT, Int.reduceLE, Int.reduceNeg, Int.reduceAdd, if_true, if_false, reduceIte, reduceCtorEq, Bool.false_eq_true, ne_eq, qCmp_0, qCmp_1, qCmp_2, qCmp_3, qCmp_4, qCmp_5, ib_0, ib_1, ib_2, lb_0, lb_1, lb_2, dv_0, dv_1, wq_ic, wq_ld_i, wq_ld_l, wq_ld_a, wq_st_i, wq_st_l, wq_iinc, wq_icmp, wq_if, wq_lcmp, wq_goto, wq_get, mGet_0, mGet_1, mGet_2, mGet_3, wq_ald, wq_astI, wq_astL, wq_ret0, wq_ret1, wq_ret2, wq_ret3, wq_ret4, ldR0, fk_10_0, fk_7_1, fk_6_0, fk_10_8, wq_callS2_1, mrg_0_, stI4, ldI4, ldI2, fk_10_9, wqinc4, ldR1, wq_callV3_0, fk_10_4, fk_0_0, fk_10_5, wq_callV2_0, mrg_m1_, ldI3, stL5, stI7, ldI7, mrg_720_, stL8, ldL8, ldL5, wqinc7, mPut_s, mPut_I0, mPut_R0, mPut_L0, mPut_I1, mPut_R1, mPut_L1, mGo_n, sfxX10_bestPlace_20, cutX10_bestPlace_20, sfxX10_bestPlace_41, cutX10_bestPlace_41, sfxX10_bestPlace_72, cutX10_bestPlace_72, sfxX10_bestPlace_74, cutX10_bestPlace_74, sfxX10_bestPlace_98, cutX10_bestPlace_98, sfxX10_bestPlace_153, cutX10_bestPlace_153, sfxX10_bestPlace_159, cutX10_bestPlace_159, wq_cut, mGo_c, mMask_t, mMask_f, mMask_n, kX10_bestPlace_159, kX10_bestPlace_153, kX10_bestPlace_98, kX10_bestPlace_74, kX10_bestPlace_72, kX10_bestPlace_41, kX10_bestPlace_20, kX10_bestPlace_0, sk_120, al_120, sk_0, al_0, rf_0_0, sk_10, al_10, rf_0_8, sk_3, al_3, sn_3, rf_0_9, sk_4, al_4, sn_4, rf_0_4, rf_0_5, sk_130, al_130, sk_12, al_12, rf_12_0, sk_20, al_20, sn_20, rf_10_1, ald_n, ro0_n, al_ro, SX10_bestPlace_0, SX10_bestPlace_1, SX10_bestPlace_2, SX10_bestPlace_3, SX10_bestPlace_4, shqRR_, shqRRI_, shqRI_, spX10_copyRow, spX10_seat, spX9_verdict, spX9_meanTop, spX10_nextOrder, mrg, mrl, mSet_ap, ncast, Option.some.injEq, Option.getD_some]
      refine ⟨⟨by omega, by omega⟩, fun y => by omega, fun _ => ⟨N, rfl, hN, hr, fun hz => ?_, fun hz => ?_⟩⟩
      · rw [bst_end hz] at hR
        have h := h I1 hI
        rw [hR] at h
        exact h
      · obtain ⟨f', rfl, hP', hR'⟩ := bst_next (V := VT t (stT t) (I d) b N) (i := j) hP hz l x
        rw [hR'] at hR
        refine ⟨k, N, ha, hk, hf, rfl, hN.2, fun g g0 g1 => ?_, fun I2 f2 s2 s3 => ?_⟩
        · rw [← hd, putA_eq, putA_ne _ _ (by omega), nd]
          have r := hP'.rg g0 g1
          have := hv _ r.1 r.2
          omega
        · rw [← hd, putA_eq, putA_ne _ _ (by omega), nd] at s2
          have fI : ∀ i, i ≠ 3 → i ≠ 4 → i ≠ 130 → I2 i = I i := fun i i0 i1 i2 => by rw [f2 i i0, putA_ne _ _ i1]; exact hI i i0 i1 i2
          have e4 : I2 4 = nxT N (I1 4) := by rw [f2 4 (by decide), putA_eq]
          obtain ⟨y1, y2, y3, y4⟩ := sK I2 (nxT N (I1 4)) f' hP' fI s2 (fun g g0 g1 => by rw [s3 g g0, putA_ne _ _ (by decide)]; exact h3 g g0 g1)
          have mb := meanT_bd (H.1.sts y1) H.2.1
          have p4 := hP'.rg hj.1 hj.2
          rw [y4] at mb
          have el : ((719 - (f' + 1) : Nat) : Int) + 1 = ((719 - f' : Nat) : Int) := by omega
          refine ⟨Or.inl rfl, y1, t, b, y2, fun J => ?_⟩
          have fJ : ∀ i, i ≠ 3 → i ≠ 4 → i ≠ 130 → fr 130 130 J I2 i = I i := fun i i0 i1 i2 => by rw [fr_ne (by omega)]; exact fI i i0 i1 i2
          have sJ : ∀ g : Int, N ≤ g → g < 9 → fr 130 130 J I2 3 g = stT t g := fun g g0 g1 => by rw [fr_ne (by decide), s3 g g0, putA_ne _ _ (by decide)]; exact h3 g g0 g1
          have n4 : fr 130 130 J I2 4 = nxT N (I1 4) := by rw [fr_ne (by decide), e4]
          rw [y4, n4, el]
          refine ⟨⟨⟨by omega, by omega⟩, hl.1, hl.2⟩, fun y => ?_, fun y => ?_⟩
          · rw [if_neg (by omega)] at hR
            exact ⟨f', by omega, fJ, sJ, x, l, f', rfl, by omega, rfl, hl, hx, hP', hR⟩
          · rw [if_pos (by omega)] at hR
            exact ⟨⟨hj.1, by omega⟩, f', by omega, fJ, sJ, nxT N (I1 4) j, _, f', rfl, by omega, rfl, ⟨by omega, by omega⟩, ⟨by omega, by omega⟩, hP', hR⟩
  · show mWp _ _ _ _ _ _ kX10_bestPlace_0 [some (mR (some 0)), some (mR (some a)), some (mI N), some (mI j), none, none, none, none, none, none] [] I
    clear h sB
    simp only [false_and, and_false, true_or, or_true, false_or, or_false, true_and, and_true, true_implies, false_implies, implies_true, not_true_eq_false, not_false_eq_true, and_self, List.length_cons, List.length_nil, mNoCut_, mCat_n, mCat_I, mCat_L, mCat_R, mIsL_n, mIsL_I, mIsL_R, mIsL_L, Nat.reduceAdd, Nat.reduceSub, Nat.reduceLeDiff, Nat.reduceLT, Nat.reduceEqDiff, Nat.zero_le, Int.reduceEq, Int.reduceLT, Int.reduceLE, Int.reduceNeg, Int.reduceAdd, if_true, if_false, reduceIte, reduceCtorEq, Bool.false_eq_true, ne_eq, qCmp_0, qCmp_1, qCmp_2, qCmp_3, qCmp_4, qCmp_5, ib_0, ib_1, ib_2, lb_0, lb_1, lb_2, dv_0, dv_1, wq_ic, wq_ld_i, wq_ld_l, wq_ld_a, wq_st_i, wq_st_l, wq_iinc, wq_icmp, wq_if, wq_lcmp, wq_goto, wq_get, mGet_0, mGet_1, mGet_2, mGet_3, wq_ald, wq_astI, wq_astL, wq_ret0, wq_ret1, wq_ret2, wq_ret3, wq_ret4, ldR0, fk_10_0, fk_7_1, fk_6_0, fk_10_8, wq_callS2_1, mrg_0_, stI4, ldI4, ldI2, fk_10_9, wqinc4, ldR1, wq_callV3_0, fk_10_4, fk_0_0, fk_10_5, wq_callV2_0, mrg_m1_, ldI3, stL5, stI7, ldI7, mrg_720_, stL8, ldL8, ldL5, wqinc7, mPut_s, mPut_I0, mPut_R0, mPut_L0, mPut_I1, mPut_R1, mPut_L1, mGo_n, sfxX10_bestPlace_20, cutX10_bestPlace_20, sfxX10_bestPlace_41, cutX10_bestPlace_41, sfxX10_bestPlace_72, cutX10_bestPlace_72, sfxX10_bestPlace_74, cutX10_bestPlace_74, sfxX10_bestPlace_98, cutX10_bestPlace_98, sfxX10_bestPlace_153, cutX10_bestPlace_153, sfxX10_bestPlace_159, cutX10_bestPlace_159, wq_cut, mGo_c, mMask_t, mMask_f, mMask_n, kX10_bestPlace_159, kX10_bestPlace_153, kX10_bestPlace_98, kX10_bestPlace_74, kX10_bestPlace_72, kX10_bestPlace_41, kX10_bestPlace_20, kX10_bestPlace_0, sk_120, al_120, sk_0, al_0, rf_0_0, sk_10, al_10, rf_0_8, sk_3, al_3, sn_3, rf_0_9, sk_4, al_4, sn_4, rf_0_4, rf_0_5, sk_130, al_130, sk_12, al_12, rf_12_0, sk_20, al_20, sn_20, rf_10_1, ald_n, ro0_n, al_ro, SX10_bestPlace_0, SX10_bestPlace_1, SX10_bestPlace_2, SX10_bestPlace_3, SX10_bestPlace_4, shqRR_, shqRRI_, shqRI_, spX10_copyRow, spX10_seat, spX9_verdict, spX9_meanTop, spX10_nextOrder, mrg, mrl, mSet_ap, ncast, Option.some.injEq, Option.getD_some]
    refine ⟨_, fun i i0 _ _ => mCpy_ne _ _ _ _ i0, fun g g0 g1 => ?_, 0, rfl, by omega, rfl, fun g g0 g1 => absurd g1 (by show ¬ g < ((0 : Nat) : Int); omega)⟩
    rw [mCpy_at _ _ _ _ ⟨by omega, by show g < 0 + 9; omega⟩, show (0 : Int) + (g - 0) = g by omega]
    exact h20 g (by omega) g1
theorem ctrX10_bestPlace {l : Launch} (hst : l.stackTraces = false) (hT : mTxM l) : mCtr l calX10_bestPlace spX10_bestPlace :=
  mMet (T := TX10_bestPlace) (S := SX10_bestPlace) hst hT cutX10_bestPlace (by decide) okX10_bestPlace ⟨_, _, rfl, rfl⟩ trivial (fun t bs h => by rcases cutsX10_bestPlace h with ⟨-, rfl⟩ | ⟨-, rfl⟩ <;> rfl) (fun a => match a with
    | 0 => ctrX10_copyRow hst hT
    | 1 => ctrX10_seat hst hT
    | 2 => ctrX9_verdict hst hT
    | 3 => ctrX9_meanTop hst hT
    | 4 => ctrX10_nextOrder hst hT
    | _ + 5 => mCtr_no) vcX10_bestPlace

def spX10_match : mSp := shRIIII (fun fl i b t n j I Q => i = some 0 ∧ clsI I ∧ mrg b ∧ mrg t ∧ mrg n ∧ mrg j ∧ (¬ (ballP b ∧ trayP t) → Q (.inr (mEx 0)) I) ∧ (ballP b ∧ trayP t → fl (3 + t.toNat) = false → Q (.inr (mEx 2)) I) ∧ (ballP b ∧ trayP t → fl (3 + t.toNat) = true → ((0 ≤ I (170 + 2 * t.toNat) 1 ∧ I (170 + 2 * t.toNat) 1 ≤ 40) ∧ ∀ q : Int, 0 ≤ q → q < 40 → mrl (I (171 + 2 * t.toNat) q)) ∧ (¬ ((1 ≤ n ∧ n ≤ 6) ∧ (0 ≤ j ∧ j ≤ n - 1) ∧ ∀ p : Int, 0 ≤ p → p < n → p < I (170 + 2 * t.toNat) 1 → 0 ≤ I (171 + 2 * t.toNat) p ∧ I (171 + 2 * t.toNat) p < 289) → Q (.inr (mEx 1)) I) ∧ (((1 ≤ n ∧ n ≤ 6) ∧ (0 ≤ j ∧ j ≤ n - 1) ∧ ∀ p : Int, 0 ≤ p → p < n → p < I (170 + 2 * t.toNat) 1 → 0 ≤ I (171 + 2 * t.toNat) p ∧ I (171 + 2 * t.toNat) p < 289) → I (170 + 2 * t.toNat) 1 < n → Q (.inr (mEx 3)) I) ∧ (((1 ≤ n ∧ n ≤ 6) ∧ (0 ≤ j ∧ j ≤ n - 1) ∧ ∀ p : Int, 0 ≤ p → p < n → p < I (170 + 2 * t.toNat) 1 → 0 ≤ I (171 + 2 * t.toNat) p ∧ I (171 + 2 * t.toNat) p < 289) → ¬ I (170 + 2 * t.toNat) 1 < n → ∀ I' : mM, (∀ i, ¬ ((3 ≤ i ∧ i ≤ 7) ∨ (120 ≤ i ∧ i ≤ 163)) → I' i = I i) → Q (.inl (some (mI (matchT (I 201) (I (171 + 2 * t.toNat)) b n.toNat j)))) I')))
def SX10_match : Nat → mSp := fun a => match a with
  | 0 => spX10_needBall
  | 1 => spX10_trayAt
  | 2 => spX10_needNumber
  | 3 => spX8_holdsOnly
  | 4 => spX10_lay
  | 5 => spX10_bestPlace
  | _ => fun _ _ _ _ => False
theorem SX10_match_0 : SX10_match 0 = spX10_needBall := Eq.trans rfl rfl
theorem SX10_match_1 : SX10_match 1 = spX10_trayAt := Eq.trans rfl rfl
theorem SX10_match_2 : SX10_match 2 = spX10_needNumber := Eq.trans rfl rfl
theorem SX10_match_3 : SX10_match 3 = spX8_holdsOnly := Eq.trans rfl rfl
theorem SX10_match_4 : SX10_match 4 = spX10_lay := Eq.trans rfl rfl
theorem SX10_match_5 : SX10_match 5 = spX10_bestPlace := Eq.trans rfl rfl
set_option maxRecDepth 100000 in
set_option maxHeartbeats 1000000 in
theorem vcX10_match (fl : Nat → Bool) (avs : List mV) (I : mM) (Q : mO → mM → Prop) (hsp : spX10_match fl avs I Q) : mVC0 SX10_match fl Q kX10_match 6 avs I := by
  obtain ⟨i, b, t, nn, j, rfl, h0⟩ := shRIIII_inv hsp
  refine ⟨rfl, ?_⟩
  show mWp _ _ _ _ _ _ kX10_match_0 [some (mR i), some (mI b), some (mI t), some (mI nn), some (mI j), none] [] I
  obtain ⟨rfl, H, rb, rt, rn, rj, h1, h2, h3⟩ := h0
  by_cases kt : trayP t
  · by_cases kb : ballP b
    · have kp : ballP b ∧ trayP t := ⟨kb, kt⟩
      cases hf : fl (3 + t.toNat)
      · have h2 := h2 kp hf
        clear h1 h3
        simp only [false_and, and_false, true_or, or_true, false_or, or_false, true_and, and_true, true_implies, false_implies, implies_true, not_true_eq_false, not_false_eq_true, and_self, List.length_cons, List.length_nil, mNoCut_, mCat_n, mCat_I, mCat_L, mCat_R, mIsL_n, mIsL_I, mIsL_R, mIsL_L, Nat.reduceAdd, Nat.reduceSub, Nat.reduceLeDiff, Nat.reduceLT, Nat.reduceEqDiff, Nat.zero_le, Int.reduceEq, Int.reduceLT, Int.reduceLE, Int.reduceNeg, Int.reduceAdd, if_true, if_false, reduceIte, reduceCtorEq, Bool.false_eq_true, ne_eq, qCmp_0, qCmp_1, qCmp_2, qCmp_3, qCmp_4, qCmp_5, ib_0, ib_1, ib_2, lb_0, lb_1, lb_2, dv_0, dv_1, wq_ic, wq_ld_i, wq_ld_a, wq_st_a, wq_ib, wq_icmp, wq_if, wq_nulN, wq_nulS, wq_nnlN, wq_nnlS, wq_get, mGet_0, mGet_1, mGet_2, mGet_3, wq_ret0, wq_ret1, wq_ret2, wq_ret3, wq_ret4, wq_thr, ldI1, wq_callS1_1, ldR0, ldI2, wq_callV2_0, stR5, ldR5, ldI3, mrg_1_, mrg_6_, wq_callS3_1, ldI4, mrg_0_, wq_callV3_0, fk_8_1, wq_callV4_0, mPut_s, mPut_I0, mPut_R0, mPut_L0, mPut_I1, mPut_R1, mPut_L1, mGo_n, sfxX10_match_27, cutX10_match_27, sfxX10_match_64, cutX10_match_64, sfxX10_match_84, cutX10_match_84, kX10_match_84, kX10_match_64, kX10_match_27, kX10_match_0, sk_0, al_0, SX10_match_0, SX10_match_1, SX10_match_2, SX10_match_3, SX10_match_4, SX10_match_5, shqI_, shqRI_, shqIII_, shqRII_, shqRRII_, spX10_needBall, spX10_trayAt, spX10_needNumber, spX8_holdsOnly, spX10_lay, spX10_bestPlace, mrg, mrl, mSet_ap, ncast, Option.some.injEq, Option.getD_some, hf]
        (try simp only [mrg, mrl] at *) <;> repeat' (first | (with_reducible assumption) | (with_reducible apply And.intro) | intro _)
        all_goals first | omega | exact h2 | assumption | skip
      · obtain ⟨⟨hm, hq⟩, h5, h6, h7⟩ := h3 kp hf
        clear h1 h2 h3
        have F := trayF (show t.toNat < 4 by omega) hf
        generalize hk : t.toNat = k at *
        generalize ha : 170 + 2 * k = a at *
        generalize hd : 171 + 2 * k = d at *
        have k1 := F.1.1
        have k2 := F.1.2
        have k3 := F.2.1
        have k4 := F.2.2.1.1
        have k5 := F.2.2.1.2
        have k6 := F.2.2.2.1
        have k7 := F.2.2.2.2
        clear F
        simp only [false_and, and_false, true_or, or_true, false_or, or_false, true_and, and_true, true_implies, false_implies, implies_true, not_true_eq_false, not_false_eq_true, and_self, List.length_cons, List.length_nil, mNoCut_, mCat_n, mCat_I, mCat_L, mCat_R, mIsL_n, mIsL_I, mIsL_R, mIsL_L, Nat.reduceAdd, Nat.reduceSub, Nat.reduceLeDiff, Nat.reduceLT, Nat.reduceEqDiff, Nat.zero_le, Int.reduceEq, Int.reduceLT, Int.reduceLE, Int.reduceNeg, Int.reduceAdd, if_true, if_false, reduceIte, reduceCtorEq, Bool.false_eq_true, ne_eq, qCmp_0, qCmp_1, qCmp_2, qCmp_3, qCmp_4, qCmp_5, ib_0, ib_1, ib_2, lb_0, lb_1, lb_2, dv_0, dv_1, wq_ic, wq_ld_i, wq_ld_a, wq_st_a, wq_ib, wq_icmp, wq_if, wq_nulN, wq_nulS, wq_nnlN, wq_nnlS, wq_get, mGet_0, mGet_1, mGet_2, mGet_3, wq_ret0, wq_ret1, wq_ret2, wq_ret3, wq_ret4, wq_thr, ldI1, wq_callS1_1, ldR0, ldI2, wq_callV2_0, stR5, ldR5, ldI3, mrg_1_, mrg_6_, wq_callS3_1, ldI4, mrg_0_, wq_callV3_0, fk_8_1, wq_callV4_0, mPut_s, mPut_I0, mPut_R0, mPut_L0, mPut_I1, mPut_R1, mPut_L1, mGo_n, sfxX10_match_27, cutX10_match_27, sfxX10_match_64, cutX10_match_64, sfxX10_match_84, cutX10_match_84, kX10_match_84, kX10_match_64, kX10_match_27, kX10_match_0, sk_0, al_0, SX10_match_0, SX10_match_1, SX10_match_2, SX10_match_3, SX10_match_4, SX10_match_5, shqI_, shqRI_, shqIII_, shqRII_, shqRRII_, spX10_needBall, spX10_trayAt, spX10_needNumber, spX8_holdsOnly, spX10_lay, spX10_bestPlace, mrg, mrl, mSet_ap, ncast, Option.some.injEq, Option.getD_some, hk, ha, hd, hf, k1, k2, k3, k4, k5, k6, k7]
        refine ⟨rb, fun _ => ⟨rt, fun z => absurd kt z, fun _ => ⟨rn, fun kn => ⟨rj, ⟨by omega, by omega⟩, fun kj => ⟨k, ha.symm, by omega, hf, rn, by rw [ha]; exact hm, by rw [hd]; exact hq, fun hc => ⟨⟨⟨by omega, by omega⟩, rn⟩, fun km => ⟨H, kb, fun J hJ => ⟨k, nn.toNat, ha.symm, by omega, hf, by omega, ⟨by omega, by omega⟩, ⟨by omega, by omega⟩, fun q q0 q1 => ?_, I 201, b, H.ctx kb hJ, fun g g0 g1 => by rw [fr_ne (by decide)]; exact H.s20e g g0 g1, fun I' f' => ?_⟩⟩, fun km => ?_⟩, fun hc => ?_⟩, fun kj => ?_⟩, fun kn => ?_⟩⟩, fun z => absurd kb z⟩
        · rw [hd, fr_ne (by omega)]
          rw [ha, hd] at hc
          have := hc q q0 (by omega) (by omega)
          omega
        · rw [ha, hd] at hc
          rw [hd, fr_ne (show ¬ (120 ≤ d ∧ d ≤ 127) by omega)]
          exact h7 ⟨kn, kj, hc⟩ (by omega) I' (fun i hi => by rw [f' i (by omega) (by omega) (by omega), fr_ne (by omega)])
        · rw [ha, hd] at hc
          exact h6 ⟨kn, kj, hc⟩ (by omega)
        · rw [ha, hd] at hc
          exact h5 (fun w => hc w.2.2)
        · exact h5 (fun w => kj w.2.1)
        · exact h5 (fun w => kn w.1)
    · have h1 := h1 (fun w => kb w.1)
      clear h2 h3
      simp only [false_and, and_false, true_or, or_true, false_or, or_false, true_and, and_true, true_implies, false_implies, implies_true, not_true_eq_false, not_false_eq_true, and_self, List.length_cons, List.length_nil, mNoCut_, mCat_n, mCat_I, mCat_L, mCat_R, mIsL_n, mIsL_I, mIsL_R, mIsL_L, Nat.reduceAdd, Nat.reduceSub, Nat.reduceLeDiff, Nat.reduceLT, Nat.reduceEqDiff, Nat.zero_le, Int.reduceEq, Int.reduceLT, Int.reduceLE, Int.reduceNeg, Int.reduceAdd, if_true, if_false, reduceIte, reduceCtorEq, Bool.false_eq_true, ne_eq, qCmp_0, qCmp_1, qCmp_2, qCmp_3, qCmp_4, qCmp_5, ib_0, ib_1, ib_2, lb_0, lb_1, lb_2, dv_0, dv_1, wq_ic, wq_ld_i, wq_ld_a, wq_st_a, wq_ib, wq_icmp, wq_if, wq_nulN, wq_nulS, wq_nnlN, wq_nnlS, wq_get, mGet_0, mGet_1, mGet_2, mGet_3, wq_ret0, wq_ret1, wq_ret2, wq_ret3, wq_ret4, wq_thr, ldI1, wq_callS1_1, ldR0, ldI2, wq_callV2_0, stR5, ldR5, ldI3, mrg_1_, mrg_6_, wq_callS3_1, ldI4, mrg_0_, wq_callV3_0, fk_8_1, wq_callV4_0, mPut_s, mPut_I0, mPut_R0, mPut_L0, mPut_I1, mPut_R1, mPut_L1, mGo_n, sfxX10_match_27, cutX10_match_27, sfxX10_match_64, cutX10_match_64, sfxX10_match_84, cutX10_match_84, kX10_match_84, kX10_match_64, kX10_match_27, kX10_match_0, sk_0, al_0, SX10_match_0, SX10_match_1, SX10_match_2, SX10_match_3, SX10_match_4, SX10_match_5, shqI_, shqRI_, shqIII_, shqRII_, shqRRII_, spX10_needBall, spX10_trayAt, spX10_needNumber, spX8_holdsOnly, spX10_lay, spX10_bestPlace, mrg, mrl, mSet_ap, ncast, Option.some.injEq, Option.getD_some]
      (try simp only [mrg, mrl] at *) <;> repeat' (first | (with_reducible assumption) | (with_reducible apply And.intro) | intro _)
      all_goals first | omega | exact h1 | assumption | skip
  · have h1 := h1 (fun w => kt w.2)
    clear h2 h3
    simp only [false_and, and_false, true_or, or_true, false_or, or_false, true_and, and_true, true_implies, false_implies, implies_true, not_true_eq_false, not_false_eq_true, and_self, List.length_cons, List.length_nil, mNoCut_, mCat_n, mCat_I, mCat_L, mCat_R, mIsL_n, mIsL_I, mIsL_R, mIsL_L, Nat.reduceAdd, Nat.reduceSub, Nat.reduceLeDiff, Nat.reduceLT, Nat.reduceEqDiff, Nat.zero_le, Int.reduceEq, Int.reduceLT, Int.reduceLE, Int.reduceNeg, Int.reduceAdd, if_true, if_false, reduceIte, reduceCtorEq, Bool.false_eq_true, ne_eq, qCmp_0, qCmp_1, qCmp_2, qCmp_3, qCmp_4, qCmp_5, ib_0, ib_1, ib_2, lb_0, lb_1, lb_2, dv_0, dv_1, wq_ic, wq_ld_i, wq_ld_a, wq_st_a, wq_ib, wq_icmp, wq_if, wq_nulN, wq_nulS, wq_nnlN, wq_nnlS, wq_get, mGet_0, mGet_1, mGet_2, mGet_3, wq_ret0, wq_ret1, wq_ret2, wq_ret3, wq_ret4, wq_thr, ldI1, wq_callS1_1, ldR0, ldI2, wq_callV2_0, stR5, ldR5, ldI3, mrg_1_, mrg_6_, wq_callS3_1, ldI4, mrg_0_, wq_callV3_0, fk_8_1, wq_callV4_0, mPut_s, mPut_I0, mPut_R0, mPut_L0, mPut_I1, mPut_R1, mPut_L1, mGo_n, sfxX10_match_27, cutX10_match_27, sfxX10_match_64, cutX10_match_64, sfxX10_match_84, cutX10_match_84, kX10_match_84, kX10_match_64, kX10_match_27, kX10_match_0, sk_0, al_0, SX10_match_0, SX10_match_1, SX10_match_2, SX10_match_3, SX10_match_4, SX10_match_5, shqI_, shqRI_, shqIII_, shqRII_, shqRRII_, spX10_needBall, spX10_trayAt, spX10_needNumber, spX8_holdsOnly, spX10_lay, spX10_bestPlace, mrg, mrl, mSet_ap, ncast, Option.some.injEq, Option.getD_some]
    (try simp only [mrg, mrl] at *) <;> repeat' (first | (with_reducible assumption) | (with_reducible apply And.intro) | intro _)
    all_goals first | omega | exact h1 | assumption | skip
theorem ctrX10_match {l : Launch} (hst : l.stackTraces = false) (hT : mTxM l) : mCtr l calX10_match spX10_match :=
  mMet0 (T := TX10_match) (S := SX10_match) hst hT (by decide) okX10_match ⟨_, _, rfl, rfl⟩ (fun a => match a with
    | 0 => ctrX10_needBall hst hT
    | 1 => ctrX10_trayAt hst hT
    | 2 => ctrX10_needNumber hst hT
    | 3 => ctrX8_holdsOnly hst hT
    | 4 => ctrX10_lay hst hT
    | 5 => ctrX10_bestPlace hst hT
    | _ + 6 => mCtr_no) vcX10_match

end SPC32
