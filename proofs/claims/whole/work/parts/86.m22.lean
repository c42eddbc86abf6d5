section SPM22
/-- the row A holds p -/
def putA (I : mM) (A : Nat) (p : Int → Int) : mM := fun k q => if k = A then p q else I k q
theorem putA_eq (I : mM) (A : Nat) (p : Int → Int) : putA I A p A = p := by
  funext q
  exact if_pos rfl
theorem putA_ne (I : mM) {A k : Nat} (p : Int → Int) (h : k ≠ A) : putA I A p k = I k := by
  funext q
  exact if_neg h
theorem putA_self (I : mM) (A : Nat) : putA I A (I A) = I := by
  funext k q
  simp only [putA]
  split
  · rename_i h
    rw [h]
  · rfl
theorem putA_sw (I : mM) (A : Nat) (p : Int → Int) (a b x y : Int) (hx : x = p b) (hy : y = p a) : mSet (mSet (putA I A p) A a x) A b y = putA I A (swT p a b) := by
  funext k q
  subst hx
  subst hy
  simp only [mSet, putA, swT]
  by_cases h : k = A
  · simp [h]
  · simp [h]
theorem sw_as (I : mM) (A : Nat) (a b : Int) : mSet (mSet I A a (I A b)) A b (I A a) = putA I A (swT (I A) a b) := by
  have h := putA_sw I A (I A) a b _ _ rfl rfl
  rw [putA_self] at h
  exact h
theorem putA_putA (I : mM) (A : Nat) (p p' : Int → Int) : putA (putA I A p) A p' = putA I A p' := by
  funext k q
  simp only [putA]
  split <;> rfl
def spX11_swaps : mSp := shRII (fun _ i a b I Q => i = some 200 ∧ (0 ≤ a ∧ a < 6) ∧ (0 ≤ b ∧ b < 6) ∧ Q (.inl none) (putA I 214 (swT (I 214) a b)))
def SX11_swaps : Nat → mSp := fun a => match a with
  | _ => fun _ _ _ _ => False
set_option maxRecDepth 100000 in
set_option maxHeartbeats 1000000 in
theorem vcX11_swaps (fl : Nat → Bool) (avs : List mV) (I : mM) (Q : mO → mM → Prop) (hsp : spX11_swaps fl avs I Q) : mVC0 SX11_swaps fl Q kX11_swaps 4 avs I := by
  obtain ⟨i, a, b, rfl, h0⟩ := shRII_inv hsp
  refine ⟨rfl, ?_⟩
  show mWp _ _ _ _ _ _ kX11_swaps_0 [some (mR i), some (mI a), some (mI b), none] [] I
  obtain ⟨rfl, ha, hb, h⟩ := h0
  rw [← sw_as] at h
  simp only [false_and, and_false, true_or, or_true, false_or, or_false, true_and, and_true, true_implies, false_implies, implies_true, not_true_eq_false, not_false_eq_true, and_self, List.length_cons, List.length_nil, mNoCut_, mCat_n, mCat_I, mCat_L, mCat_R, mIsL_n, mIsL_I, mIsL_R, mIsL_L, Nat.reduceAdd, Nat.reduceSub, Nat.reduceLeDiff, Nat.reduceLT, Nat.reduceEqDiff, Nat.zero_le, Int.reduceEq, Int.reduceLT, Int.reduceLE, Int.reduceNeg, Int.reduceAdd, if_true, if_false, reduceIte, reduceCtorEq, Bool.false_eq_true, ne_eq, qCmp_0, qCmp_1, qCmp_2, qCmp_3, qCmp_4, qCmp_5, ib_0, ib_1, ib_2, lb_0, lb_1, lb_2, dv_0, dv_1, wq_ld_i, wq_ld_a, wq_st_i, wq_get, mGet_0, mGet_1, mGet_2, mGet_3, wq_ald, wq_astI, wq_astL, wq_ret0, wq_ret1, wq_ret2, wq_ret3, wq_ret4, ldR0, fk_11_30, ldI1, stI3, ldI2, ldI3, mPut_s, mPut_I0, mPut_R0, mPut_L0, mPut_I1, mPut_R1, mPut_L1, kX11_swaps_0, sk_200, al_200, rf_200_30, sk_214, al_214, sn_214, ald_n, ro0_n, al_ro, mrg, mrl, mSet_ap, ncast, Option.some.injEq]
  (try simp only [mrg, mrl] at *) <;> repeat' (first | (with_reducible assumption) | (with_reducible apply And.intro) | intro _)
  all_goals first | omega | exact h | skip
theorem ctrX11_swaps {l : Launch} (hst : l.stackTraces = false) (hT : mTxM l) : mCtr l calX11_swaps spX11_swaps :=
  mMet0 (T := TX11_swaps) (S := SX11_swaps) hst hT (by decide) okX11_swaps ⟨_, _, rfl, rfl⟩ (fun a => mCtr_no) vcX11_swaps

def spX11_goesOn : mSp := shRI (fun _ i n I Q => i = some 200 ∧ ∃ N : Nat, n = N ∧ (1 ≤ N ∧ N ≤ 6) ∧ (∀ q : Int, 0 ≤ q → q < N → 0 ≤ I 214 q ∧ I 214 q < 6) ∧ (ascT (I 214) (N - 1) = -1 → Q (.inl (some (mI 0))) I) ∧ (ascT (I 214) (N - 1) ≠ -1 → Q (.inl (some (mI 1))) (putA I 214 (nxT N (I 214)))))
def SX11_goesOn : Nat → mSp := fun a => match a with
  | 0 => spX11_swaps
  | _ => fun _ _ _ _ => False
theorem SX11_goesOn_0 : SX11_goesOn 0 = spX11_swaps := Eq.trans rfl rfl
theorem cutsX11_goesOn {t : Nat} {bs : List Bool} (h : cutX11_goesOn t = some bs) : (t = 4 ∧ bs = [true, true, true, false, false, false]) ∨ (t = 41 ∧ bs = [true, true, true, true, false, false]) ∨ (t = 78 ∧ bs = [true, false, false, false, true, true]) := by
  unfold cutX11_goesOn at h
  simp only [mLk] at h
  by_cases h0 : 4 = t
  · subst h0
    simp at h
    exact Or.inl ⟨rfl, h.symm⟩
  rw [if_neg h0] at h
  by_cases h1 : 41 = t
  · subst h1
    simp at h
    exact Or.inr (Or.inl ⟨rfl, h.symm⟩)
  rw [if_neg h1] at h
  by_cases h2 : 78 = t
  · subst h2
    simp at h
    exact Or.inr (Or.inr (⟨rfl, h.symm⟩))
  rw [if_neg h2] at h
  cases h
set_option maxRecDepth 100000 in
set_option maxHeartbeats 1000000 in
theorem vcX11_goesOn (fl : Nat → Bool) (avs : List mV) (I : mM) (Q : mO → mM → Prop) (hsp : spX11_goesOn fl avs I Q) : mVC SX11_goesOn fl Q kX11_goesOn cutX11_goesOn 6 avs I := by
  obtain ⟨i, n_, rfl, h0⟩ := shRI_inv hsp
  obtain ⟨rfl, N, rfl, hN, hr, h1, h2⟩ := h0
  refine ⟨rfl, (fun m pc lv st I1 => st = [] ∧ (if pc = 4 then I1 = I ∧ ∃ k : Int, lv = [some (mR (some 200)), some (mI N), some (mI k), none, none, none] ∧ (-1 ≤ k ∧ k + 2 ≤ N) ∧ ascT (I 214) (N - 1) = ascT (I 214) (k + 1).toNat ∧ m = 100 + (k + 1).toNat else if pc = 41 then I1 = I ∧ ascT (I 214) (N - 1) ≠ -1 ∧ ∃ j : Int, lv = [some (mR (some 200)), some (mI N), some (mI (ascT (I 214) (N - 1))), some (mI j), none, none] ∧ (ascT (I 214) (N - 1) + 1 ≤ j ∧ j < N) ∧ drpT (I 214) (I 214 (ascT (I 214) (N - 1))) N = drpT (I 214) (I 214 (ascT (I 214) (N - 1))) (j + 1).toNat ∧ m = 50 + (j + 1).toNat else ascT (I 214) (N - 1) ≠ -1 ∧ ∃ (f : Nat) (x y : Int) (p : Int → Int), lv = [some (mR (some 200)), none, none, none, some (mI x), some (mI y)] ∧ (0 ≤ x ∧ x ≤ 10 ∧ -10 ≤ y ∧ y < 6 ∧ y - x ≤ 2 * f) ∧ I1 = putA I 214 p ∧ nxT N (I 214) = revT f x y p ∧ m = f)), ?_, ?_⟩
  · intro n t bs hbs lv st I1 hc
    rcases cutsX11_goesOn hbs with ⟨rfl, rfl⟩ | ⟨rfl, rfl⟩ | ⟨rfl, rfl⟩
    · skip
      rw [sfxX11_goesOn_4]
      obtain ⟨rfl, rfl, k, rfl, hk, he, hm⟩ := hc
      rcases Int.lt_or_le k 0 with z | z
      · have hk1 : k = -1 := by omega
        subst hk1
        have h := h1 (he.trans rfl)
        clear h1 h2
        simp only [false_and, and_false, true_or, or_true, false_or, or_false, true_and, and_true, true_implies, false_implies, implies_true, not_true_eq_false, not_false_eq_true, and_self, List.length_cons, List.length_nil, mNoCut_, mCat_n, mCat_I, mCat_L, mCat_R, mIsL_n, mIsL_I, mIsL_R, mIsL_L, Nat.reduceAdd, Nat.reduceSub, Nat.reduceLeDiff, Nat.reduceLT, Nat.reduceEqDiff, Nat.zero_le, Int.reduceEq, Int.reduceLT, Int.reduceLE, Int.reduceNeg, Int.reduceAdd, if_true, if_false, reduceIte, reduceCtorEq, Bool.false_eq_true, ne_eq, qCmp_0, qCmp_1, qCmp_2, qCmp_3, qCmp_4, qCmp_5, ib_0, ib_1, ib_2, lb_0, lb_1, lb_2, dv_0, dv_1, wq_ic, wq_ld_i, wq_ld_a, wq_st_i, wq_iinc, wq_ib, wq_icmp, wq_if, wq_goto, wq_get, mGet_0, mGet_1, mGet_2, mGet_3, wq_ald, wq_ret0, wq_ret1, wq_ret2, wq_ret3, wq_ret4, ldI1, mrg_2_, stI2, ldI2, ldR0, fk_11_30, mrg_1_, wqinc2, mrg_0_, stI3, ldI3, wqinc3, wq_callV3_0, stI4, stI5, ldI4, ldI5, wqinc4, wqinc5, mPut_s, mPut_I0, mPut_R0, mPut_L0, mPut_I1, mPut_R1, mPut_L1, mGo_n, sfxX11_goesOn_4, cutX11_goesOn_4, sfxX11_goesOn_31, cutX11_goesOn_31, sfxX11_goesOn_37, cutX11_goesOn_37, sfxX11_goesOn_41, cutX11_goesOn_41, sfxX11_goesOn_62, cutX11_goesOn_62, sfxX11_goesOn_78, cutX11_goesOn_78, sfxX11_goesOn_102, cutX11_goesOn_102, wq_cut, mGo_c, mMask_t, mMask_f, mMask_n, kX11_goesOn_102, kX11_goesOn_78, kX11_goesOn_62, kX11_goesOn_41, kX11_goesOn_37, kX11_goesOn_31, kX11_goesOn_4, kX11_goesOn_0, sk_200, al_200, rf_200_30, sk_214, al_214, sn_214, ald_n, ro0_n, al_ro, SX11_goesOn_0, shqRII_, spX11_swaps, mrg, mrl, mSet_ap, ncast, Option.some.injEq]
        (try simp only [mrg, mrl] at *) <;> repeat' (first | (with_reducible assumption) | (with_reducible apply And.intro) | intro _)
        all_goals first | omega | exact h | skip
      · obtain ⟨kk, rfl⟩ : ∃ kk : Nat, k = kk := ⟨k.toNat, by omega⟩
        rw [show ((kk : Int) + 1).toNat = kk + 1 by omega] at he
        have r0 := hr kk (by omega) (by omega)
        have r1 := hr ((kk : Int) + 1) (by omega) (by omega)
        clear h1 h2 hr
        by_cases y : I1 214 ((kk : Int) + 1) < I1 214 kk
        · rw [show ascT (I1 214) (kk + 1) = ascT (I1 214) kk from if_pos y] at he
          have key : ∃ n', n' < n ∧ ∃ k_1 : Int, [some (mR (some 200)), some (mI N), some (mI ((kk : Int) + -1)), none, none, none] = [some (mR (some 200)), some (mI N), some (mI k_1), none, none, none] ∧ (-1 ≤ k_1 ∧ k_1 + 2 ≤ N) ∧ ascT (I1 214) (N - 1) = ascT (I1 214) (k_1 + 1).toNat ∧ n' = 100 + (k_1 + 1).toNat := ⟨100 + kk, by omega, (kk : Int) + -1, rfl, by omega, by rw [show ((kk : Int) + -1 + 1).toNat = kk by omega]; exact he, by omega⟩
          simp only [false_and, and_false, true_or, or_true, false_or, or_false, true_and, and_true, true_implies, false_implies, implies_true, not_true_eq_false, not_false_eq_true, and_self, List.length_cons, List.length_nil, mNoCut_, mCat_n, mCat_I, mCat_L, mCat_R, mIsL_n, mIsL_I, mIsL_R, mIsL_L, Nat.reduceAdd, Nat.reduceSub, Nat.reduceLeDiff, Nat.reduceLT, Nat.reduceEqDiff, Nat.zero_le, Int.reduceEq, Int.reduceLT, Int.reduceLE, Int.reduceNeg, Int.reduceAdd, if_true, if_false, reduceIte, reduceCtorEq, Bool.false_eq_true, ne_eq, qCmp_0, qCmp_1, qCmp_2, qCmp_3, qCmp_4, qCmp_5, ib_0, ib_1, ib_2, lb_0, lb_1, lb_2, dv_0, dv_1, wq_ic, wq_ld_i, wq_ld_a, wq_st_i, wq_iinc, wq_ib, wq_icmp, wq_if, wq_goto, wq_get, mGet_0, mGet_1, mGet_2, mGet_3, wq_ald, wq_ret0, wq_ret1, wq_ret2, wq_ret3, wq_ret4, ldI1, mrg_2_, stI2, ldI2, ldR0, fk_11_30, mrg_1_, wqinc2, mrg_0_, stI3, ldI3, wqinc3, wq_callV3_0, stI4, stI5, ldI4, ldI5, wqinc4, wqinc5, mPut_s, mPut_I0, mPut_R0, mPut_L0, mPut_I1, mPut_R1, mPut_L1, mGo_n, sfxX11_goesOn_4, cutX11_goesOn_4, sfxX11_goesOn_31, cutX11_goesOn_31, sfxX11_goesOn_37, cutX11_goesOn_37, sfxX11_goesOn_41, cutX11_goesOn_41, sfxX11_goesOn_62, cutX11_goesOn_62, sfxX11_goesOn_78, cutX11_goesOn_78, sfxX11_goesOn_102, cutX11_goesOn_102, wq_cut, mGo_c, mMask_t, mMask_f, mMask_n, kX11_goesOn_102, kX11_goesOn_78, kX11_goesOn_62, kX11_goesOn_41, kX11_goesOn_37, kX11_goesOn_31, kX11_goesOn_4, kX11_goesOn_0, sk_200, al_200, rf_200_30, sk_214, al_214, sn_214, ald_n, ro0_n, al_ro, SX11_goesOn_0, shqRII_, spX11_swaps, mrg, mrl, mSet_ap, ncast, Option.some.injEq]
          (try simp only [mrg, mrl] at *) <;> repeat' (first | (with_reducible assumption) | (with_reducible apply And.intro) | intro _)
          all_goals first | omega | exact key | skip
        · rw [show ascT (I1 214) (kk + 1) = kk from if_neg y] at he
          have key : ∃ n', n' < n ∧ ¬ ascT (I1 214) (N - 1) = -1 ∧ ∃ j : Int, [some (mR (some 200)), some (mI N), some (mI kk), some (mI ((N : Int) - 1)), none, none] = [some (mR (some 200)), some (mI N), some (mI (ascT (I1 214) (N - 1))), some (mI j), none, none] ∧ (ascT (I1 214) (N - 1) + 1 ≤ j ∧ j < N) ∧ drpT (I1 214) (I1 214 (ascT (I1 214) (N - 1))) N = drpT (I1 214) (I1 214 (ascT (I1 214) (N - 1))) (j + 1).toNat ∧ n' = 50 + (j + 1).toNat := ⟨50 + N, by omega, by omega, (N : Int) - 1, by rw [he], by omega, by rw [show ((N : Int) - 1 + 1).toNat = N by omega], by omega⟩
          simp only [false_and, and_false, true_or, or_true, false_or, or_false, true_and, and_true, true_implies, false_implies, implies_true, not_true_eq_false, not_false_eq_true, and_self, List.length_cons, List.length_nil, mNoCut_, mCat_n, mCat_I, mCat_L, mCat_R, mIsL_n, mIsL_I, mIsL_R, mIsL_L, Nat.reduceAdd, Nat.reduceSub, Nat.reduceLeDiff, Nat.reduceLT, Nat.reduceEqDiff, Nat.zero_le, Int.reduceEq, Int.reduceLT, Int.reduceLE, Int.reduceNeg, Int.reduceAdd, if_true, if_false, reduceIte, reduceCtorEq, Bool.false_eq_true, ne_eq, qCmp_0, qCmp_1, qCmp_2, qCmp_3, qCmp_4, qCmp_5, ib_0, ib_1, ib_2, lb_0, lb_1, lb_2, dv_0, dv_1, wq_ic, wq_ld_i, wq_ld_a, wq_st_i, wq_iinc, wq_ib, wq_icmp, wq_if, wq_goto, wq_get, mGet_0, mGet_1, mGet_2, mGet_3, wq_ald, wq_ret0, wq_ret1, wq_ret2, wq_ret3, wq_ret4, ldI1, mrg_2_, stI2, ldI2, ldR0, fk_11_30, mrg_1_, wqinc2, mrg_0_, stI3, ldI3, wqinc3, wq_callV3_0, stI4, stI5, ldI4, ldI5, wqinc4, wqinc5, mPut_s, mPut_I0, mPut_R0, mPut_L0, mPut_I1, mPut_R1, mPut_L1, mGo_n, sfxX11_goesOn_4, cutX11_goesOn_4, sfxX11_goesOn_31, cutX11_goesOn_31, sfxX11_goesOn_37, cutX11_goesOn_37, sfxX11_goesOn_41, cutX11_goesOn_41, sfxX11_goesOn_62, cutX11_goesOn_62, sfxX11_goesOn_78, cutX11_goesOn_78, sfxX11_goesOn_102, cutX11_goesOn_102, wq_cut, mGo_c, mMask_t, mMask_f, mMask_n, kX11_goesOn_102, kX11_goesOn_78, kX11_goesOn_62, kX11_goesOn_41, kX11_goesOn_37, kX11_goesOn_31, kX11_goesOn_4, kX11_goesOn_0, sk_200, al_200, rf_200_30, sk_214, al_214, sn_214, ald_n, ro0_n, al_ro, SX11_goesOn_0, shqRII_, spX11_swaps, mrg, mrl, mSet_ap, ncast, Option.some.injEq]
          (try simp only [mrg, mrl] at *) <;> repeat' (first | (with_reducible assumption) | (with_reducible apply And.intro) | intro _)
          all_goals first | omega | exact key | skip
    · skip
      rw [sfxX11_goesOn_41]
      obtain ⟨rfl, rfl, hz, j, rfl, hj, he, hm⟩ := hc
      have nb := nx_bd hz
      have nd : nxT N (I1 214) = revT 3 (ascT (I1 214) (N - 1) + 1) ((N : Int) - 1) (swT (I1 214) (ascT (I1 214) (N - 1)) (drpT (I1 214) (I1 214 (ascT (I1 214) (N - 1))) N)) := rfl
      clear h1 h2
      obtain ⟨a, ha⟩ : ∃ a, a = ascT (I1 214) (N - 1) := ⟨_, rfl⟩
      rw [← ha] at hz hj he nb nd ⊢
      obtain ⟨jj, rfl⟩ : ∃ jj : Nat, j = jj := ⟨j.toNat, by omega⟩
      rw [show ((jj : Int) + 1).toNat = jj + 1 by omega] at he
      have r0 := hr a (by omega) (by omega)
      have r1 := hr jj (by omega) (by omega)
      clear hr
      by_cases y : I1 214 jj < I1 214 a
      · rw [show drpT (I1 214) (I1 214 a) (jj + 1) = drpT (I1 214) (I1 214 a) jj from if_pos y] at he
        have db := drpT_bd (I1 214) (I1 214 a) jj
        have key : ∃ n', n' < n ∧ ¬ a = -1 ∧ ∃ j : Int, [some (mR (some 200)), some (mI N), some (mI a), some (mI ((jj : Int) + -1)), none, none] = [some (mR (some 200)), some (mI N), some (mI a), some (mI j), none, none] ∧ (a + 1 ≤ j ∧ j < N) ∧ drpT (I1 214) (I1 214 a) N = drpT (I1 214) (I1 214 a) (j + 1).toNat ∧ n' = 50 + (j + 1).toNat := ⟨50 + jj, by omega, hz, (jj : Int) + -1, rfl, by omega, by rw [show ((jj : Int) + -1 + 1).toNat = jj by omega]; exact he, by omega⟩
        simp only [false_and, and_false, true_or, or_true, false_or, or_false, true_and, and_true, true_implies, false_implies, implies_true, not_true_eq_false, not_false_eq_true, and_self, List.length_cons, List.length_nil, mNoCut_, mCat_n, mCat_I, mCat_L, mCat_R, mIsL_n, mIsL_I, mIsL_R, mIsL_L, Nat.reduceAdd, Nat.reduceSub, Nat.reduceLeDiff, Nat.reduceLT, Nat.reduceEqDiff, Nat.zero_le, Int.reduceEq, Int.reduceLT, Int.reduceLE, Int.reduceNeg, Int.reduceAdd, if_true, if_false, reduceIte, reduceCtorEq, Bool.false_eq_true, ne_eq, qCmp_0, qCmp_1, qCmp_2, qCmp_3, qCmp_4, qCmp_5, ib_0, ib_1, ib_2, lb_0, lb_1, lb_2, dv_0, dv_1, wq_ic, wq_ld_i, wq_ld_a, wq_st_i, wq_iinc, wq_ib, wq_icmp, wq_if, wq_goto, wq_get, mGet_0, mGet_1, mGet_2, mGet_3, wq_ald, wq_ret0, wq_ret1, wq_ret2, wq_ret3, wq_ret4, ldI1, mrg_2_, stI2, ldI2, ldR0, fk_11_30, mrg_1_, wqinc2, mrg_0_, stI3, ldI3, wqinc3, wq_callV3_0, stI4, stI5, ldI4, ldI5, wqinc4, wqinc5, mPut_s, mPut_I0, mPut_R0, mPut_L0, mPut_I1, mPut_R1, mPut_L1, mGo_n, sfxX11_goesOn_4, cutX11_goesOn_4, sfxX11_goesOn_31, cutX11_goesOn_31, sfxX11_goesOn_37, cutX11_goesOn_37, sfxX11_goesOn_41, cutX11_goesOn_41, sfxX11_goesOn_62, cutX11_goesOn_62, sfxX11_goesOn_78, cutX11_goesOn_78, sfxX11_goesOn_102, cutX11_goesOn_102, wq_cut, mGo_c, mMask_t, mMask_f, mMask_n, kX11_goesOn_102, kX11_goesOn_78, kX11_goesOn_62, kX11_goesOn_41, kX11_goesOn_37, kX11_goesOn_31, kX11_goesOn_4, kX11_goesOn_0, sk_200, al_200, rf_200_30, sk_214, al_214, sn_214, ald_n, ro0_n, al_ro, SX11_goesOn_0, shqRII_, spX11_swaps, mrg, mrl, mSet_ap, ncast, Option.some.injEq]
        (try simp only [mrg, mrl] at *) <;> repeat' (first | (with_reducible assumption) | (with_reducible apply And.intro) | intro _)
        all_goals first | omega | exact key | skip
      · rw [show drpT (I1 214) (I1 214 a) (jj + 1) = jj from if_neg y] at he
        rw [he] at nd
        have key : ∃ n', n' < n ∧ ¬ a = -1 ∧ ∃ (f : Nat) (x y : Int) (p : Int → Int), [some (mR (some 200)), none, none, none, some (mI (a + 1)), some (mI ((N : Int) - 1))] = [some (mR (some 200)), none, none, none, some (mI x), some (mI y)] ∧ (0 ≤ x ∧ x ≤ 10 ∧ -10 ≤ y ∧ y < 6 ∧ y - x ≤ 2 * f) ∧ putA I1 214 (swT (I1 214) a jj) = putA I1 214 p ∧ nxT N (I1 214) = revT f x y p ∧ n' = f := ⟨3, by omega, hz, 3, a + 1, (N : Int) - 1, _, rfl, by omega, rfl, nd, rfl⟩
        simp only [false_and, and_false, true_or, or_true, false_or, or_false, true_and, and_true, true_implies, false_implies, implies_true, not_true_eq_false, not_false_eq_true, and_self, List.length_cons, List.length_nil, mNoCut_, mCat_n, mCat_I, mCat_L, mCat_R, mIsL_n, mIsL_I, mIsL_R, mIsL_L, Nat.reduceAdd, Nat.reduceSub, Nat.reduceLeDiff, Nat.reduceLT, Nat.reduceEqDiff, Nat.zero_le, Int.reduceEq, Int.reduceLT, Int.reduceLE, Int.reduceNeg, Int.reduceAdd, if_true, if_false, reduceIte, reduceCtorEq, Bool.false_eq_true, ne_eq, qCmp_0, qCmp_1, qCmp_2, qCmp_3, qCmp_4, qCmp_5, ib_0, ib_1, ib_2, lb_0, lb_1, lb_2, dv_0, dv_1, wq_ic, wq_ld_i, wq_ld_a, wq_st_i, wq_iinc, wq_ib, wq_icmp, wq_if, wq_goto, wq_get, mGet_0, mGet_1, mGet_2, mGet_3, wq_ald, wq_ret0, wq_ret1, wq_ret2, wq_ret3, wq_ret4, ldI1, mrg_2_, stI2, ldI2, ldR0, fk_11_30, mrg_1_, wqinc2, mrg_0_, stI3, ldI3, wqinc3, wq_callV3_0, stI4, stI5, ldI4, ldI5, wqinc4, wqinc5, mPut_s, mPut_I0, mPut_R0, mPut_L0, mPut_I1, mPut_R1, mPut_L1, mGo_n, sfxX11_goesOn_4, cutX11_goesOn_4, sfxX11_goesOn_31, cutX11_goesOn_31, sfxX11_goesOn_37, cutX11_goesOn_37, sfxX11_goesOn_41, cutX11_goesOn_41, sfxX11_goesOn_62, cutX11_goesOn_62, sfxX11_goesOn_78, cutX11_goesOn_78, sfxX11_goesOn_102, cutX11_goesOn_102, wq_cut, mGo_c, mMask_t, mMask_f, mMask_n, kX11_goesOn_102, kX11_goesOn_78, kX11_goesOn_62, kX11_goesOn_41, kX11_goesOn_37, kX11_goesOn_31, kX11_goesOn_4, kX11_goesOn_0, sk_200, al_200, rf_200_30, sk_214, al_214, sn_214, ald_n, ro0_n, al_ro, SX11_goesOn_0, shqRII_, spX11_swaps, mrg, mrl, mSet_ap, ncast, Option.some.injEq]
        (try simp only [mrg, mrl] at *) <;> repeat' (first | (with_reducible assumption) | (with_reducible apply And.intro) | intro _)
        all_goals first | omega | exact key | skip
    · skip
      rw [sfxX11_goesOn_78]
      obtain ⟨rfl, hz, f, x, y, p, rfl, hx, rfl, he, hm⟩ := hc
      have h := h2 hz
      clear h1 h2
      rcases Int.lt_or_le x y with z | z
      · obtain ⟨f', rfl⟩ : ∃ f', f = f' + 1 := ⟨f - 1, by omega⟩
        rw [show revT (f' + 1) x y p = revT f' (x + 1) (y - 1) (swT p x y) from if_pos z] at he
        have key : ∃ n', n' < n ∧ ¬ ascT (I 214) (N - 1) = -1 ∧ ∃ (f : Nat) (x_1 y_1 : Int) (p_1 : Int → Int), [some (mR (some 200)), none, none, none, some (mI (x + 1)), some (mI (y + -1))] = [some (mR (some 200)), none, none, none, some (mI x_1), some (mI y_1)] ∧ (0 ≤ x_1 ∧ x_1 ≤ 10 ∧ -10 ≤ y_1 ∧ y_1 < 6 ∧ y_1 - x_1 ≤ 2 * f) ∧ putA (putA I 214 p) 214 (swT p x y) = putA I 214 p_1 ∧ nxT N (I 214) = revT f x_1 y_1 p_1 ∧ n' = f := ⟨f', by omega, hz, f', x + 1, y + -1, swT p x y, rfl, by omega, putA_putA _ _ _ _, he, rfl⟩
        simp only [false_and, and_false, true_or, or_true, false_or, or_false, true_and, and_true, true_implies, false_implies, implies_true, not_true_eq_false, not_false_eq_true, and_self, List.length_cons, List.length_nil, mNoCut_, mCat_n, mCat_I, mCat_L, mCat_R, mIsL_n, mIsL_I, mIsL_R, mIsL_L, Nat.reduceAdd, Nat.reduceSub, Nat.reduceLeDiff, Nat.reduceLT, Nat.reduceEqDiff, Nat.zero_le, Int.reduceEq, Int.reduceLT, Int.reduceLE, Int.reduceNeg, Int.reduceAdd, if_true, if_false, reduceIte, reduceCtorEq, Bool.false_eq_true, ne_eq, qCmp_0, qCmp_1, qCmp_2, qCmp_3, qCmp_4, qCmp_5, ib_0, ib_1, ib_2, lb_0, lb_1, lb_2, dv_0, dv_1, wq_ic, wq_ld_i, wq_ld_a, wq_st_i, wq_iinc, wq_ib, wq_icmp, wq_if, wq_goto, wq_get, mGet_0, mGet_1, mGet_2, mGet_3, wq_ald, wq_ret0, wq_ret1, wq_ret2, wq_ret3, wq_ret4, ldI1, mrg_2_, stI2, ldI2, ldR0, fk_11_30, mrg_1_, wqinc2, mrg_0_, stI3, ldI3, wqinc3, wq_callV3_0, stI4, stI5, ldI4, ldI5, wqinc4, wqinc5, mPut_s, mPut_I0, mPut_R0, mPut_L0, mPut_I1, mPut_R1, mPut_L1, mGo_n, sfxX11_goesOn_4, cutX11_goesOn_4, sfxX11_goesOn_31, cutX11_goesOn_31, sfxX11_goesOn_37, cutX11_goesOn_37, sfxX11_goesOn_41, cutX11_goesOn_41, sfxX11_goesOn_62, cutX11_goesOn_62, sfxX11_goesOn_78, cutX11_goesOn_78, sfxX11_goesOn_102, cutX11_goesOn_102, wq_cut, mGo_c, mMask_t, mMask_f, mMask_n, kX11_goesOn_102, kX11_goesOn_78, kX11_goesOn_62, kX11_goesOn_41, kX11_goesOn_37, kX11_goesOn_31, kX11_goesOn_4, kX11_goesOn_0, sk_200, al_200, rf_200_30, sk_214, al_214, sn_214, ald_n, ro0_n, al_ro, SX11_goesOn_0, shqRII_, spX11_swaps, mrg, mrl, mSet_ap, ncast, Option.some.injEq, putA_eq]
        (try simp only [mrg, mrl] at *) <;> repeat' (first | (with_reducible assumption) | (with_reducible apply And.intro) | intro _)
        all_goals first | omega | exact key | skip
      · have e : revT f x y p = p := by
          cases f with
          | zero => rfl
          | succ f => exact if_neg (by omega)
        rw [he, e] at h
        simp only [false_and, and_false, true_or, or_true, false_or, or_false, true_and, and_true, true_implies, false_implies, implies_true, not_true_eq_false, not_false_eq_true, and_self, List.length_cons, List.length_nil, mNoCut_, mCat_n, mCat_I, mCat_L, mCat_R, mIsL_n, mIsL_I, mIsL_R, mIsL_L, Nat.reduceAdd, Nat.reduceSub, Nat.reduceLeDiff, Nat.reduceLT, Nat.reduceEqDiff, Nat.zero_le, Int.reduceEq, Int.reduceLT, Int.reduceLE, Int.reduceNeg, Int.reduceAdd, if_true, if_false, reduceIte, reduceCtorEq, Bool.false_eq_true, ne_eq, qCmp_0, qCmp_1, qCmp_2, qCmp_3, qCmp_4, qCmp_5, ib_0, ib_1, ib_2, lb_0, lb_1, lb_2, dv_0, dv_1, wq_ic, wq_ld_i, wq_ld_a, wq_st_i, wq_iinc, wq_ib, wq_icmp, wq_if, wq_goto, wq_get, mGet_0, mGet_1, mGet_2, mGet_3, wq_ald, wq_ret0, wq_ret1, wq_ret2, wq_ret3, wq_ret4, ldI1, mrg_2_, stI2, ldI2, ldR0, fk_11_30, mrg_1_, wqinc2, mrg_0_, stI3, ldI3, wqinc3, wq_callV3_0, stI4, stI5, ldI4, ldI5, wqinc4, wqinc5, mPut_s, mPut_I0, mPut_R0, mPut_L0, mPut_I1, mPut_R1, mPut_L1, mGo_n, sfxX11_goesOn_4, cutX11_goesOn_4, sfxX11_goesOn_31, cutX11_goesOn_31, sfxX11_goesOn_37, cutX11_goesOn_37, sfxX11_goesOn_41, cutX11_goesOn_41, sfxX11_goesOn_62, cutX11_goesOn_62, sfxX11_goesOn_78, cutX11_goesOn_78, sfxX11_goesOn_102, cutX11_goesOn_102, wq_cut, mGo_c, mMask_t, mMask_f, mMask_n, kX11_goesOn_102, kX11_goesOn_78, kX11_goesOn_62, kX11_goesOn_41, kX11_goesOn_37, kX11_goesOn_31, kX11_goesOn_4, kX11_goesOn_0, sk_200, al_200, rf_200_30, sk_214, al_214, sn_214, ald_n, ro0_n, al_ro, SX11_goesOn_0, shqRII_, spX11_swaps, mrg, mrl, mSet_ap, ncast, Option.some.injEq, putA_eq]
        (try simp only [mrg, mrl] at *) <;> repeat' (first | (with_reducible assumption) | (with_reducible apply And.intro) | intro _)
        all_goals first | omega | exact h | skip
  · show mWp _ _ _ _ _ _ kX11_goesOn_0 [some (mR (some 200)), some (mI N), none, none, none, none] [] I
    simp only [false_and, and_false, true_or, or_true, false_or, or_false, true_and, and_true, true_implies, false_implies, implies_true, not_true_eq_false, not_false_eq_true, and_self, List.length_cons, List.length_nil, mNoCut_, mCat_n, mCat_I, mCat_L, mCat_R, mIsL_n, mIsL_I, mIsL_R, mIsL_L, Nat.reduceAdd, Nat.reduceSub, Nat.reduceLeDiff, Nat.reduceLT, Nat.reduceEqDiff, Nat.zero_le, Int.reduceEq, Int.reduceLT, Int.reduceLE, Int.reduceNeg, Int.reduceAdd, if_true, if_false, reduceIte, reduceCtorEq, Bool.false_eq_true, ne_eq, qCmp_0, qCmp_1, qCmp_2, qCmp_3, qCmp_4, qCmp_5, ib_0, ib_1, ib_2, lb_0, lb_1, lb_2, dv_0, dv_1, wq_ic, wq_ld_i, wq_ld_a, wq_st_i, wq_iinc, wq_ib, wq_icmp, wq_if, wq_goto, wq_get, mGet_0, mGet_1, mGet_2, mGet_3, wq_ald, wq_ret0, wq_ret1, wq_ret2, wq_ret3, wq_ret4, ldI1, mrg_2_, stI2, ldI2, ldR0, fk_11_30, mrg_1_, wqinc2, mrg_0_, stI3, ldI3, wqinc3, wq_callV3_0, stI4, stI5, ldI4, ldI5, wqinc4, wqinc5, mPut_s, mPut_I0, mPut_R0, mPut_L0, mPut_I1, mPut_R1, mPut_L1, mGo_n, sfxX11_goesOn_4, cutX11_goesOn_4, sfxX11_goesOn_31, cutX11_goesOn_31, sfxX11_goesOn_37, cutX11_goesOn_37, sfxX11_goesOn_41, cutX11_goesOn_41, sfxX11_goesOn_62, cutX11_goesOn_62, sfxX11_goesOn_78, cutX11_goesOn_78, sfxX11_goesOn_102, cutX11_goesOn_102, wq_cut, mGo_c, mMask_t, mMask_f, mMask_n, kX11_goesOn_102, kX11_goesOn_78, kX11_goesOn_62, kX11_goesOn_41, kX11_goesOn_37, kX11_goesOn_31, kX11_goesOn_4, kX11_goesOn_0, sk_200, al_200, rf_200_30, sk_214, al_214, sn_214, ald_n, ro0_n, al_ro, SX11_goesOn_0, shqRII_, spX11_swaps, mrg, mrl, mSet_ap, ncast, Option.some.injEq]
    exact ⟨_, (N : Int) - 2, rfl, by omega, by rw [show ((N : Int) - 2 + 1).toNat = N - 1 by omega], rfl⟩
theorem ctrX11_goesOn {l : Launch} (hst : l.stackTraces = false) (hT : mTxM l) : mCtr l calX11_goesOn spX11_goesOn :=
  mMet (T := TX11_goesOn) (S := SX11_goesOn) hst hT cutX11_goesOn (by decide) okX11_goesOn ⟨_, _, rfl, rfl⟩ trivial (fun t bs h => by rcases cutsX11_goesOn h with ⟨-, rfl⟩ | ⟨-, rfl⟩ | ⟨-, rfl⟩ <;> rfl) (fun a => match a with
    | 0 => ctrX11_swaps hst hT
    | _ + 1 => mCtr_no) vcX11_goesOn

end SPM22
