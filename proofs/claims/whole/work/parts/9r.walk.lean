section LWALK
def roL (L : Nat) (f : Int → Int) : mRo := fun k => if k = 242 then some (L, f) else none
theorem ald_r2 {k : mK} {st : mSt} {I : mM} {fl : Nat → Bool} {L : Nat} {f : Int → Int} {lv : mLv} {a : Nat} {j : Int} : w_ald fl (roL L f) a k lv (mI j :: mR (some 242) :: st) I = ((a = 20 ∧ 0 ≤ j ∧ j < (L : Int)) ∧ k lv (mI (f j) :: st) I) := ald_r (if_pos rfl)
theorem ald_230 {k : mK} {st : mSt} {I : mM} {fl : Nat → Bool} {L : Nat} {f : Int → Int} {lv : mLv} {a : Nat} {j : Int} : w_ald fl (roL L f) a k lv (mI j :: mR (some 230) :: st) I = ((sk 230 = a ∧ al fl 230 = true) ∧ (0 ≤ j ∧ j < sn 230) ∧ k lv ((if a = 23 then mL (I 230 j) else if a < 23 then mI (I 230 j) else mR (RF fl 230 j.toNat)) :: st) I) := ald_n (if_neg (by decide))
theorem len_r2 {k : mK} {st : mSt} {I : mM} {fl : Nat → Bool} {L : Nat} {f : Int → Int} {lv : mLv} : w_len fl (roL L f) k lv (mR (some 242) :: st) I = k lv (mI (L : Int) :: st) I := by
  show (match roL L f 242 with
    | some (n, _) => k lv (mI n :: st) I
    | none => (20 ≤ sk 242 ∧ sk 242 ≤ 25 ∧ al fl 242 = true) ∧ k lv (mI (sn 242) :: st) I) = _
  rw [show roL L f 242 = some (L, f) from if_pos rfl]
abbrev lvL (i : Int) : mLv := [some (mR (some 242)), some (mR (some 0)), some (mR (some 200)), some (mR (some 230)), some (mI i), none, none, none]
/-- where the law's body leaves a turn: at its end, at a case that makes objects, or at the loop's end -/
def CL (i : Int) (fl : Nat → Bool) (L : Nat) (I0 : mM) : Nat → mK := fun t lv st I' => st = [] ∧ lv = lvL i ∧ ((t = 3066 ∧ LI fl I') ∨ ((t = 2742 ∨ t = 2969) ∧ I' = I0 ∧ i + 6 ≤ (L : Int)) ∨ (t = 3072 ∧ I' = I0 ∧ (L : Int) < i + 6))
def wlP (fl : Nat → Bool) (L : Nat) (f : Int → Int) (i : Int) (I0 : mM) (P : List mIn) (I : mM) : Prop := mWpL SL_body (mGoL SL_body (fun _ _ => False) (fun _ _ _ => False) fl (roL L f) kL_body cutL_body (CL i fl L I0) 59) (fun _ _ => False) (fun _ _ _ => False) fl (roL L f) P (lvL i) [] I
theorem mrl_lb4 (x y : Int) : mrl (lb 4 x y) := ⟨Int64.le_toInt _, Int64.toInt_lt _⟩
theorem mrg_and (x y : Int) : mrg (ib 3 x y) := ⟨Int32.le_toInt _, Int32.toInt_lt _⟩
set_option maxRecDepth 100000 in
theorem W_0 {fl : Nat → Bool} {I : mM} {f : Int → Int} {L : Nat} {i : Int} (H : LI fl I) (hi : 0 ≤ i) (hL : i + 6 ≤ (L : Int)) (hf : ∀ q : Int, mrg (f q)) : wlP fl L f i I kL_body_240 I := by
  unfold wlP
  have b1 : (0 ≤ i + 1) = True := eq_true (by omega)
  have c1 : (i + 1 < (L : Int)) = True := eq_true (by omega)
  have m1 : mrg (f (i + 1)) = True := eq_true (hf _)
  have b2 : (0 ≤ i + 2) = True := eq_true (by omega)
  have c2 : (i + 2 < (L : Int)) = True := eq_true (by omega)
  have m2 : mrg (f (i + 2)) = True := eq_true (hf _)
  have b3 : (0 ≤ i + 3) = True := eq_true (by omega)
  have c3 : (i + 3 < (L : Int)) = True := eq_true (by omega)
  have m3 : mrg (f (i + 3)) = True := eq_true (hf _)
  have b4 : (0 ≤ i + 4) = True := eq_true (by omega)
  have c4 : (i + 4 < (L : Int)) = True := eq_true (by omega)
  have m4 : mrg (f (i + 4)) = True := eq_true (hf _)
  have b5 : (0 ≤ i + 5) = True := eq_true (by omega)
  have c5 : (i + 5 < (L : Int)) = True := eq_true (by omega)
  have m5 : mrg (f (i + 5)) = True := eq_true (hf _)
  simp only [false_and, and_false, true_or, or_true, false_or, or_false, true_and, and_true, true_implies, false_implies, implies_true, not_true_eq_false, not_false_eq_true, and_self, List.length_cons, List.length_nil, mNoCut_, mCat_n, mCat_I, mCat_L, mCat_R, mIsL_n, mIsL_I, mIsL_R, mIsL_L, Nat.reduceAdd, Nat.reduceSub, Nat.reduceLeDiff, Nat.reduceLT, Nat.reduceEqDiff, Nat.zero_le, Int.reduceEq, Int.reduceLT, Int.reduceLE, Int.reduceNeg, Int.reduceAdd, if_true, if_false, reduceIte, reduceCtorEq, Bool.false_eq_true, ne_eq, qCmp_0, qCmp_1, qCmp_2, qCmp_3, qCmp_4, qCmp_5, ib_0, ib_1, ib_2, lb_0, lb_1, lb_2, dv_0, dv_1, wl_ic, wl_ld_i, wl_ld_a, wl_ib, wl_ald, wl_ret1, wl_eqI, ldR1, ldR0, ldI4, mrg_1_, wl_callV6_0, SL_body_100, ldR2, SL_body_101, mrg_0_, mPut_s, mPut_I0, mPut_R0, mPut_L0, mPut_I1, mPut_R1, mPut_L1, mGoL_n, mGoL_c, mMask_t, mMask_f, mMask_n, cutL_body_3066, kL_body_240, sk_0, al_0, sk_200, al_200, sk_230, al_230, sn_230, ald_r2, ald_230, shqR_, spX11_thrown, Option.some.injEq, ncast, b1, b2, b3, b4, b5, c1, c2, c3, c4, c5, m1, m2, m3, m4, m5]
  refine ⟨_, P_feed H (hf _) (hf _) (hf _) (hf _) (hf _), fun o I1 hq => ?_⟩
  obtain ⟨a, rfl, hq⟩ := hq
  simp only [false_and, and_false, true_or, or_true, false_or, or_false, true_and, and_true, true_implies, false_implies, implies_true, not_true_eq_false, not_false_eq_true, and_self, List.length_cons, List.length_nil, mNoCut_, mCat_n, mCat_I, mCat_L, mCat_R, mIsL_n, mIsL_I, mIsL_R, mIsL_L, Nat.reduceAdd, Nat.reduceSub, Nat.reduceLeDiff, Nat.reduceLT, Nat.reduceEqDiff, Nat.zero_le, Int.reduceEq, Int.reduceLT, Int.reduceLE, Int.reduceNeg, Int.reduceAdd, if_true, if_false, reduceIte, reduceCtorEq, Bool.false_eq_true, ne_eq, qCmp_0, qCmp_1, qCmp_2, qCmp_3, qCmp_4, qCmp_5, ib_0, ib_1, ib_2, lb_0, lb_1, lb_2, dv_0, dv_1, wl_ic, wl_ld_i, wl_ld_a, wl_ib, wl_ald, wl_ret1, wl_eqI, ldR1, ldR0, ldI4, mrg_1_, wl_callV6_0, SL_body_100, ldR2, SL_body_101, mrg_0_, mPut_s, mPut_I0, mPut_R0, mPut_L0, mPut_I1, mPut_R1, mPut_L1, mGoL_n, mGoL_c, mMask_t, mMask_f, mMask_n, cutL_body_3066, kL_body_240, sk_0, al_0, sk_200, al_200, sk_230, al_230, sn_230, ald_r2, ald_230, shqR_, spX11_thrown, Option.some.injEq, ncast, b1, b2, b3, b4, b5, c1, c2, c3, c4, c5, m1, m2, m3, m4, m5]
  refine ⟨_, hq, fun o2 I2 h2 => ?_⟩
  obtain ⟨b, rfl, h3, hI2⟩ := h2
  simp only [false_and, and_false, true_or, or_true, false_or, or_false, true_and, and_true, true_implies, false_implies, implies_true, not_true_eq_false, not_false_eq_true, and_self, List.length_cons, List.length_nil, mNoCut_, mCat_n, mCat_I, mCat_L, mCat_R, mIsL_n, mIsL_I, mIsL_R, mIsL_L, Nat.reduceAdd, Nat.reduceSub, Nat.reduceLeDiff, Nat.reduceLT, Nat.reduceEqDiff, Nat.zero_le, Int.reduceEq, Int.reduceLT, Int.reduceLE, Int.reduceNeg, Int.reduceAdd, if_true, if_false, reduceIte, reduceCtorEq, Bool.false_eq_true, ne_eq, qCmp_0, qCmp_1, qCmp_2, qCmp_3, qCmp_4, qCmp_5, ib_0, ib_1, ib_2, lb_0, lb_1, lb_2, dv_0, dv_1, wl_ic, wl_ld_i, wl_ld_a, wl_ib, wl_ald, wl_ret1, wl_eqI, ldR1, ldR0, ldI4, mrg_1_, wl_callV6_0, SL_body_100, ldR2, SL_body_101, mrg_0_, mPut_s, mPut_I0, mPut_R0, mPut_L0, mPut_I1, mPut_R1, mPut_L1, mGoL_n, mGoL_c, mMask_t, mMask_f, mMask_n, cutL_body_3066, kL_body_240, sk_0, al_0, sk_200, al_200, sk_230, al_230, sn_230, ald_r2, ald_230, shqR_, spX11_thrown, Option.some.injEq, ncast, b1, b2, b3, b4, b5, c1, c2, c3, c4, c5, m1, m2, m3, m4, m5]
  have hC : CL i fl L I 3066 (lvL i) [] I2 := ⟨rfl, rfl, Or.inl ⟨rfl, hI2⟩⟩
  repeat' (first | exact hC | exact h3 | apply And.intro | intro _)
  all_goals first | exact h3 | (unfold mrg; omega) | omega
set_option maxRecDepth 100000 in
theorem W_1 {fl : Nat → Bool} {I : mM} {f : Int → Int} {L : Nat} {i : Int} (H : LI fl I) (hi : 0 ≤ i) (hL : i + 6 ≤ (L : Int)) (hf : ∀ q : Int, mrg (f q)) : wlP fl L f i I kL_body_313 I := by
  unfold wlP
  have b1 : (0 ≤ i + 1) = True := eq_true (by omega)
  have c1 : (i + 1 < (L : Int)) = True := eq_true (by omega)
  have m1 : mrg (f (i + 1)) = True := eq_true (hf _)
  have b2 : (0 ≤ i + 2) = True := eq_true (by omega)
  have c2 : (i + 2 < (L : Int)) = True := eq_true (by omega)
  have m2 : mrg (f (i + 2)) = True := eq_true (hf _)
  have b3 : (0 ≤ i + 3) = True := eq_true (by omega)
  have c3 : (i + 3 < (L : Int)) = True := eq_true (by omega)
  have m3 : mrg (f (i + 3)) = True := eq_true (hf _)
  have b4 : (0 ≤ i + 4) = True := eq_true (by omega)
  have c4 : (i + 4 < (L : Int)) = True := eq_true (by omega)
  have m4 : mrg (f (i + 4)) = True := eq_true (hf _)
  have b5 : (0 ≤ i + 5) = True := eq_true (by omega)
  have c5 : (i + 5 < (L : Int)) = True := eq_true (by omega)
  have m5 : mrg (f (i + 5)) = True := eq_true (hf _)
  simp only [false_and, and_false, true_or, or_true, false_or, or_false, true_and, and_true, true_implies, false_implies, implies_true, not_true_eq_false, not_false_eq_true, and_self, List.length_cons, List.length_nil, mNoCut_, mCat_n, mCat_I, mCat_L, mCat_R, mIsL_n, mIsL_I, mIsL_R, mIsL_L, Nat.reduceAdd, Nat.reduceSub, Nat.reduceLeDiff, Nat.reduceLT, Nat.reduceEqDiff, Nat.zero_le, Int.reduceEq, Int.reduceLT, Int.reduceLE, Int.reduceNeg, Int.reduceAdd, if_true, if_false, reduceIte, reduceCtorEq, Bool.false_eq_true, ne_eq, qCmp_0, qCmp_1, qCmp_2, qCmp_3, qCmp_4, qCmp_5, ib_0, ib_1, ib_2, lb_0, lb_1, lb_2, dv_0, dv_1, wl_ic, wl_ld_i, wl_ld_a, wl_st_i, wl_ib, wl_if, mrg_0_, wl_goto, wl_ald, wl_ret1, wl_eqI, wl_eqL, wl_i2x, ldR1, ldR0, ldI4, mrg_1_, ldR3, wl_callS3_4, SL_body_0, stI5, ldR2, wl_callV2_0, SL_body_103, stI6, wl_callV1_0, SL_body_104, ldI5, ldI6, mPut_s, mPut_I0, mPut_R0, mPut_L0, mPut_I1, mPut_R1, mPut_L1, mGoL_n, mGoL_c, mMask_t, mMask_f, mMask_n, cutL_body_349, sfxL_body_349, cutL_body_366, sfxL_body_366, cutL_body_3066, kL_body_313, kL_body_349, kL_body_366, sk_0, al_0, sk_200, al_200, sk_230, al_230, sn_230, ald_r2, ald_230, shqR_, spX11_thrown, Option.some.injEq, ncast, b1, b2, b3, b4, b5, c1, c2, c3, c4, c5, m1, m2, m3, m4, m5]
  refine ⟨_, P_field H (hf _), fun o I1 hq => ?_⟩
  obtain ⟨k, rfl, hk, hq⟩ := hq
  simp only [false_and, and_false, true_or, or_true, false_or, or_false, true_and, and_true, true_implies, false_implies, implies_true, not_true_eq_false, not_false_eq_true, and_self, List.length_cons, List.length_nil, mNoCut_, mCat_n, mCat_I, mCat_L, mCat_R, mIsL_n, mIsL_I, mIsL_R, mIsL_L, Nat.reduceAdd, Nat.reduceSub, Nat.reduceLeDiff, Nat.reduceLT, Nat.reduceEqDiff, Nat.zero_le, Int.reduceEq, Int.reduceLT, Int.reduceLE, Int.reduceNeg, Int.reduceAdd, if_true, if_false, reduceIte, reduceCtorEq, Bool.false_eq_true, ne_eq, qCmp_0, qCmp_1, qCmp_2, qCmp_3, qCmp_4, qCmp_5, ib_0, ib_1, ib_2, lb_0, lb_1, lb_2, dv_0, dv_1, wl_ic, wl_ld_i, wl_ld_a, wl_st_i, wl_ib, wl_if, mrg_0_, wl_goto, wl_ald, wl_ret1, wl_eqI, wl_eqL, wl_i2x, ldR1, ldR0, ldI4, mrg_1_, ldR3, wl_callS3_4, SL_body_0, stI5, ldR2, wl_callV2_0, SL_body_103, stI6, wl_callV1_0, SL_body_104, ldI5, ldI6, mPut_s, mPut_I0, mPut_R0, mPut_L0, mPut_I1, mPut_R1, mPut_L1, mGoL_n, mGoL_c, mMask_t, mMask_f, mMask_n, cutL_body_349, sfxL_body_349, cutL_body_366, sfxL_body_366, cutL_body_3066, kL_body_313, kL_body_349, kL_body_366, sk_0, al_0, sk_200, al_200, sk_230, al_230, sn_230, ald_r2, ald_230, shqR_, spX11_thrown, Option.some.injEq, ncast, b1, b2, b3, b4, b5, c1, c2, c3, c4, c5, m1, m2, m3, m4, m5]
  refine ⟨_, hq, fun o2 I2 h2 => ?_⟩
  obtain ⟨b, rfl, h3, h0, hI2⟩ := h2
  simp only [false_and, and_false, true_or, or_true, false_or, or_false, true_and, and_true, true_implies, false_implies, implies_true, not_true_eq_false, not_false_eq_true, and_self, List.length_cons, List.length_nil, mNoCut_, mCat_n, mCat_I, mCat_L, mCat_R, mIsL_n, mIsL_I, mIsL_R, mIsL_L, Nat.reduceAdd, Nat.reduceSub, Nat.reduceLeDiff, Nat.reduceLT, Nat.reduceEqDiff, Nat.zero_le, Int.reduceEq, Int.reduceLT, Int.reduceLE, Int.reduceNeg, Int.reduceAdd, if_true, if_false, reduceIte, reduceCtorEq, Bool.false_eq_true, ne_eq, qCmp_0, qCmp_1, qCmp_2, qCmp_3, qCmp_4, qCmp_5, ib_0, ib_1, ib_2, lb_0, lb_1, lb_2, dv_0, dv_1, wl_ic, wl_ld_i, wl_ld_a, wl_st_i, wl_ib, wl_if, mrg_0_, wl_goto, wl_ald, wl_ret1, wl_eqI, wl_eqL, wl_i2x, ldR1, ldR0, ldI4, mrg_1_, ldR3, wl_callS3_4, SL_body_0, stI5, ldR2, wl_callV2_0, SL_body_103, stI6, wl_callV1_0, SL_body_104, ldI5, ldI6, mPut_s, mPut_I0, mPut_R0, mPut_L0, mPut_I1, mPut_R1, mPut_L1, mGoL_n, mGoL_c, mMask_t, mMask_f, mMask_n, cutL_body_349, sfxL_body_349, cutL_body_366, sfxL_body_366, cutL_body_3066, kL_body_313, kL_body_349, kL_body_366, sk_0, al_0, sk_200, al_200, sk_230, al_230, sn_230, ald_r2, ald_230, shqR_, spX11_thrown, Option.some.injEq, ncast, b1, b2, b3, b4, b5, c1, c2, c3, c4, c5, m1, m2, m3, m4, m5]
  have hC : CL i fl L I 3066 (lvL i) [] I2 := ⟨rfl, rfl, Or.inl ⟨rfl, hI2⟩⟩
  repeat' (first | exact hC | exact h3 | apply And.intro | intro _)
  all_goals first | exact h3 | (unfold mrg; omega) | omega
set_option maxRecDepth 100000 in
theorem W_2 {fl : Nat → Bool} {I : mM} {f : Int → Int} {L : Nat} {i : Int} (H : LI fl I) (hi : 0 ≤ i) (hL : i + 6 ≤ (L : Int)) (hf : ∀ q : Int, mrg (f q)) : wlP fl L f i I kL_body_369 I := by
  unfold wlP
  have b1 : (0 ≤ i + 1) = True := eq_true (by omega)
  have c1 : (i + 1 < (L : Int)) = True := eq_true (by omega)
  have m1 : mrg (f (i + 1)) = True := eq_true (hf _)
  have b2 : (0 ≤ i + 2) = True := eq_true (by omega)
  have c2 : (i + 2 < (L : Int)) = True := eq_true (by omega)
  have m2 : mrg (f (i + 2)) = True := eq_true (hf _)
  have b3 : (0 ≤ i + 3) = True := eq_true (by omega)
  have c3 : (i + 3 < (L : Int)) = True := eq_true (by omega)
  have m3 : mrg (f (i + 3)) = True := eq_true (hf _)
  have b4 : (0 ≤ i + 4) = True := eq_true (by omega)
  have c4 : (i + 4 < (L : Int)) = True := eq_true (by omega)
  have m4 : mrg (f (i + 4)) = True := eq_true (hf _)
  have b5 : (0 ≤ i + 5) = True := eq_true (by omega)
  have c5 : (i + 5 < (L : Int)) = True := eq_true (by omega)
  have m5 : mrg (f (i + 5)) = True := eq_true (hf _)
  simp only [false_and, and_false, true_or, or_true, false_or, or_false, true_and, and_true, true_implies, false_implies, implies_true, not_true_eq_false, not_false_eq_true, and_self, List.length_cons, List.length_nil, mNoCut_, mCat_n, mCat_I, mCat_L, mCat_R, mIsL_n, mIsL_I, mIsL_R, mIsL_L, Nat.reduceAdd, Nat.reduceSub, Nat.reduceLeDiff, Nat.reduceLT, Nat.reduceEqDiff, Nat.zero_le, Int.reduceEq, Int.reduceLT, Int.reduceLE, Int.reduceNeg, Int.reduceAdd, if_true, if_false, reduceIte, reduceCtorEq, Bool.false_eq_true, ne_eq, qCmp_0, qCmp_1, qCmp_2, qCmp_3, qCmp_4, qCmp_5, ib_0, ib_1, ib_2, lb_0, lb_1, lb_2, dv_0, dv_1, wl_ic, wl_ld_i, wl_ld_a, wl_ib, wl_ald, wl_ret1, wl_eqI, ldR1, ldR0, ldI4, mrg_1_, wl_callV2_0, SL_body_105, ldR2, SL_body_106, mrg_0_, mPut_s, mPut_I0, mPut_R0, mPut_L0, mPut_I1, mPut_R1, mPut_L1, mGoL_n, mGoL_c, mMask_t, mMask_f, mMask_n, cutL_body_3066, kL_body_369, sk_0, al_0, sk_200, al_200, sk_230, al_230, sn_230, ald_r2, ald_230, shqR_, spX11_thrown, Option.some.injEq, ncast, b1, b2, b3, b4, b5, c1, c2, c3, c4, c5, m1, m2, m3, m4, m5]
  refine ⟨_, P_fault H (hf _), fun o I1 hq => ?_⟩
  obtain ⟨a, rfl, hq⟩ := hq
  simp only [false_and, and_false, true_or, or_true, false_or, or_false, true_and, and_true, true_implies, false_implies, implies_true, not_true_eq_false, not_false_eq_true, and_self, List.length_cons, List.length_nil, mNoCut_, mCat_n, mCat_I, mCat_L, mCat_R, mIsL_n, mIsL_I, mIsL_R, mIsL_L, Nat.reduceAdd, Nat.reduceSub, Nat.reduceLeDiff, Nat.reduceLT, Nat.reduceEqDiff, Nat.zero_le, Int.reduceEq, Int.reduceLT, Int.reduceLE, Int.reduceNeg, Int.reduceAdd, if_true, if_false, reduceIte, reduceCtorEq, Bool.false_eq_true, ne_eq, qCmp_0, qCmp_1, qCmp_2, qCmp_3, qCmp_4, qCmp_5, ib_0, ib_1, ib_2, lb_0, lb_1, lb_2, dv_0, dv_1, wl_ic, wl_ld_i, wl_ld_a, wl_ib, wl_ald, wl_ret1, wl_eqI, ldR1, ldR0, ldI4, mrg_1_, wl_callV2_0, SL_body_105, ldR2, SL_body_106, mrg_0_, mPut_s, mPut_I0, mPut_R0, mPut_L0, mPut_I1, mPut_R1, mPut_L1, mGoL_n, mGoL_c, mMask_t, mMask_f, mMask_n, cutL_body_3066, kL_body_369, sk_0, al_0, sk_200, al_200, sk_230, al_230, sn_230, ald_r2, ald_230, shqR_, spX11_thrown, Option.some.injEq, ncast, b1, b2, b3, b4, b5, c1, c2, c3, c4, c5, m1, m2, m3, m4, m5]
  refine ⟨_, hq, fun o2 I2 h2 => ?_⟩
  obtain ⟨b, rfl, h3, hI2⟩ := h2
  simp only [false_and, and_false, true_or, or_true, false_or, or_false, true_and, and_true, true_implies, false_implies, implies_true, not_true_eq_false, not_false_eq_true, and_self, List.length_cons, List.length_nil, mNoCut_, mCat_n, mCat_I, mCat_L, mCat_R, mIsL_n, mIsL_I, mIsL_R, mIsL_L, Nat.reduceAdd, Nat.reduceSub, Nat.reduceLeDiff, Nat.reduceLT, Nat.reduceEqDiff, Nat.zero_le, Int.reduceEq, Int.reduceLT, Int.reduceLE, Int.reduceNeg, Int.reduceAdd, if_true, if_false, reduceIte, reduceCtorEq, Bool.false_eq_true, ne_eq, qCmp_0, qCmp_1, qCmp_2, qCmp_3, qCmp_4, qCmp_5, ib_0, ib_1, ib_2, lb_0, lb_1, lb_2, dv_0, dv_1, wl_ic, wl_ld_i, wl_ld_a, wl_ib, wl_ald, wl_ret1, wl_eqI, ldR1, ldR0, ldI4, mrg_1_, wl_callV2_0, SL_body_105, ldR2, SL_body_106, mrg_0_, mPut_s, mPut_I0, mPut_R0, mPut_L0, mPut_I1, mPut_R1, mPut_L1, mGoL_n, mGoL_c, mMask_t, mMask_f, mMask_n, cutL_body_3066, kL_body_369, sk_0, al_0, sk_200, al_200, sk_230, al_230, sn_230, ald_r2, ald_230, shqR_, spX11_thrown, Option.some.injEq, ncast, b1, b2, b3, b4, b5, c1, c2, c3, c4, c5, m1, m2, m3, m4, m5]
  have hC : CL i fl L I 3066 (lvL i) [] I2 := ⟨rfl, rfl, Or.inl ⟨rfl, hI2⟩⟩
  repeat' (first | exact hC | exact h3 | apply And.intro | intro _)
  all_goals first | exact h3 | (unfold mrg; omega) | omega
set_option maxRecDepth 100000 in
theorem W_3 {fl : Nat → Bool} {I : mM} {f : Int → Int} {L : Nat} {i : Int} (H : LI fl I) (hi : 0 ≤ i) (hL : i + 6 ≤ (L : Int)) (hf : ∀ q : Int, mrg (f q)) : wlP fl L f i I kL_body_394 I := by
  unfold wlP
  have b1 : (0 ≤ i + 1) = True := eq_true (by omega)
  have c1 : (i + 1 < (L : Int)) = True := eq_true (by omega)
  have m1 : mrg (f (i + 1)) = True := eq_true (hf _)
  have b2 : (0 ≤ i + 2) = True := eq_true (by omega)
  have c2 : (i + 2 < (L : Int)) = True := eq_true (by omega)
  have m2 : mrg (f (i + 2)) = True := eq_true (hf _)
  have b3 : (0 ≤ i + 3) = True := eq_true (by omega)
  have c3 : (i + 3 < (L : Int)) = True := eq_true (by omega)
  have m3 : mrg (f (i + 3)) = True := eq_true (hf _)
  have b4 : (0 ≤ i + 4) = True := eq_true (by omega)
  have c4 : (i + 4 < (L : Int)) = True := eq_true (by omega)
  have m4 : mrg (f (i + 4)) = True := eq_true (hf _)
  have b5 : (0 ≤ i + 5) = True := eq_true (by omega)
  have c5 : (i + 5 < (L : Int)) = True := eq_true (by omega)
  have m5 : mrg (f (i + 5)) = True := eq_true (hf _)
  simp only [false_and, and_false, true_or, or_true, false_or, or_false, true_and, and_true, true_implies, false_implies, implies_true, not_true_eq_false, not_false_eq_true, and_self, List.length_cons, List.length_nil, mNoCut_, mCat_n, mCat_I, mCat_L, mCat_R, mIsL_n, mIsL_I, mIsL_R, mIsL_L, Nat.reduceAdd, Nat.reduceSub, Nat.reduceLeDiff, Nat.reduceLT, Nat.reduceEqDiff, Nat.zero_le, Int.reduceEq, Int.reduceLT, Int.reduceLE, Int.reduceNeg, Int.reduceAdd, if_true, if_false, reduceIte, reduceCtorEq, Bool.false_eq_true, ne_eq, qCmp_0, qCmp_1, qCmp_2, qCmp_3, qCmp_4, qCmp_5, ib_0, ib_1, ib_2, lb_0, lb_1, lb_2, dv_0, dv_1, wl_ic, wl_ld_i, wl_ld_a, wl_st_i, wl_ib, wl_if, mrg_0_, wl_goto, wl_ald, wl_ret1, wl_eqI, wl_eqL, wl_i2x, ldR1, ldR0, ldI4, mrg_1_, ldR3, wl_callS3_4, SL_body_1, stI5, ldR2, wl_callV2_0, SL_body_108, stI6, wl_callV1_0, SL_body_104, ldI5, ldI6, mPut_s, mPut_I0, mPut_R0, mPut_L0, mPut_I1, mPut_R1, mPut_L1, mGoL_n, mGoL_c, mMask_t, mMask_f, mMask_n, cutL_body_430, sfxL_body_430, cutL_body_447, sfxL_body_447, cutL_body_3066, kL_body_394, kL_body_430, kL_body_447, sk_0, al_0, sk_200, al_200, sk_230, al_230, sn_230, ald_r2, ald_230, shqR_, spX11_thrown, Option.some.injEq, ncast, b1, b2, b3, b4, b5, c1, c2, c3, c4, c5, m1, m2, m3, m4, m5]
  refine ⟨_, P_hits H (hf _), fun o I1 hq => ?_⟩
  obtain ⟨k, rfl, hk, hq⟩ := hq
  simp only [false_and, and_false, true_or, or_true, false_or, or_false, true_and, and_true, true_implies, false_implies, implies_true, not_true_eq_false, not_false_eq_true, and_self, List.length_cons, List.length_nil, mNoCut_, mCat_n, mCat_I, mCat_L, mCat_R, mIsL_n, mIsL_I, mIsL_R, mIsL_L, Nat.reduceAdd, Nat.reduceSub, Nat.reduceLeDiff, Nat.reduceLT, Nat.reduceEqDiff, Nat.zero_le, Int.reduceEq, Int.reduceLT, Int.reduceLE, Int.reduceNeg, Int.reduceAdd, if_true, if_false, reduceIte, reduceCtorEq, Bool.false_eq_true, ne_eq, qCmp_0, qCmp_1, qCmp_2, qCmp_3, qCmp_4, qCmp_5, ib_0, ib_1, ib_2, lb_0, lb_1, lb_2, dv_0, dv_1, wl_ic, wl_ld_i, wl_ld_a, wl_st_i, wl_ib, wl_if, mrg_0_, wl_goto, wl_ald, wl_ret1, wl_eqI, wl_eqL, wl_i2x, ldR1, ldR0, ldI4, mrg_1_, ldR3, wl_callS3_4, SL_body_1, stI5, ldR2, wl_callV2_0, SL_body_108, stI6, wl_callV1_0, SL_body_104, ldI5, ldI6, mPut_s, mPut_I0, mPut_R0, mPut_L0, mPut_I1, mPut_R1, mPut_L1, mGoL_n, mGoL_c, mMask_t, mMask_f, mMask_n, cutL_body_430, sfxL_body_430, cutL_body_447, sfxL_body_447, cutL_body_3066, kL_body_394, kL_body_430, kL_body_447, sk_0, al_0, sk_200, al_200, sk_230, al_230, sn_230, ald_r2, ald_230, shqR_, spX11_thrown, Option.some.injEq, ncast, b1, b2, b3, b4, b5, c1, c2, c3, c4, c5, m1, m2, m3, m4, m5]
  refine ⟨_, hq, fun o2 I2 h2 => ?_⟩
  obtain ⟨b, rfl, h3, h0, hI2⟩ := h2
  simp only [false_and, and_false, true_or, or_true, false_or, or_false, true_and, and_true, true_implies, false_implies, implies_true, not_true_eq_false, not_false_eq_true, and_self, List.length_cons, List.length_nil, mNoCut_, mCat_n, mCat_I, mCat_L, mCat_R, mIsL_n, mIsL_I, mIsL_R, mIsL_L, Nat.reduceAdd, Nat.reduceSub, Nat.reduceLeDiff, Nat.reduceLT, Nat.reduceEqDiff, Nat.zero_le, Int.reduceEq, Int.reduceLT, Int.reduceLE, Int.reduceNeg, Int.reduceAdd, if_true, if_false, reduceIte, reduceCtorEq, Bool.false_eq_true, ne_eq, qCmp_0, qCmp_1, qCmp_2, qCmp_3, qCmp_4, qCmp_5, ib_0, ib_1, ib_2, lb_0, lb_1, lb_2, dv_0, dv_1, wl_ic, wl_ld_i, wl_ld_a, wl_st_i, wl_ib, wl_if, mrg_0_, wl_goto, wl_ald, wl_ret1, wl_eqI, wl_eqL, wl_i2x, ldR1, ldR0, ldI4, mrg_1_, ldR3, wl_callS3_4, SL_body_1, stI5, ldR2, wl_callV2_0, SL_body_108, stI6, wl_callV1_0, SL_body_104, ldI5, ldI6, mPut_s, mPut_I0, mPut_R0, mPut_L0, mPut_I1, mPut_R1, mPut_L1, mGoL_n, mGoL_c, mMask_t, mMask_f, mMask_n, cutL_body_430, sfxL_body_430, cutL_body_447, sfxL_body_447, cutL_body_3066, kL_body_394, kL_body_430, kL_body_447, sk_0, al_0, sk_200, al_200, sk_230, al_230, sn_230, ald_r2, ald_230, shqR_, spX11_thrown, Option.some.injEq, ncast, b1, b2, b3, b4, b5, c1, c2, c3, c4, c5, m1, m2, m3, m4, m5]
  have hC : CL i fl L I 3066 (lvL i) [] I2 := ⟨rfl, rfl, Or.inl ⟨rfl, hI2⟩⟩
  repeat' (first | exact hC | exact h3 | apply And.intro | intro _)
  all_goals first | exact h3 | (unfold mrg; omega) | omega
set_option maxRecDepth 100000 in
theorem W_4 {fl : Nat → Bool} {I : mM} {f : Int → Int} {L : Nat} {i : Int} (H : LI fl I) (hi : 0 ≤ i) (hL : i + 6 ≤ (L : Int)) (hf : ∀ q : Int, mrg (f q)) : wlP fl L f i I kL_body_450 I := by
  unfold wlP
  have b1 : (0 ≤ i + 1) = True := eq_true (by omega)
  have c1 : (i + 1 < (L : Int)) = True := eq_true (by omega)
  have m1 : mrg (f (i + 1)) = True := eq_true (hf _)
  have b2 : (0 ≤ i + 2) = True := eq_true (by omega)
  have c2 : (i + 2 < (L : Int)) = True := eq_true (by omega)
  have m2 : mrg (f (i + 2)) = True := eq_true (hf _)
  have b3 : (0 ≤ i + 3) = True := eq_true (by omega)
  have c3 : (i + 3 < (L : Int)) = True := eq_true (by omega)
  have m3 : mrg (f (i + 3)) = True := eq_true (hf _)
  have b4 : (0 ≤ i + 4) = True := eq_true (by omega)
  have c4 : (i + 4 < (L : Int)) = True := eq_true (by omega)
  have m4 : mrg (f (i + 4)) = True := eq_true (hf _)
  have b5 : (0 ≤ i + 5) = True := eq_true (by omega)
  have c5 : (i + 5 < (L : Int)) = True := eq_true (by omega)
  have m5 : mrg (f (i + 5)) = True := eq_true (hf _)
  simp only [false_and, and_false, true_or, or_true, false_or, or_false, true_and, and_true, true_implies, false_implies, implies_true, not_true_eq_false, not_false_eq_true, and_self, List.length_cons, List.length_nil, mNoCut_, mCat_n, mCat_I, mCat_L, mCat_R, mIsL_n, mIsL_I, mIsL_R, mIsL_L, Nat.reduceAdd, Nat.reduceSub, Nat.reduceLeDiff, Nat.reduceLT, Nat.reduceEqDiff, Nat.zero_le, Int.reduceEq, Int.reduceLT, Int.reduceLE, Int.reduceNeg, Int.reduceAdd, if_true, if_false, reduceIte, reduceCtorEq, Bool.false_eq_true, ne_eq, qCmp_0, qCmp_1, qCmp_2, qCmp_3, qCmp_4, qCmp_5, ib_0, ib_1, ib_2, lb_0, lb_1, lb_2, dv_0, dv_1, wl_ic, wl_ld_i, wl_ld_a, wl_st_i, wl_ib, wl_if, mrg_0_, wl_goto, wl_ald, wl_ret1, wl_eqI, wl_eqL, wl_i2x, ldR1, ldR0, ldI4, mrg_1_, ldR3, wl_callS5_4, SL_body_2, stI5, ldR2, wl_callV4_0, SL_body_110, stI6, wl_callV1_0, SL_body_104, ldI5, ldI6, mPut_s, mPut_I0, mPut_R0, mPut_L0, mPut_I1, mPut_R1, mPut_L1, mGoL_n, mGoL_c, mMask_t, mMask_f, mMask_n, cutL_body_510, sfxL_body_510, cutL_body_527, sfxL_body_527, cutL_body_3066, kL_body_450, kL_body_510, kL_body_527, sk_0, al_0, sk_200, al_200, sk_230, al_230, sn_230, ald_r2, ald_230, shqR_, spX11_thrown, Option.some.injEq, ncast, b1, b2, b3, b4, b5, c1, c2, c3, c4, c5, m1, m2, m3, m4, m5]
  refine ⟨_, P_hit H (hf _) (hf _) (hf _), fun o I1 hq => ?_⟩
  obtain ⟨k, rfl, hk, hq⟩ := hq
  simp only [false_and, and_false, true_or, or_true, false_or, or_false, true_and, and_true, true_implies, false_implies, implies_true, not_true_eq_false, not_false_eq_true, and_self, List.length_cons, List.length_nil, mNoCut_, mCat_n, mCat_I, mCat_L, mCat_R, mIsL_n, mIsL_I, mIsL_R, mIsL_L, Nat.reduceAdd, Nat.reduceSub, Nat.reduceLeDiff, Nat.reduceLT, Nat.reduceEqDiff, Nat.zero_le, Int.reduceEq, Int.reduceLT, Int.reduceLE, Int.reduceNeg, Int.reduceAdd, if_true, if_false, reduceIte, reduceCtorEq, Bool.false_eq_true, ne_eq, qCmp_0, qCmp_1, qCmp_2, qCmp_3, qCmp_4, qCmp_5, ib_0, ib_1, ib_2, lb_0, lb_1, lb_2, dv_0, dv_1, wl_ic, wl_ld_i, wl_ld_a, wl_st_i, wl_ib, wl_if, mrg_0_, wl_goto, wl_ald, wl_ret1, wl_eqI, wl_eqL, wl_i2x, ldR1, ldR0, ldI4, mrg_1_, ldR3, wl_callS5_4, SL_body_2, stI5, ldR2, wl_callV4_0, SL_body_110, stI6, wl_callV1_0, SL_body_104, ldI5, ldI6, mPut_s, mPut_I0, mPut_R0, mPut_L0, mPut_I1, mPut_R1, mPut_L1, mGoL_n, mGoL_c, mMask_t, mMask_f, mMask_n, cutL_body_510, sfxL_body_510, cutL_body_527, sfxL_body_527, cutL_body_3066, kL_body_450, kL_body_510, kL_body_527, sk_0, al_0, sk_200, al_200, sk_230, al_230, sn_230, ald_r2, ald_230, shqR_, spX11_thrown, Option.some.injEq, ncast, b1, b2, b3, b4, b5, c1, c2, c3, c4, c5, m1, m2, m3, m4, m5]
  refine ⟨_, hq, fun o2 I2 h2 => ?_⟩
  obtain ⟨b, rfl, h3, h0, hI2⟩ := h2
  simp only [false_and, and_false, true_or, or_true, false_or, or_false, true_and, and_true, true_implies, false_implies, implies_true, not_true_eq_false, not_false_eq_true, and_self, List.length_cons, List.length_nil, mNoCut_, mCat_n, mCat_I, mCat_L, mCat_R, mIsL_n, mIsL_I, mIsL_R, mIsL_L, Nat.reduceAdd, Nat.reduceSub, Nat.reduceLeDiff, Nat.reduceLT, Nat.reduceEqDiff, Nat.zero_le, Int.reduceEq, Int.reduceLT, Int.reduceLE, Int.reduceNeg, Int.reduceAdd, if_true, if_false, reduceIte, reduceCtorEq, Bool.false_eq_true, ne_eq, qCmp_0, qCmp_1, qCmp_2, qCmp_3, qCmp_4, qCmp_5, ib_0, ib_1, ib_2, lb_0, lb_1, lb_2, dv_0, dv_1, wl_ic, wl_ld_i, wl_ld_a, wl_st_i, wl_ib, wl_if, mrg_0_, wl_goto, wl_ald, wl_ret1, wl_eqI, wl_eqL, wl_i2x, ldR1, ldR0, ldI4, mrg_1_, ldR3, wl_callS5_4, SL_body_2, stI5, ldR2, wl_callV4_0, SL_body_110, stI6, wl_callV1_0, SL_body_104, ldI5, ldI6, mPut_s, mPut_I0, mPut_R0, mPut_L0, mPut_I1, mPut_R1, mPut_L1, mGoL_n, mGoL_c, mMask_t, mMask_f, mMask_n, cutL_body_510, sfxL_body_510, cutL_body_527, sfxL_body_527, cutL_body_3066, kL_body_450, kL_body_510, kL_body_527, sk_0, al_0, sk_200, al_200, sk_230, al_230, sn_230, ald_r2, ald_230, shqR_, spX11_thrown, Option.some.injEq, ncast, b1, b2, b3, b4, b5, c1, c2, c3, c4, c5, m1, m2, m3, m4, m5]
  have hC : CL i fl L I 3066 (lvL i) [] I2 := ⟨rfl, rfl, Or.inl ⟨rfl, hI2⟩⟩
  repeat' (first | exact hC | exact h3 | apply And.intro | intro _)
  all_goals first | exact h3 | (unfold mrg; omega) | omega
set_option maxRecDepth 100000 in
theorem W_5 {fl : Nat → Bool} {I : mM} {f : Int → Int} {L : Nat} {i : Int} (H : LI fl I) (hi : 0 ≤ i) (hL : i + 6 ≤ (L : Int)) (hf : ∀ q : Int, mrg (f q)) : wlP fl L f i I kL_body_530 I := by
  unfold wlP
  have b1 : (0 ≤ i + 1) = True := eq_true (by omega)
  have c1 : (i + 1 < (L : Int)) = True := eq_true (by omega)
  have m1 : mrg (f (i + 1)) = True := eq_true (hf _)
  have b2 : (0 ≤ i + 2) = True := eq_true (by omega)
  have c2 : (i + 2 < (L : Int)) = True := eq_true (by omega)
  have m2 : mrg (f (i + 2)) = True := eq_true (hf _)
  have b3 : (0 ≤ i + 3) = True := eq_true (by omega)
  have c3 : (i + 3 < (L : Int)) = True := eq_true (by omega)
  have m3 : mrg (f (i + 3)) = True := eq_true (hf _)
  have b4 : (0 ≤ i + 4) = True := eq_true (by omega)
  have c4 : (i + 4 < (L : Int)) = True := eq_true (by omega)
  have m4 : mrg (f (i + 4)) = True := eq_true (hf _)
  have b5 : (0 ≤ i + 5) = True := eq_true (by omega)
  have c5 : (i + 5 < (L : Int)) = True := eq_true (by omega)
  have m5 : mrg (f (i + 5)) = True := eq_true (hf _)
  simp only [false_and, and_false, true_or, or_true, false_or, or_false, true_and, and_true, true_implies, false_implies, implies_true, not_true_eq_false, not_false_eq_true, and_self, List.length_cons, List.length_nil, mNoCut_, mCat_n, mCat_I, mCat_L, mCat_R, mIsL_n, mIsL_I, mIsL_R, mIsL_L, Nat.reduceAdd, Nat.reduceSub, Nat.reduceLeDiff, Nat.reduceLT, Nat.reduceEqDiff, Nat.zero_le, Int.reduceEq, Int.reduceLT, Int.reduceLE, Int.reduceNeg, Int.reduceAdd, if_true, if_false, reduceIte, reduceCtorEq, Bool.false_eq_true, ne_eq, qCmp_0, qCmp_1, qCmp_2, qCmp_3, qCmp_4, qCmp_5, ib_0, ib_1, ib_2, lb_0, lb_1, lb_2, dv_0, dv_1, wl_ic, wl_ld_i, wl_ld_a, wl_st_i, wl_ib, wl_if, mrg_0_, wl_goto, wl_ald, wl_ret1, wl_eqI, wl_eqL, wl_i2x, ldR1, ldR0, ldI4, mrg_1_, ldR3, wl_callS5_4, SL_body_3, stI5, ldR2, wl_callV4_0, SL_body_112, stI6, wl_callV1_0, SL_body_104, ldI5, ldI6, mPut_s, mPut_I0, mPut_R0, mPut_L0, mPut_I1, mPut_R1, mPut_L1, mGoL_n, mGoL_c, mMask_t, mMask_f, mMask_n, cutL_body_590, sfxL_body_590, cutL_body_607, sfxL_body_607, cutL_body_3066, kL_body_530, kL_body_590, kL_body_607, sk_0, al_0, sk_200, al_200, sk_230, al_230, sn_230, ald_r2, ald_230, shqR_, spX11_thrown, Option.some.injEq, ncast, b1, b2, b3, b4, b5, c1, c2, c3, c4, c5, m1, m2, m3, m4, m5]
  refine ⟨_, P_tick H (hf _) (hf _) (hf _), fun o I1 hq => ?_⟩
  obtain ⟨k, rfl, hk, hq⟩ := hq
  simp only [false_and, and_false, true_or, or_true, false_or, or_false, true_and, and_true, true_implies, false_implies, implies_true, not_true_eq_false, not_false_eq_true, and_self, List.length_cons, List.length_nil, mNoCut_, mCat_n, mCat_I, mCat_L, mCat_R, mIsL_n, mIsL_I, mIsL_R, mIsL_L, Nat.reduceAdd, Nat.reduceSub, Nat.reduceLeDiff, Nat.reduceLT, Nat.reduceEqDiff, Nat.zero_le, Int.reduceEq, Int.reduceLT, Int.reduceLE, Int.reduceNeg, Int.reduceAdd, if_true, if_false, reduceIte, reduceCtorEq, Bool.false_eq_true, ne_eq, qCmp_0, qCmp_1, qCmp_2, qCmp_3, qCmp_4, qCmp_5, ib_0, ib_1, ib_2, lb_0, lb_1, lb_2, dv_0, dv_1, wl_ic, wl_ld_i, wl_ld_a, wl_st_i, wl_ib, wl_if, mrg_0_, wl_goto, wl_ald, wl_ret1, wl_eqI, wl_eqL, wl_i2x, ldR1, ldR0, ldI4, mrg_1_, ldR3, wl_callS5_4, SL_body_3, stI5, ldR2, wl_callV4_0, SL_body_112, stI6, wl_callV1_0, SL_body_104, ldI5, ldI6, mPut_s, mPut_I0, mPut_R0, mPut_L0, mPut_I1, mPut_R1, mPut_L1, mGoL_n, mGoL_c, mMask_t, mMask_f, mMask_n, cutL_body_590, sfxL_body_590, cutL_body_607, sfxL_body_607, cutL_body_3066, kL_body_530, kL_body_590, kL_body_607, sk_0, al_0, sk_200, al_200, sk_230, al_230, sn_230, ald_r2, ald_230, shqR_, spX11_thrown, Option.some.injEq, ncast, b1, b2, b3, b4, b5, c1, c2, c3, c4, c5, m1, m2, m3, m4, m5]
  refine ⟨_, hq, fun o2 I2 h2 => ?_⟩
  obtain ⟨b, rfl, h3, h0, hI2⟩ := h2
  simp only [false_and, and_false, true_or, or_true, false_or, or_false, true_and, and_true, true_implies, false_implies, implies_true, not_true_eq_false, not_false_eq_true, and_self, List.length_cons, List.length_nil, mNoCut_, mCat_n, mCat_I, mCat_L, mCat_R, mIsL_n, mIsL_I, mIsL_R, mIsL_L, Nat.reduceAdd, Nat.reduceSub, Nat.reduceLeDiff, Nat.reduceLT, Nat.reduceEqDiff, Nat.zero_le, Int.reduceEq, Int.reduceLT, Int.reduceLE, Int.reduceNeg, Int.reduceAdd, if_true, if_false, reduceIte, reduceCtorEq, Bool.false_eq_true, ne_eq, qCmp_0, qCmp_1, qCmp_2, qCmp_3, qCmp_4, qCmp_5, ib_0, ib_1, ib_2, lb_0, lb_1, lb_2, dv_0, dv_1, wl_ic, wl_ld_i, wl_ld_a, wl_st_i, wl_ib, wl_if, mrg_0_, wl_goto, wl_ald, wl_ret1, wl_eqI, wl_eqL, wl_i2x, ldR1, ldR0, ldI4, mrg_1_, ldR3, wl_callS5_4, SL_body_3, stI5, ldR2, wl_callV4_0, SL_body_112, stI6, wl_callV1_0, SL_body_104, ldI5, ldI6, mPut_s, mPut_I0, mPut_R0, mPut_L0, mPut_I1, mPut_R1, mPut_L1, mGoL_n, mGoL_c, mMask_t, mMask_f, mMask_n, cutL_body_590, sfxL_body_590, cutL_body_607, sfxL_body_607, cutL_body_3066, kL_body_530, kL_body_590, kL_body_607, sk_0, al_0, sk_200, al_200, sk_230, al_230, sn_230, ald_r2, ald_230, shqR_, spX11_thrown, Option.some.injEq, ncast, b1, b2, b3, b4, b5, c1, c2, c3, c4, c5, m1, m2, m3, m4, m5]
  have hC : CL i fl L I 3066 (lvL i) [] I2 := ⟨rfl, rfl, Or.inl ⟨rfl, hI2⟩⟩
  repeat' (first | exact hC | exact h3 | apply And.intro | intro _)
  all_goals first | exact h3 | (unfold mrg; omega) | omega
set_option maxRecDepth 100000 in
theorem W_6 {fl : Nat → Bool} {I : mM} {f : Int → Int} {L : Nat} {i : Int} (H : LI fl I) (hi : 0 ≤ i) (hL : i + 6 ≤ (L : Int)) (hf : ∀ q : Int, mrg (f q)) : wlP fl L f i I kL_body_610 I := by
  unfold wlP
  have b1 : (0 ≤ i + 1) = True := eq_true (by omega)
  have c1 : (i + 1 < (L : Int)) = True := eq_true (by omega)
  have m1 : mrg (f (i + 1)) = True := eq_true (hf _)
  have b2 : (0 ≤ i + 2) = True := eq_true (by omega)
  have c2 : (i + 2 < (L : Int)) = True := eq_true (by omega)
  have m2 : mrg (f (i + 2)) = True := eq_true (hf _)
  have b3 : (0 ≤ i + 3) = True := eq_true (by omega)
  have c3 : (i + 3 < (L : Int)) = True := eq_true (by omega)
  have m3 : mrg (f (i + 3)) = True := eq_true (hf _)
  have b4 : (0 ≤ i + 4) = True := eq_true (by omega)
  have c4 : (i + 4 < (L : Int)) = True := eq_true (by omega)
  have m4 : mrg (f (i + 4)) = True := eq_true (hf _)
  have b5 : (0 ≤ i + 5) = True := eq_true (by omega)
  have c5 : (i + 5 < (L : Int)) = True := eq_true (by omega)
  have m5 : mrg (f (i + 5)) = True := eq_true (hf _)
  simp only [false_and, and_false, true_or, or_true, false_or, or_false, true_and, and_true, true_implies, false_implies, implies_true, not_true_eq_false, not_false_eq_true, and_self, List.length_cons, List.length_nil, mNoCut_, mCat_n, mCat_I, mCat_L, mCat_R, mIsL_n, mIsL_I, mIsL_R, mIsL_L, Nat.reduceAdd, Nat.reduceSub, Nat.reduceLeDiff, Nat.reduceLT, Nat.reduceEqDiff, Nat.zero_le, Int.reduceEq, Int.reduceLT, Int.reduceLE, Int.reduceNeg, Int.reduceAdd, if_true, if_false, reduceIte, reduceCtorEq, Bool.false_eq_true, ne_eq, qCmp_0, qCmp_1, qCmp_2, qCmp_3, qCmp_4, qCmp_5, ib_0, ib_1, ib_2, lb_0, lb_1, lb_2, dv_0, dv_1, wl_ic, wl_ld_i, wl_ld_a, wl_st_i, wl_ib, wl_goto, wl_ald, wl_ret1, wl_eqI, ldR1, ldR0, ldI4, mrg_1_, wl_callS6_4, SL_body_4, stI5, ldR2, wl_callV6_0, SL_body_114, wl_callV1_0, SL_body_104, ldI5, mrg_0_, mPut_s, mPut_I0, mPut_R0, mPut_L0, mPut_I1, mPut_R1, mPut_L1, mGoL_n, mGoL_c, mMask_t, mMask_f, mMask_n, cutL_body_691, sfxL_body_691, cutL_body_3066, kL_body_610, kL_body_691, sk_0, al_0, sk_200, al_200, sk_230, al_230, sn_230, ald_r2, ald_230, shqR_, spX11_thrown, Option.some.injEq, ncast, b1, b2, b3, b4, b5, c1, c2, c3, c4, c5, m1, m2, m3, m4, m5]
  refine ⟨_, P_fielder H (hf _) (hf _) (hf _) (hf _) (hf _), fun o I1 hq => ?_⟩
  obtain ⟨k, rfl, hk, hq⟩ := hq
  simp only [false_and, and_false, true_or, or_true, false_or, or_false, true_and, and_true, true_implies, false_implies, implies_true, not_true_eq_false, not_false_eq_true, and_self, List.length_cons, List.length_nil, mNoCut_, mCat_n, mCat_I, mCat_L, mCat_R, mIsL_n, mIsL_I, mIsL_R, mIsL_L, Nat.reduceAdd, Nat.reduceSub, Nat.reduceLeDiff, Nat.reduceLT, Nat.reduceEqDiff, Nat.zero_le, Int.reduceEq, Int.reduceLT, Int.reduceLE, Int.reduceNeg, Int.reduceAdd, if_true, if_false, reduceIte, reduceCtorEq, Bool.false_eq_true, ne_eq, qCmp_0, qCmp_1, qCmp_2, qCmp_3, qCmp_4, qCmp_5, ib_0, ib_1, ib_2, lb_0, lb_1, lb_2, dv_0, dv_1, wl_ic, wl_ld_i, wl_ld_a, wl_st_i, wl_ib, wl_goto, wl_ald, wl_ret1, wl_eqI, ldR1, ldR0, ldI4, mrg_1_, wl_callS6_4, SL_body_4, stI5, ldR2, wl_callV6_0, SL_body_114, wl_callV1_0, SL_body_104, ldI5, mrg_0_, mPut_s, mPut_I0, mPut_R0, mPut_L0, mPut_I1, mPut_R1, mPut_L1, mGoL_n, mGoL_c, mMask_t, mMask_f, mMask_n, cutL_body_691, sfxL_body_691, cutL_body_3066, kL_body_610, kL_body_691, sk_0, al_0, sk_200, al_200, sk_230, al_230, sn_230, ald_r2, ald_230, shqR_, spX11_thrown, Option.some.injEq, ncast, b1, b2, b3, b4, b5, c1, c2, c3, c4, c5, m1, m2, m3, m4, m5]
  refine ⟨_, hq, fun o2 I2 h2 => ?_⟩
  obtain ⟨rfl, h3, hI2⟩ := h2
  simp only [false_and, and_false, true_or, or_true, false_or, or_false, true_and, and_true, true_implies, false_implies, implies_true, not_true_eq_false, not_false_eq_true, and_self, List.length_cons, List.length_nil, mNoCut_, mCat_n, mCat_I, mCat_L, mCat_R, mIsL_n, mIsL_I, mIsL_R, mIsL_L, Nat.reduceAdd, Nat.reduceSub, Nat.reduceLeDiff, Nat.reduceLT, Nat.reduceEqDiff, Nat.zero_le, Int.reduceEq, Int.reduceLT, Int.reduceLE, Int.reduceNeg, Int.reduceAdd, if_true, if_false, reduceIte, reduceCtorEq, Bool.false_eq_true, ne_eq, qCmp_0, qCmp_1, qCmp_2, qCmp_3, qCmp_4, qCmp_5, ib_0, ib_1, ib_2, lb_0, lb_1, lb_2, dv_0, dv_1, wl_ic, wl_ld_i, wl_ld_a, wl_st_i, wl_ib, wl_goto, wl_ald, wl_ret1, wl_eqI, ldR1, ldR0, ldI4, mrg_1_, wl_callS6_4, SL_body_4, stI5, ldR2, wl_callV6_0, SL_body_114, wl_callV1_0, SL_body_104, ldI5, mrg_0_, mPut_s, mPut_I0, mPut_R0, mPut_L0, mPut_I1, mPut_R1, mPut_L1, mGoL_n, mGoL_c, mMask_t, mMask_f, mMask_n, cutL_body_691, sfxL_body_691, cutL_body_3066, kL_body_610, kL_body_691, sk_0, al_0, sk_200, al_200, sk_230, al_230, sn_230, ald_r2, ald_230, shqR_, spX11_thrown, Option.some.injEq, ncast, b1, b2, b3, b4, b5, c1, c2, c3, c4, c5, m1, m2, m3, m4, m5]
  have hC : CL i fl L I 3066 (lvL i) [] I2 := ⟨rfl, rfl, Or.inl ⟨rfl, hI2⟩⟩
  repeat' (first | exact hC | exact h3 | apply And.intro | intro _)
  all_goals first | exact h3 | (unfold mrg; omega) | omega
set_option maxRecDepth 100000 in
theorem W_7 {fl : Nat → Bool} {I : mM} {f : Int → Int} {L : Nat} {i : Int} (H : LI fl I) (hi : 0 ≤ i) (hL : i + 6 ≤ (L : Int)) (hf : ∀ q : Int, mrg (f q)) : wlP fl L f i I kL_body_694 I := by
  unfold wlP
  have b1 : (0 ≤ i + 1) = True := eq_true (by omega)
  have c1 : (i + 1 < (L : Int)) = True := eq_true (by omega)
  have m1 : mrg (f (i + 1)) = True := eq_true (hf _)
  have b2 : (0 ≤ i + 2) = True := eq_true (by omega)
  have c2 : (i + 2 < (L : Int)) = True := eq_true (by omega)
  have m2 : mrg (f (i + 2)) = True := eq_true (hf _)
  have b3 : (0 ≤ i + 3) = True := eq_true (by omega)
  have c3 : (i + 3 < (L : Int)) = True := eq_true (by omega)
  have m3 : mrg (f (i + 3)) = True := eq_true (hf _)
  have b4 : (0 ≤ i + 4) = True := eq_true (by omega)
  have c4 : (i + 4 < (L : Int)) = True := eq_true (by omega)
  have m4 : mrg (f (i + 4)) = True := eq_true (hf _)
  have b5 : (0 ≤ i + 5) = True := eq_true (by omega)
  have c5 : (i + 5 < (L : Int)) = True := eq_true (by omega)
  have m5 : mrg (f (i + 5)) = True := eq_true (hf _)
  simp only [false_and, and_false, true_or, or_true, false_or, or_false, true_and, and_true, true_implies, false_implies, implies_true, not_true_eq_false, not_false_eq_true, and_self, List.length_cons, List.length_nil, mNoCut_, mCat_n, mCat_I, mCat_L, mCat_R, mIsL_n, mIsL_I, mIsL_R, mIsL_L, Nat.reduceAdd, Nat.reduceSub, Nat.reduceLeDiff, Nat.reduceLT, Nat.reduceEqDiff, Nat.zero_le, Int.reduceEq, Int.reduceLT, Int.reduceLE, Int.reduceNeg, Int.reduceAdd, if_true, if_false, reduceIte, reduceCtorEq, Bool.false_eq_true, ne_eq, qCmp_0, qCmp_1, qCmp_2, qCmp_3, qCmp_4, qCmp_5, ib_0, ib_1, ib_2, lb_0, lb_1, lb_2, dv_0, dv_1, wl_ic, wl_ld_i, wl_ld_a, wl_st_i, wl_ib, wl_if, mrg_0_, wl_goto, wl_ald, wl_ret1, wl_eqI, wl_eqL, wl_i2x, ldR1, ldR0, ldI4, mrg_1_, ldR3, wl_callS4_4, SL_body_5, stI5, ldR2, wl_callV3_0, SL_body_116, stI6, wl_callV1_0, SL_body_104, ldI5, ldI6, mPut_s, mPut_I0, mPut_R0, mPut_L0, mPut_I1, mPut_R1, mPut_L1, mGoL_n, mGoL_c, mMask_t, mMask_f, mMask_n, cutL_body_742, sfxL_body_742, cutL_body_759, sfxL_body_759, cutL_body_3066, kL_body_694, kL_body_742, kL_body_759, sk_0, al_0, sk_200, al_200, sk_230, al_230, sn_230, ald_r2, ald_230, shqR_, spX11_thrown, Option.some.injEq, ncast, b1, b2, b3, b4, b5, c1, c2, c3, c4, c5, m1, m2, m3, m4, m5]
  refine ⟨_, P_stand H (hf _) (hf _), fun o I1 hq => ?_⟩
  obtain ⟨k, rfl, hk, hq⟩ := hq
  simp only [false_and, and_false, true_or, or_true, false_or, or_false, true_and, and_true, true_implies, false_implies, implies_true, not_true_eq_false, not_false_eq_true, and_self, List.length_cons, List.length_nil, mNoCut_, mCat_n, mCat_I, mCat_L, mCat_R, mIsL_n, mIsL_I, mIsL_R, mIsL_L, Nat.reduceAdd, Nat.reduceSub, Nat.reduceLeDiff, Nat.reduceLT, Nat.reduceEqDiff, Nat.zero_le, Int.reduceEq, Int.reduceLT, Int.reduceLE, Int.reduceNeg, Int.reduceAdd, if_true, if_false, reduceIte, reduceCtorEq, Bool.false_eq_true, ne_eq, qCmp_0, qCmp_1, qCmp_2, qCmp_3, qCmp_4, qCmp_5, ib_0, ib_1, ib_2, lb_0, lb_1, lb_2, dv_0, dv_1, wl_ic, wl_ld_i, wl_ld_a, wl_st_i, wl_ib, wl_if, mrg_0_, wl_goto, wl_ald, wl_ret1, wl_eqI, wl_eqL, wl_i2x, ldR1, ldR0, ldI4, mrg_1_, ldR3, wl_callS4_4, SL_body_5, stI5, ldR2, wl_callV3_0, SL_body_116, stI6, wl_callV1_0, SL_body_104, ldI5, ldI6, mPut_s, mPut_I0, mPut_R0, mPut_L0, mPut_I1, mPut_R1, mPut_L1, mGoL_n, mGoL_c, mMask_t, mMask_f, mMask_n, cutL_body_742, sfxL_body_742, cutL_body_759, sfxL_body_759, cutL_body_3066, kL_body_694, kL_body_742, kL_body_759, sk_0, al_0, sk_200, al_200, sk_230, al_230, sn_230, ald_r2, ald_230, shqR_, spX11_thrown, Option.some.injEq, ncast, b1, b2, b3, b4, b5, c1, c2, c3, c4, c5, m1, m2, m3, m4, m5]
  refine ⟨_, hq, fun o2 I2 h2 => ?_⟩
  obtain ⟨b, rfl, h3, h0, hI2⟩ := h2
  simp only [false_and, and_false, true_or, or_true, false_or, or_false, true_and, and_true, true_implies, false_implies, implies_true, not_true_eq_false, not_false_eq_true, and_self, List.length_cons, List.length_nil, mNoCut_, mCat_n, mCat_I, mCat_L, mCat_R, mIsL_n, mIsL_I, mIsL_R, mIsL_L, Nat.reduceAdd, Nat.reduceSub, Nat.reduceLeDiff, Nat.reduceLT, Nat.reduceEqDiff, Nat.zero_le, Int.reduceEq, Int.reduceLT, Int.reduceLE, Int.reduceNeg, Int.reduceAdd, if_true, if_false, reduceIte, reduceCtorEq, Bool.false_eq_true, ne_eq, qCmp_0, qCmp_1, qCmp_2, qCmp_3, qCmp_4, qCmp_5, ib_0, ib_1, ib_2, lb_0, lb_1, lb_2, dv_0, dv_1, wl_ic, wl_ld_i, wl_ld_a, wl_st_i, wl_ib, wl_if, mrg_0_, wl_goto, wl_ald, wl_ret1, wl_eqI, wl_eqL, wl_i2x, ldR1, ldR0, ldI4, mrg_1_, ldR3, wl_callS4_4, SL_body_5, stI5, ldR2, wl_callV3_0, SL_body_116, stI6, wl_callV1_0, SL_body_104, ldI5, ldI6, mPut_s, mPut_I0, mPut_R0, mPut_L0, mPut_I1, mPut_R1, mPut_L1, mGoL_n, mGoL_c, mMask_t, mMask_f, mMask_n, cutL_body_742, sfxL_body_742, cutL_body_759, sfxL_body_759, cutL_body_3066, kL_body_694, kL_body_742, kL_body_759, sk_0, al_0, sk_200, al_200, sk_230, al_230, sn_230, ald_r2, ald_230, shqR_, spX11_thrown, Option.some.injEq, ncast, b1, b2, b3, b4, b5, c1, c2, c3, c4, c5, m1, m2, m3, m4, m5]
  have hC : CL i fl L I 3066 (lvL i) [] I2 := ⟨rfl, rfl, Or.inl ⟨rfl, hI2⟩⟩
  repeat' (first | exact hC | exact h3 | apply And.intro | intro _)
  all_goals first | exact h3 | (unfold mrg; omega) | omega
set_option maxRecDepth 100000 in
theorem W_8 {fl : Nat → Bool} {I : mM} {f : Int → Int} {L : Nat} {i : Int} (H : LI fl I) (hi : 0 ≤ i) (hL : i + 6 ≤ (L : Int)) (hf : ∀ q : Int, mrg (f q)) : wlP fl L f i I kL_body_762 I := by
  unfold wlP
  have b1 : (0 ≤ i + 1) = True := eq_true (by omega)
  have c1 : (i + 1 < (L : Int)) = True := eq_true (by omega)
  have m1 : mrg (f (i + 1)) = True := eq_true (hf _)
  have b2 : (0 ≤ i + 2) = True := eq_true (by omega)
  have c2 : (i + 2 < (L : Int)) = True := eq_true (by omega)
  have m2 : mrg (f (i + 2)) = True := eq_true (hf _)
  have b3 : (0 ≤ i + 3) = True := eq_true (by omega)
  have c3 : (i + 3 < (L : Int)) = True := eq_true (by omega)
  have m3 : mrg (f (i + 3)) = True := eq_true (hf _)
  have b4 : (0 ≤ i + 4) = True := eq_true (by omega)
  have c4 : (i + 4 < (L : Int)) = True := eq_true (by omega)
  have m4 : mrg (f (i + 4)) = True := eq_true (hf _)
  have b5 : (0 ≤ i + 5) = True := eq_true (by omega)
  have c5 : (i + 5 < (L : Int)) = True := eq_true (by omega)
  have m5 : mrg (f (i + 5)) = True := eq_true (hf _)
  simp only [false_and, and_false, true_or, or_true, false_or, or_false, true_and, and_true, true_implies, false_implies, implies_true, not_true_eq_false, not_false_eq_true, and_self, List.length_cons, List.length_nil, mNoCut_, mCat_n, mCat_I, mCat_L, mCat_R, mIsL_n, mIsL_I, mIsL_R, mIsL_L, Nat.reduceAdd, Nat.reduceSub, Nat.reduceLeDiff, Nat.reduceLT, Nat.reduceEqDiff, Nat.zero_le, Int.reduceEq, Int.reduceLT, Int.reduceLE, Int.reduceNeg, Int.reduceAdd, if_true, if_false, reduceIte, reduceCtorEq, Bool.false_eq_true, ne_eq, qCmp_0, qCmp_1, qCmp_2, qCmp_3, qCmp_4, qCmp_5, ib_0, ib_1, ib_2, lb_0, lb_1, lb_2, dv_0, dv_1, wl_ic, wl_ld_i, wl_ld_a, wl_st_i, wl_ib, wl_if, mrg_0_, wl_goto, wl_ald, wl_ret1, wl_eqI, wl_eqL, wl_i2x, ldR1, ldR0, ldI4, mrg_1_, ldR3, wl_callS4_4, SL_body_6, stI5, ldR2, wl_callV3_0, SL_body_118, stI6, wl_callV1_0, SL_body_104, ldI5, ldI6, mPut_s, mPut_I0, mPut_R0, mPut_L0, mPut_I1, mPut_R1, mPut_L1, mGoL_n, mGoL_c, mMask_t, mMask_f, mMask_n, cutL_body_810, sfxL_body_810, cutL_body_827, sfxL_body_827, cutL_body_3066, kL_body_762, kL_body_810, kL_body_827, sk_0, al_0, sk_200, al_200, sk_230, al_230, sn_230, ald_r2, ald_230, shqR_, spX11_thrown, Option.some.injEq, ncast, b1, b2, b3, b4, b5, c1, c2, c3, c4, c5, m1, m2, m3, m4, m5]
  refine ⟨_, P_of H (hf _) (hf _), fun o I1 hq => ?_⟩
  obtain ⟨k, rfl, hk, hq⟩ := hq
  simp only [false_and, and_false, true_or, or_true, false_or, or_false, true_and, and_true, true_implies, false_implies, implies_true, not_true_eq_false, not_false_eq_true, and_self, List.length_cons, List.length_nil, mNoCut_, mCat_n, mCat_I, mCat_L, mCat_R, mIsL_n, mIsL_I, mIsL_R, mIsL_L, Nat.reduceAdd, Nat.reduceSub, Nat.reduceLeDiff, Nat.reduceLT, Nat.reduceEqDiff, Nat.zero_le, Int.reduceEq, Int.reduceLT, Int.reduceLE, Int.reduceNeg, Int.reduceAdd, if_true, if_false, reduceIte, reduceCtorEq, Bool.false_eq_true, ne_eq, qCmp_0, qCmp_1, qCmp_2, qCmp_3, qCmp_4, qCmp_5, ib_0, ib_1, ib_2, lb_0, lb_1, lb_2, dv_0, dv_1, wl_ic, wl_ld_i, wl_ld_a, wl_st_i, wl_ib, wl_if, mrg_0_, wl_goto, wl_ald, wl_ret1, wl_eqI, wl_eqL, wl_i2x, ldR1, ldR0, ldI4, mrg_1_, ldR3, wl_callS4_4, SL_body_6, stI5, ldR2, wl_callV3_0, SL_body_118, stI6, wl_callV1_0, SL_body_104, ldI5, ldI6, mPut_s, mPut_I0, mPut_R0, mPut_L0, mPut_I1, mPut_R1, mPut_L1, mGoL_n, mGoL_c, mMask_t, mMask_f, mMask_n, cutL_body_810, sfxL_body_810, cutL_body_827, sfxL_body_827, cutL_body_3066, kL_body_762, kL_body_810, kL_body_827, sk_0, al_0, sk_200, al_200, sk_230, al_230, sn_230, ald_r2, ald_230, shqR_, spX11_thrown, Option.some.injEq, ncast, b1, b2, b3, b4, b5, c1, c2, c3, c4, c5, m1, m2, m3, m4, m5]
  refine ⟨_, hq, fun o2 I2 h2 => ?_⟩
  obtain ⟨b, rfl, h3, h0, hI2⟩ := h2
  simp only [false_and, and_false, true_or, or_true, false_or, or_false, true_and, and_true, true_implies, false_implies, implies_true, not_true_eq_false, not_false_eq_true, and_self, List.length_cons, List.length_nil, mNoCut_, mCat_n, mCat_I, mCat_L, mCat_R, mIsL_n, mIsL_I, mIsL_R, mIsL_L, Nat.reduceAdd, Nat.reduceSub, Nat.reduceLeDiff, Nat.reduceLT, Nat.reduceEqDiff, Nat.zero_le, Int.reduceEq, Int.reduceLT, Int.reduceLE, Int.reduceNeg, Int.reduceAdd, if_true, if_false, reduceIte, reduceCtorEq, Bool.false_eq_true, ne_eq, qCmp_0, qCmp_1, qCmp_2, qCmp_3, qCmp_4, qCmp_5, ib_0, ib_1, ib_2, lb_0, lb_1, lb_2, dv_0, dv_1, wl_ic, wl_ld_i, wl_ld_a, wl_st_i, wl_ib, wl_if, mrg_0_, wl_goto, wl_ald, wl_ret1, wl_eqI, wl_eqL, wl_i2x, ldR1, ldR0, ldI4, mrg_1_, ldR3, wl_callS4_4, SL_body_6, stI5, ldR2, wl_callV3_0, SL_body_118, stI6, wl_callV1_0, SL_body_104, ldI5, ldI6, mPut_s, mPut_I0, mPut_R0, mPut_L0, mPut_I1, mPut_R1, mPut_L1, mGoL_n, mGoL_c, mMask_t, mMask_f, mMask_n, cutL_body_810, sfxL_body_810, cutL_body_827, sfxL_body_827, cutL_body_3066, kL_body_762, kL_body_810, kL_body_827, sk_0, al_0, sk_200, al_200, sk_230, al_230, sn_230, ald_r2, ald_230, shqR_, spX11_thrown, Option.some.injEq, ncast, b1, b2, b3, b4, b5, c1, c2, c3, c4, c5, m1, m2, m3, m4, m5]
  have hC : CL i fl L I 3066 (lvL i) [] I2 := ⟨rfl, rfl, Or.inl ⟨rfl, hI2⟩⟩
  repeat' (first | exact hC | exact h3 | apply And.intro | intro _)
  all_goals first | exact h3 | (unfold mrg; omega) | omega
set_option maxRecDepth 100000 in
theorem W_9 {fl : Nat → Bool} {I : mM} {f : Int → Int} {L : Nat} {i : Int} (H : LI fl I) (hi : 0 ≤ i) (hL : i + 6 ≤ (L : Int)) (hf : ∀ q : Int, mrg (f q)) : wlP fl L f i I kL_body_830 I := by
  unfold wlP
  have b1 : (0 ≤ i + 1) = True := eq_true (by omega)
  have c1 : (i + 1 < (L : Int)) = True := eq_true (by omega)
  have m1 : mrg (f (i + 1)) = True := eq_true (hf _)
  have b2 : (0 ≤ i + 2) = True := eq_true (by omega)
  have c2 : (i + 2 < (L : Int)) = True := eq_true (by omega)
  have m2 : mrg (f (i + 2)) = True := eq_true (hf _)
  have b3 : (0 ≤ i + 3) = True := eq_true (by omega)
  have c3 : (i + 3 < (L : Int)) = True := eq_true (by omega)
  have m3 : mrg (f (i + 3)) = True := eq_true (hf _)
  have b4 : (0 ≤ i + 4) = True := eq_true (by omega)
  have c4 : (i + 4 < (L : Int)) = True := eq_true (by omega)
  have m4 : mrg (f (i + 4)) = True := eq_true (hf _)
  have b5 : (0 ≤ i + 5) = True := eq_true (by omega)
  have c5 : (i + 5 < (L : Int)) = True := eq_true (by omega)
  have m5 : mrg (f (i + 5)) = True := eq_true (hf _)
  simp only [false_and, and_false, true_or, or_true, false_or, or_false, true_and, and_true, true_implies, false_implies, implies_true, not_true_eq_false, not_false_eq_true, and_self, List.length_cons, List.length_nil, mNoCut_, mCat_n, mCat_I, mCat_L, mCat_R, mIsL_n, mIsL_I, mIsL_R, mIsL_L, Nat.reduceAdd, Nat.reduceSub, Nat.reduceLeDiff, Nat.reduceLT, Nat.reduceEqDiff, Nat.zero_le, Int.reduceEq, Int.reduceLT, Int.reduceLE, Int.reduceNeg, Int.reduceAdd, if_true, if_false, reduceIte, reduceCtorEq, Bool.false_eq_true, ne_eq, qCmp_0, qCmp_1, qCmp_2, qCmp_3, qCmp_4, qCmp_5, ib_0, ib_1, ib_2, lb_0, lb_1, lb_2, dv_0, dv_1, wl_ic, wl_ld_a, wl_ret1, wl_eqI, ldR1, wl_callV1_0, SL_body_119, ldR2, SL_body_120, mrg_0_, mPut_s, mPut_I0, mPut_R0, mPut_L0, mPut_I1, mPut_R1, mPut_L1, mGoL_n, mGoL_c, mMask_t, mMask_f, mMask_n, cutL_body_3066, kL_body_830, sk_0, al_0, sk_200, al_200, sk_230, al_230, sn_230, ald_r2, ald_230, shqR_, spX11_thrown, Option.some.injEq, ncast, b1, b2, b3, b4, b5, c1, c2, c3, c4, c5, m1, m2, m3, m4, m5]
  refine ⟨_, P_judge H, fun o I1 hq => ?_⟩
  obtain ⟨a, rfl, hq⟩ := hq
  simp only [false_and, and_false, true_or, or_true, false_or, or_false, true_and, and_true, true_implies, false_implies, implies_true, not_true_eq_false, not_false_eq_true, and_self, List.length_cons, List.length_nil, mNoCut_, mCat_n, mCat_I, mCat_L, mCat_R, mIsL_n, mIsL_I, mIsL_R, mIsL_L, Nat.reduceAdd, Nat.reduceSub, Nat.reduceLeDiff, Nat.reduceLT, Nat.reduceEqDiff, Nat.zero_le, Int.reduceEq, Int.reduceLT, Int.reduceLE, Int.reduceNeg, Int.reduceAdd, if_true, if_false, reduceIte, reduceCtorEq, Bool.false_eq_true, ne_eq, qCmp_0, qCmp_1, qCmp_2, qCmp_3, qCmp_4, qCmp_5, ib_0, ib_1, ib_2, lb_0, lb_1, lb_2, dv_0, dv_1, wl_ic, wl_ld_a, wl_ret1, wl_eqI, ldR1, wl_callV1_0, SL_body_119, ldR2, SL_body_120, mrg_0_, mPut_s, mPut_I0, mPut_R0, mPut_L0, mPut_I1, mPut_R1, mPut_L1, mGoL_n, mGoL_c, mMask_t, mMask_f, mMask_n, cutL_body_3066, kL_body_830, sk_0, al_0, sk_200, al_200, sk_230, al_230, sn_230, ald_r2, ald_230, shqR_, spX11_thrown, Option.some.injEq, ncast, b1, b2, b3, b4, b5, c1, c2, c3, c4, c5, m1, m2, m3, m4, m5]
  refine ⟨_, hq, fun o2 I2 h2 => ?_⟩
  obtain ⟨b, rfl, h3, hI2⟩ := h2
  simp only [false_and, and_false, true_or, or_true, false_or, or_false, true_and, and_true, true_implies, false_implies, implies_true, not_true_eq_false, not_false_eq_true, and_self, List.length_cons, List.length_nil, mNoCut_, mCat_n, mCat_I, mCat_L, mCat_R, mIsL_n, mIsL_I, mIsL_R, mIsL_L, Nat.reduceAdd, Nat.reduceSub, Nat.reduceLeDiff, Nat.reduceLT, Nat.reduceEqDiff, Nat.zero_le, Int.reduceEq, Int.reduceLT, Int.reduceLE, Int.reduceNeg, Int.reduceAdd, if_true, if_false, reduceIte, reduceCtorEq, Bool.false_eq_true, ne_eq, qCmp_0, qCmp_1, qCmp_2, qCmp_3, qCmp_4, qCmp_5, ib_0, ib_1, ib_2, lb_0, lb_1, lb_2, dv_0, dv_1, wl_ic, wl_ld_a, wl_ret1, wl_eqI, ldR1, wl_callV1_0, SL_body_119, ldR2, SL_body_120, mrg_0_, mPut_s, mPut_I0, mPut_R0, mPut_L0, mPut_I1, mPut_R1, mPut_L1, mGoL_n, mGoL_c, mMask_t, mMask_f, mMask_n, cutL_body_3066, kL_body_830, sk_0, al_0, sk_200, al_200, sk_230, al_230, sn_230, ald_r2, ald_230, shqR_, spX11_thrown, Option.some.injEq, ncast, b1, b2, b3, b4, b5, c1, c2, c3, c4, c5, m1, m2, m3, m4, m5]
  have hC : CL i fl L I 3066 (lvL i) [] I2 := ⟨rfl, rfl, Or.inl ⟨rfl, hI2⟩⟩
  repeat' (first | exact hC | exact h3 | apply And.intro | intro _)
  all_goals first | exact h3 | (unfold mrg; omega) | omega
set_option maxRecDepth 100000 in
theorem W_10 {fl : Nat → Bool} {I : mM} {f : Int → Int} {L : Nat} {i : Int} (H : LI fl I) (hi : 0 ≤ i) (hL : i + 6 ≤ (L : Int)) (hf : ∀ q : Int, mrg (f q)) : wlP fl L f i I kL_body_843 I := by
  unfold wlP
  have b1 : (0 ≤ i + 1) = True := eq_true (by omega)
  have c1 : (i + 1 < (L : Int)) = True := eq_true (by omega)
  have m1 : mrg (f (i + 1)) = True := eq_true (hf _)
  have b2 : (0 ≤ i + 2) = True := eq_true (by omega)
  have c2 : (i + 2 < (L : Int)) = True := eq_true (by omega)
  have m2 : mrg (f (i + 2)) = True := eq_true (hf _)
  have b3 : (0 ≤ i + 3) = True := eq_true (by omega)
  have c3 : (i + 3 < (L : Int)) = True := eq_true (by omega)
  have m3 : mrg (f (i + 3)) = True := eq_true (hf _)
  have b4 : (0 ≤ i + 4) = True := eq_true (by omega)
  have c4 : (i + 4 < (L : Int)) = True := eq_true (by omega)
  have m4 : mrg (f (i + 4)) = True := eq_true (hf _)
  have b5 : (0 ≤ i + 5) = True := eq_true (by omega)
  have c5 : (i + 5 < (L : Int)) = True := eq_true (by omega)
  have m5 : mrg (f (i + 5)) = True := eq_true (hf _)
  simp only [false_and, and_false, true_or, or_true, false_or, or_false, true_and, and_true, true_implies, false_implies, implies_true, not_true_eq_false, not_false_eq_true, and_self, List.length_cons, List.length_nil, mNoCut_, mCat_n, mCat_I, mCat_L, mCat_R, mIsL_n, mIsL_I, mIsL_R, mIsL_L, Nat.reduceAdd, Nat.reduceSub, Nat.reduceLeDiff, Nat.reduceLT, Nat.reduceEqDiff, Nat.zero_le, Int.reduceEq, Int.reduceLT, Int.reduceLE, Int.reduceNeg, Int.reduceAdd, if_true, if_false, reduceIte, reduceCtorEq, Bool.false_eq_true, ne_eq, qCmp_0, qCmp_1, qCmp_2, qCmp_3, qCmp_4, qCmp_5, ib_0, ib_1, ib_2, lb_0, lb_1, lb_2, dv_0, dv_1, wl_ic, wl_ld_i, wl_ld_a, wl_st_i, wl_ib, wl_goto, wl_ald, wl_ret1, wl_eqI, ldR1, ldR0, ldI4, mrg_1_, wl_callS3_4, SL_body_7, stI5, ldR2, wl_callV3_0, SL_body_122, wl_callV1_0, SL_body_104, ldI5, mrg_0_, mPut_s, mPut_I0, mPut_R0, mPut_L0, mPut_I1, mPut_R1, mPut_L1, mGoL_n, mGoL_c, mMask_t, mMask_f, mMask_n, cutL_body_888, sfxL_body_888, cutL_body_3066, kL_body_843, kL_body_888, sk_0, al_0, sk_200, al_200, sk_230, al_230, sn_230, ald_r2, ald_230, shqR_, spX11_thrown, Option.some.injEq, ncast, b1, b2, b3, b4, b5, c1, c2, c3, c4, c5, m1, m2, m3, m4, m5]
  refine ⟨_, P_batter H (hf _) (hf _), fun o I1 hq => ?_⟩
  obtain ⟨k, rfl, hk, hq⟩ := hq
  simp only [false_and, and_false, true_or, or_true, false_or, or_false, true_and, and_true, true_implies, false_implies, implies_true, not_true_eq_false, not_false_eq_true, and_self, List.length_cons, List.length_nil, mNoCut_, mCat_n, mCat_I, mCat_L, mCat_R, mIsL_n, mIsL_I, mIsL_R, mIsL_L, Nat.reduceAdd, Nat.reduceSub, Nat.reduceLeDiff, Nat.reduceLT, Nat.reduceEqDiff, Nat.zero_le, Int.reduceEq, Int.reduceLT, Int.reduceLE, Int.reduceNeg, Int.reduceAdd, if_true, if_false, reduceIte, reduceCtorEq, Bool.false_eq_true, ne_eq, qCmp_0, qCmp_1, qCmp_2, qCmp_3, qCmp_4, qCmp_5, ib_0, ib_1, ib_2, lb_0, lb_1, lb_2, dv_0, dv_1, wl_ic, wl_ld_i, wl_ld_a, wl_st_i, wl_ib, wl_goto, wl_ald, wl_ret1, wl_eqI, ldR1, ldR0, ldI4, mrg_1_, wl_callS3_4, SL_body_7, stI5, ldR2, wl_callV3_0, SL_body_122, wl_callV1_0, SL_body_104, ldI5, mrg_0_, mPut_s, mPut_I0, mPut_R0, mPut_L0, mPut_I1, mPut_R1, mPut_L1, mGoL_n, mGoL_c, mMask_t, mMask_f, mMask_n, cutL_body_888, sfxL_body_888, cutL_body_3066, kL_body_843, kL_body_888, sk_0, al_0, sk_200, al_200, sk_230, al_230, sn_230, ald_r2, ald_230, shqR_, spX11_thrown, Option.some.injEq, ncast, b1, b2, b3, b4, b5, c1, c2, c3, c4, c5, m1, m2, m3, m4, m5]
  refine ⟨_, hq, fun o2 I2 h2 => ?_⟩
  obtain ⟨rfl, h3, hI2⟩ := h2
  simp only [false_and, and_false, true_or, or_true, false_or, or_false, true_and, and_true, true_implies, false_implies, implies_true, not_true_eq_false, not_false_eq_true, and_self, List.length_cons, List.length_nil, mNoCut_, mCat_n, mCat_I, mCat_L, mCat_R, mIsL_n, mIsL_I, mIsL_R, mIsL_L, Nat.reduceAdd, Nat.reduceSub, Nat.reduceLeDiff, Nat.reduceLT, Nat.reduceEqDiff, Nat.zero_le, Int.reduceEq, Int.reduceLT, Int.reduceLE, Int.reduceNeg, Int.reduceAdd, if_true, if_false, reduceIte, reduceCtorEq, Bool.false_eq_true, ne_eq, qCmp_0, qCmp_1, qCmp_2, qCmp_3, qCmp_4, qCmp_5, ib_0, ib_1, ib_2, lb_0, lb_1, lb_2, dv_0, dv_1, wl_ic, wl_ld_i, wl_ld_a, wl_st_i, wl_ib, wl_goto, wl_ald, wl_ret1, wl_eqI, ldR1, ldR0, ldI4, mrg_1_, wl_callS3_4, SL_body_7, stI5, ldR2, wl_callV3_0, SL_body_122, wl_callV1_0, SL_body_104, ldI5, mrg_0_, mPut_s, mPut_I0, mPut_R0, mPut_L0, mPut_I1, mPut_R1, mPut_L1, mGoL_n, mGoL_c, mMask_t, mMask_f, mMask_n, cutL_body_888, sfxL_body_888, cutL_body_3066, kL_body_843, kL_body_888, sk_0, al_0, sk_200, al_200, sk_230, al_230, sn_230, ald_r2, ald_230, shqR_, spX11_thrown, Option.some.injEq, ncast, b1, b2, b3, b4, b5, c1, c2, c3, c4, c5, m1, m2, m3, m4, m5]
  have hC : CL i fl L I 3066 (lvL i) [] I2 := ⟨rfl, rfl, Or.inl ⟨rfl, hI2⟩⟩
  repeat' (first | exact hC | exact h3 | apply And.intro | intro _)
  all_goals first | exact h3 | (unfold mrg; omega) | omega
set_option maxRecDepth 100000 in
theorem W_11 {fl : Nat → Bool} {I : mM} {f : Int → Int} {L : Nat} {i : Int} (H : LI fl I) (hi : 0 ≤ i) (hL : i + 6 ≤ (L : Int)) (hf : ∀ q : Int, mrg (f q)) : wlP fl L f i I kL_body_891 I := by
  unfold wlP
  have b1 : (0 ≤ i + 1) = True := eq_true (by omega)
  have c1 : (i + 1 < (L : Int)) = True := eq_true (by omega)
  have m1 : mrg (f (i + 1)) = True := eq_true (hf _)
  have b2 : (0 ≤ i + 2) = True := eq_true (by omega)
  have c2 : (i + 2 < (L : Int)) = True := eq_true (by omega)
  have m2 : mrg (f (i + 2)) = True := eq_true (hf _)
  have b3 : (0 ≤ i + 3) = True := eq_true (by omega)
  have c3 : (i + 3 < (L : Int)) = True := eq_true (by omega)
  have m3 : mrg (f (i + 3)) = True := eq_true (hf _)
  have b4 : (0 ≤ i + 4) = True := eq_true (by omega)
  have c4 : (i + 4 < (L : Int)) = True := eq_true (by omega)
  have m4 : mrg (f (i + 4)) = True := eq_true (hf _)
  have b5 : (0 ≤ i + 5) = True := eq_true (by omega)
  have c5 : (i + 5 < (L : Int)) = True := eq_true (by omega)
  have m5 : mrg (f (i + 5)) = True := eq_true (hf _)
  simp only [false_and, and_false, true_or, or_true, false_or, or_false, true_and, and_true, true_implies, false_implies, implies_true, not_true_eq_false, not_false_eq_true, and_self, List.length_cons, List.length_nil, mNoCut_, mCat_n, mCat_I, mCat_L, mCat_R, mIsL_n, mIsL_I, mIsL_R, mIsL_L, Nat.reduceAdd, Nat.reduceSub, Nat.reduceLeDiff, Nat.reduceLT, Nat.reduceEqDiff, Nat.zero_le, Int.reduceEq, Int.reduceLT, Int.reduceLE, Int.reduceNeg, Int.reduceAdd, if_true, if_false, reduceIte, reduceCtorEq, Bool.false_eq_true, ne_eq, qCmp_0, qCmp_1, qCmp_2, qCmp_3, qCmp_4, qCmp_5, ib_0, ib_1, ib_2, lb_0, lb_1, lb_2, dv_0, dv_1, wl_ic, wl_ld_i, wl_ld_a, wl_st_i, wl_ib, wl_if, mrg_0_, wl_goto, wl_ald, wl_ret1, wl_eqI, wl_eqL, wl_i2x, ldR1, ldR0, ldI4, mrg_1_, ldR3, wl_callS4_4, SL_body_8, stI5, ldR2, wl_callV3_0, SL_body_124, stI6, wl_callV1_0, SL_body_104, ldI5, ldI6, mPut_s, mPut_I0, mPut_R0, mPut_L0, mPut_I1, mPut_R1, mPut_L1, mGoL_n, mGoL_c, mMask_t, mMask_f, mMask_n, cutL_body_939, sfxL_body_939, cutL_body_956, sfxL_body_956, cutL_body_3066, kL_body_891, kL_body_939, kL_body_956, sk_0, al_0, sk_200, al_200, sk_230, al_230, sn_230, ald_r2, ald_230, shqR_, spX11_thrown, Option.some.injEq, ncast, b1, b2, b3, b4, b5, c1, c2, c3, c4, c5, m1, m2, m3, m4, m5]
  refine ⟨_, P_catcher H (hf _) (hf _), fun o I1 hq => ?_⟩
  obtain ⟨k, rfl, hk, hq⟩ := hq
  simp only [false_and, and_false, true_or, or_true, false_or, or_false, true_and, and_true, true_implies, false_implies, implies_true, not_true_eq_false, not_false_eq_true, and_self, List.length_cons, List.length_nil, mNoCut_, mCat_n, mCat_I, mCat_L, mCat_R, mIsL_n, mIsL_I, mIsL_R, mIsL_L, Nat.reduceAdd, Nat.reduceSub, Nat.reduceLeDiff, Nat.reduceLT, Nat.reduceEqDiff, Nat.zero_le, Int.reduceEq, Int.reduceLT, Int.reduceLE, Int.reduceNeg, Int.reduceAdd, if_true, if_false, reduceIte, reduceCtorEq, Bool.false_eq_true, ne_eq, qCmp_0, qCmp_1, qCmp_2, qCmp_3, qCmp_4, qCmp_5, ib_0, ib_1, ib_2, lb_0, lb_1, lb_2, dv_0, dv_1, wl_ic, wl_ld_i, wl_ld_a, wl_st_i, wl_ib, wl_if, mrg_0_, wl_goto, wl_ald, wl_ret1, wl_eqI, wl_eqL, wl_i2x, ldR1, ldR0, ldI4, mrg_1_, ldR3, wl_callS4_4, SL_body_8, stI5, ldR2, wl_callV3_0, SL_body_124, stI6, wl_callV1_0, SL_body_104, ldI5, ldI6, mPut_s, mPut_I0, mPut_R0, mPut_L0, mPut_I1, mPut_R1, mPut_L1, mGoL_n, mGoL_c, mMask_t, mMask_f, mMask_n, cutL_body_939, sfxL_body_939, cutL_body_956, sfxL_body_956, cutL_body_3066, kL_body_891, kL_body_939, kL_body_956, sk_0, al_0, sk_200, al_200, sk_230, al_230, sn_230, ald_r2, ald_230, shqR_, spX11_thrown, Option.some.injEq, ncast, b1, b2, b3, b4, b5, c1, c2, c3, c4, c5, m1, m2, m3, m4, m5]
  refine ⟨_, hq, fun o2 I2 h2 => ?_⟩
  obtain ⟨b, rfl, h3, h0, hI2⟩ := h2
  simp only [false_and, and_false, true_or, or_true, false_or, or_false, true_and, and_true, true_implies, false_implies, implies_true, not_true_eq_false, not_false_eq_true, and_self, List.length_cons, List.length_nil, mNoCut_, mCat_n, mCat_I, mCat_L, mCat_R, mIsL_n, mIsL_I, mIsL_R, mIsL_L, Nat.reduceAdd, Nat.reduceSub, Nat.reduceLeDiff, Nat.reduceLT, Nat.reduceEqDiff, Nat.zero_le, Int.reduceEq, Int.reduceLT, Int.reduceLE, Int.reduceNeg, Int.reduceAdd, if_true, if_false, reduceIte, reduceCtorEq, Bool.false_eq_true, ne_eq, qCmp_0, qCmp_1, qCmp_2, qCmp_3, qCmp_4, qCmp_5, ib_0, ib_1, ib_2, lb_0, lb_1, lb_2, dv_0, dv_1, wl_ic, wl_ld_i, wl_ld_a, wl_st_i, wl_ib, wl_if, mrg_0_, wl_goto, wl_ald, wl_ret1, wl_eqI, wl_eqL, wl_i2x, ldR1, ldR0, ldI4, mrg_1_, ldR3, wl_callS4_4, SL_body_8, stI5, ldR2, wl_callV3_0, SL_body_124, stI6, wl_callV1_0, SL_body_104, ldI5, ldI6, mPut_s, mPut_I0, mPut_R0, mPut_L0, mPut_I1, mPut_R1, mPut_L1, mGoL_n, mGoL_c, mMask_t, mMask_f, mMask_n, cutL_body_939, sfxL_body_939, cutL_body_956, sfxL_body_956, cutL_body_3066, kL_body_891, kL_body_939, kL_body_956, sk_0, al_0, sk_200, al_200, sk_230, al_230, sn_230, ald_r2, ald_230, shqR_, spX11_thrown, Option.some.injEq, ncast, b1, b2, b3, b4, b5, c1, c2, c3, c4, c5, m1, m2, m3, m4, m5]
  have hC : CL i fl L I 3066 (lvL i) [] I2 := ⟨rfl, rfl, Or.inl ⟨rfl, hI2⟩⟩
  repeat' (first | exact hC | exact h3 | apply And.intro | intro _)
  all_goals first | exact h3 | (unfold mrg; omega) | omega
set_option maxRecDepth 100000 in
theorem W_12 {fl : Nat → Bool} {I : mM} {f : Int → Int} {L : Nat} {i : Int} (H : LI fl I) (hi : 0 ≤ i) (hL : i + 6 ≤ (L : Int)) (hf : ∀ q : Int, mrg (f q)) : wlP fl L f i I kL_body_959 I := by
  unfold wlP
  have b1 : (0 ≤ i + 1) = True := eq_true (by omega)
  have c1 : (i + 1 < (L : Int)) = True := eq_true (by omega)
  have m1 : mrg (f (i + 1)) = True := eq_true (hf _)
  have b2 : (0 ≤ i + 2) = True := eq_true (by omega)
  have c2 : (i + 2 < (L : Int)) = True := eq_true (by omega)
  have m2 : mrg (f (i + 2)) = True := eq_true (hf _)
  have b3 : (0 ≤ i + 3) = True := eq_true (by omega)
  have c3 : (i + 3 < (L : Int)) = True := eq_true (by omega)
  have m3 : mrg (f (i + 3)) = True := eq_true (hf _)
  have b4 : (0 ≤ i + 4) = True := eq_true (by omega)
  have c4 : (i + 4 < (L : Int)) = True := eq_true (by omega)
  have m4 : mrg (f (i + 4)) = True := eq_true (hf _)
  have b5 : (0 ≤ i + 5) = True := eq_true (by omega)
  have c5 : (i + 5 < (L : Int)) = True := eq_true (by omega)
  have m5 : mrg (f (i + 5)) = True := eq_true (hf _)
  simp only [false_and, and_false, true_or, or_true, false_or, or_false, true_and, and_true, true_implies, false_implies, implies_true, not_true_eq_false, not_false_eq_true, and_self, List.length_cons, List.length_nil, mNoCut_, mCat_n, mCat_I, mCat_L, mCat_R, mIsL_n, mIsL_I, mIsL_R, mIsL_L, Nat.reduceAdd, Nat.reduceSub, Nat.reduceLeDiff, Nat.reduceLT, Nat.reduceEqDiff, Nat.zero_le, Int.reduceEq, Int.reduceLT, Int.reduceLE, Int.reduceNeg, Int.reduceAdd, if_true, if_false, reduceIte, reduceCtorEq, Bool.false_eq_true, ne_eq, qCmp_0, qCmp_1, qCmp_2, qCmp_3, qCmp_4, qCmp_5, ib_0, ib_1, ib_2, lb_0, lb_1, lb_2, dv_0, dv_1, wl_ic, wl_ld_i, wl_ld_a, wl_st_i, wl_ib, wl_if, mrg_0_, wl_goto, wl_ald, wl_ret1, wl_eqI, wl_eqL, wl_i2x, ldR1, ldR0, ldI4, mrg_1_, ldR3, wl_callS4_4, SL_body_9, stI5, ldR2, wl_callV3_0, SL_body_126, stI6, wl_callV1_0, SL_body_104, ldI5, ldI6, mPut_s, mPut_I0, mPut_R0, mPut_L0, mPut_I1, mPut_R1, mPut_L1, mGoL_n, mGoL_c, mMask_t, mMask_f, mMask_n, cutL_body_1007, sfxL_body_1007, cutL_body_1024, sfxL_body_1024, cutL_body_3066, kL_body_959, kL_body_1007, kL_body_1024, sk_0, al_0, sk_200, al_200, sk_230, al_230, sn_230, ald_r2, ald_230, shqR_, spX11_thrown, Option.some.injEq, ncast, b1, b2, b3, b4, b5, c1, c2, c3, c4, c5, m1, m2, m3, m4, m5]
  refine ⟨_, P_caught H (hf _) (hf _), fun o I1 hq => ?_⟩
  obtain ⟨k, rfl, hk, hq⟩ := hq
  simp only [false_and, and_false, true_or, or_true, false_or, or_false, true_and, and_true, true_implies, false_implies, implies_true, not_true_eq_false, not_false_eq_true, and_self, List.length_cons, List.length_nil, mNoCut_, mCat_n, mCat_I, mCat_L, mCat_R, mIsL_n, mIsL_I, mIsL_R, mIsL_L, Nat.reduceAdd, Nat.reduceSub, Nat.reduceLeDiff, Nat.reduceLT, Nat.reduceEqDiff, Nat.zero_le, Int.reduceEq, Int.reduceLT, Int.reduceLE, Int.reduceNeg, Int.reduceAdd, if_true, if_false, reduceIte, reduceCtorEq, Bool.false_eq_true, ne_eq, qCmp_0, qCmp_1, qCmp_2, qCmp_3, qCmp_4, qCmp_5, ib_0, ib_1, ib_2, lb_0, lb_1, lb_2, dv_0, dv_1, wl_ic, wl_ld_i, wl_ld_a, wl_st_i, wl_ib, wl_if, mrg_0_, wl_goto, wl_ald, wl_ret1, wl_eqI, wl_eqL, wl_i2x, ldR1, ldR0, ldI4, mrg_1_, ldR3, wl_callS4_4, SL_body_9, stI5, ldR2, wl_callV3_0, SL_body_126, stI6, wl_callV1_0, SL_body_104, ldI5, ldI6, mPut_s, mPut_I0, mPut_R0, mPut_L0, mPut_I1, mPut_R1, mPut_L1, mGoL_n, mGoL_c, mMask_t, mMask_f, mMask_n, cutL_body_1007, sfxL_body_1007, cutL_body_1024, sfxL_body_1024, cutL_body_3066, kL_body_959, kL_body_1007, kL_body_1024, sk_0, al_0, sk_200, al_200, sk_230, al_230, sn_230, ald_r2, ald_230, shqR_, spX11_thrown, Option.some.injEq, ncast, b1, b2, b3, b4, b5, c1, c2, c3, c4, c5, m1, m2, m3, m4, m5]
  refine ⟨_, hq, fun o2 I2 h2 => ?_⟩
  obtain ⟨b, rfl, h3, h0, hI2⟩ := h2
  simp only [false_and, and_false, true_or, or_true, false_or, or_false, true_and, and_true, true_implies, false_implies, implies_true, not_true_eq_false, not_false_eq_true, and_self, List.length_cons, List.length_nil, mNoCut_, mCat_n, mCat_I, mCat_L, mCat_R, mIsL_n, mIsL_I, mIsL_R, mIsL_L, Nat.reduceAdd, Nat.reduceSub, Nat.reduceLeDiff, Nat.reduceLT, Nat.reduceEqDiff, Nat.zero_le, Int.reduceEq, Int.reduceLT, Int.reduceLE, Int.reduceNeg, Int.reduceAdd, if_true, if_false, reduceIte, reduceCtorEq, Bool.false_eq_true, ne_eq, qCmp_0, qCmp_1, qCmp_2, qCmp_3, qCmp_4, qCmp_5, ib_0, ib_1, ib_2, lb_0, lb_1, lb_2, dv_0, dv_1, wl_ic, wl_ld_i, wl_ld_a, wl_st_i, wl_ib, wl_if, mrg_0_, wl_goto, wl_ald, wl_ret1, wl_eqI, wl_eqL, wl_i2x, ldR1, ldR0, ldI4, mrg_1_, ldR3, wl_callS4_4, SL_body_9, stI5, ldR2, wl_callV3_0, SL_body_126, stI6, wl_callV1_0, SL_body_104, ldI5, ldI6, mPut_s, mPut_I0, mPut_R0, mPut_L0, mPut_I1, mPut_R1, mPut_L1, mGoL_n, mGoL_c, mMask_t, mMask_f, mMask_n, cutL_body_1007, sfxL_body_1007, cutL_body_1024, sfxL_body_1024, cutL_body_3066, kL_body_959, kL_body_1007, kL_body_1024, sk_0, al_0, sk_200, al_200, sk_230, al_230, sn_230, ald_r2, ald_230, shqR_, spX11_thrown, Option.some.injEq, ncast, b1, b2, b3, b4, b5, c1, c2, c3, c4, c5, m1, m2, m3, m4, m5]
  have hC : CL i fl L I 3066 (lvL i) [] I2 := ⟨rfl, rfl, Or.inl ⟨rfl, hI2⟩⟩
  repeat' (first | exact hC | exact h3 | apply And.intro | intro _)
  all_goals first | exact h3 | (unfold mrg; omega) | omega
set_option maxRecDepth 100000 in
theorem W_13 {fl : Nat → Bool} {I : mM} {f : Int → Int} {L : Nat} {i : Int} (H : LI fl I) (hi : 0 ≤ i) (hL : i + 6 ≤ (L : Int)) (hf : ∀ q : Int, mrg (f q)) : wlP fl L f i I kL_body_1027 I := by
  unfold wlP
  have b1 : (0 ≤ i + 1) = True := eq_true (by omega)
  have c1 : (i + 1 < (L : Int)) = True := eq_true (by omega)
  have m1 : mrg (f (i + 1)) = True := eq_true (hf _)
  have b2 : (0 ≤ i + 2) = True := eq_true (by omega)
  have c2 : (i + 2 < (L : Int)) = True := eq_true (by omega)
  have m2 : mrg (f (i + 2)) = True := eq_true (hf _)
  have b3 : (0 ≤ i + 3) = True := eq_true (by omega)
  have c3 : (i + 3 < (L : Int)) = True := eq_true (by omega)
  have m3 : mrg (f (i + 3)) = True := eq_true (hf _)
  have b4 : (0 ≤ i + 4) = True := eq_true (by omega)
  have c4 : (i + 4 < (L : Int)) = True := eq_true (by omega)
  have m4 : mrg (f (i + 4)) = True := eq_true (hf _)
  have b5 : (0 ≤ i + 5) = True := eq_true (by omega)
  have c5 : (i + 5 < (L : Int)) = True := eq_true (by omega)
  have m5 : mrg (f (i + 5)) = True := eq_true (hf _)
  simp only [false_and, and_false, true_or, or_true, false_or, or_false, true_and, and_true, true_implies, false_implies, implies_true, not_true_eq_false, not_false_eq_true, and_self, List.length_cons, List.length_nil, mNoCut_, mCat_n, mCat_I, mCat_L, mCat_R, mIsL_n, mIsL_I, mIsL_R, mIsL_L, Nat.reduceAdd, Nat.reduceSub, Nat.reduceLeDiff, Nat.reduceLT, Nat.reduceEqDiff, Nat.zero_le, Int.reduceEq, Int.reduceLT, Int.reduceLE, Int.reduceNeg, Int.reduceAdd, if_true, if_false, reduceIte, reduceCtorEq, Bool.false_eq_true, ne_eq, qCmp_0, qCmp_1, qCmp_2, qCmp_3, qCmp_4, qCmp_5, ib_0, ib_1, ib_2, lb_0, lb_1, lb_2, dv_0, dv_1, wl_ic, wl_ld_i, wl_ld_a, wl_st_i, wl_ib, wl_if, mrg_0_, wl_goto, wl_ald, wl_ret1, wl_eqI, wl_eqL, wl_i2x, ldR1, ldR0, ldI4, mrg_1_, ldR3, wl_callS4_4, SL_body_10, stI5, ldR2, wl_callV3_0, SL_body_128, stI6, wl_callV1_0, SL_body_104, ldI5, ldI6, mPut_s, mPut_I0, mPut_R0, mPut_L0, mPut_I1, mPut_R1, mPut_L1, mGoL_n, mGoL_c, mMask_t, mMask_f, mMask_n, cutL_body_1075, sfxL_body_1075, cutL_body_1092, sfxL_body_1092, cutL_body_3066, kL_body_1027, kL_body_1075, kL_body_1092, sk_0, al_0, sk_200, al_200, sk_230, al_230, sn_230, ald_r2, ald_230, shqR_, spX11_thrown, Option.some.injEq, ncast, b1, b2, b3, b4, b5, c1, c2, c3, c4, c5, m1, m2, m3, m4, m5]
  refine ⟨_, P_stopper H (hf _) (hf _), fun o I1 hq => ?_⟩
  obtain ⟨k, rfl, hk, hq⟩ := hq
  simp only [false_and, and_false, true_or, or_true, false_or, or_false, true_and, and_true, true_implies, false_implies, implies_true, not_true_eq_false, not_false_eq_true, and_self, List.length_cons, List.length_nil, mNoCut_, mCat_n, mCat_I, mCat_L, mCat_R, mIsL_n, mIsL_I, mIsL_R, mIsL_L, Nat.reduceAdd, Nat.reduceSub, Nat.reduceLeDiff, Nat.reduceLT, Nat.reduceEqDiff, Nat.zero_le, Int.reduceEq, Int.reduceLT, Int.reduceLE, Int.reduceNeg, Int.reduceAdd, if_true, if_false, reduceIte, reduceCtorEq, Bool.false_eq_true, ne_eq, qCmp_0, qCmp_1, qCmp_2, qCmp_3, qCmp_4, qCmp_5, ib_0, ib_1, ib_2, lb_0, lb_1, lb_2, dv_0, dv_1, wl_ic, wl_ld_i, wl_ld_a, wl_st_i, wl_ib, wl_if, mrg_0_, wl_goto, wl_ald, wl_ret1, wl_eqI, wl_eqL, wl_i2x, ldR1, ldR0, ldI4, mrg_1_, ldR3, wl_callS4_4, SL_body_10, stI5, ldR2, wl_callV3_0, SL_body_128, stI6, wl_callV1_0, SL_body_104, ldI5, ldI6, mPut_s, mPut_I0, mPut_R0, mPut_L0, mPut_I1, mPut_R1, mPut_L1, mGoL_n, mGoL_c, mMask_t, mMask_f, mMask_n, cutL_body_1075, sfxL_body_1075, cutL_body_1092, sfxL_body_1092, cutL_body_3066, kL_body_1027, kL_body_1075, kL_body_1092, sk_0, al_0, sk_200, al_200, sk_230, al_230, sn_230, ald_r2, ald_230, shqR_, spX11_thrown, Option.some.injEq, ncast, b1, b2, b3, b4, b5, c1, c2, c3, c4, c5, m1, m2, m3, m4, m5]
  refine ⟨_, hq, fun o2 I2 h2 => ?_⟩
  obtain ⟨b, rfl, h3, h0, hI2⟩ := h2
  simp only [false_and, and_false, true_or, or_true, false_or, or_false, true_and, and_true, true_implies, false_implies, implies_true, not_true_eq_false, not_false_eq_true, and_self, List.length_cons, List.length_nil, mNoCut_, mCat_n, mCat_I, mCat_L, mCat_R, mIsL_n, mIsL_I, mIsL_R, mIsL_L, Nat.reduceAdd, Nat.reduceSub, Nat.reduceLeDiff, Nat.reduceLT, Nat.reduceEqDiff, Nat.zero_le, Int.reduceEq, Int.reduceLT, Int.reduceLE, Int.reduceNeg, Int.reduceAdd, if_true, if_false, reduceIte, reduceCtorEq, Bool.false_eq_true, ne_eq, qCmp_0, qCmp_1, qCmp_2, qCmp_3, qCmp_4, qCmp_5, ib_0, ib_1, ib_2, lb_0, lb_1, lb_2, dv_0, dv_1, wl_ic, wl_ld_i, wl_ld_a, wl_st_i, wl_ib, wl_if, mrg_0_, wl_goto, wl_ald, wl_ret1, wl_eqI, wl_eqL, wl_i2x, ldR1, ldR0, ldI4, mrg_1_, ldR3, wl_callS4_4, SL_body_10, stI5, ldR2, wl_callV3_0, SL_body_128, stI6, wl_callV1_0, SL_body_104, ldI5, ldI6, mPut_s, mPut_I0, mPut_R0, mPut_L0, mPut_I1, mPut_R1, mPut_L1, mGoL_n, mGoL_c, mMask_t, mMask_f, mMask_n, cutL_body_1075, sfxL_body_1075, cutL_body_1092, sfxL_body_1092, cutL_body_3066, kL_body_1027, kL_body_1075, kL_body_1092, sk_0, al_0, sk_200, al_200, sk_230, al_230, sn_230, ald_r2, ald_230, shqR_, spX11_thrown, Option.some.injEq, ncast, b1, b2, b3, b4, b5, c1, c2, c3, c4, c5, m1, m2, m3, m4, m5]
  have hC : CL i fl L I 3066 (lvL i) [] I2 := ⟨rfl, rfl, Or.inl ⟨rfl, hI2⟩⟩
  repeat' (first | exact hC | exact h3 | apply And.intro | intro _)
  all_goals first | exact h3 | (unfold mrg; omega) | omega
set_option maxRecDepth 100000 in
theorem W_14 {fl : Nat → Bool} {I : mM} {f : Int → Int} {L : Nat} {i : Int} (H : LI fl I) (hi : 0 ≤ i) (hL : i + 6 ≤ (L : Int)) (hf : ∀ q : Int, mrg (f q)) : wlP fl L f i I kL_body_1095 I := by
  unfold wlP
  have b1 : (0 ≤ i + 1) = True := eq_true (by omega)
  have c1 : (i + 1 < (L : Int)) = True := eq_true (by omega)
  have m1 : mrg (f (i + 1)) = True := eq_true (hf _)
  have b2 : (0 ≤ i + 2) = True := eq_true (by omega)
  have c2 : (i + 2 < (L : Int)) = True := eq_true (by omega)
  have m2 : mrg (f (i + 2)) = True := eq_true (hf _)
  have b3 : (0 ≤ i + 3) = True := eq_true (by omega)
  have c3 : (i + 3 < (L : Int)) = True := eq_true (by omega)
  have m3 : mrg (f (i + 3)) = True := eq_true (hf _)
  have b4 : (0 ≤ i + 4) = True := eq_true (by omega)
  have c4 : (i + 4 < (L : Int)) = True := eq_true (by omega)
  have m4 : mrg (f (i + 4)) = True := eq_true (hf _)
  have b5 : (0 ≤ i + 5) = True := eq_true (by omega)
  have c5 : (i + 5 < (L : Int)) = True := eq_true (by omega)
  have m5 : mrg (f (i + 5)) = True := eq_true (hf _)
  simp only [false_and, and_false, true_or, or_true, false_or, or_false, true_and, and_true, true_implies, false_implies, implies_true, not_true_eq_false, not_false_eq_true, and_self, List.length_cons, List.length_nil, mNoCut_, mCat_n, mCat_I, mCat_L, mCat_R, mIsL_n, mIsL_I, mIsL_R, mIsL_L, Nat.reduceAdd, Nat.reduceSub, Nat.reduceLeDiff, Nat.reduceLT, Nat.reduceEqDiff, Nat.zero_le, Int.reduceEq, Int.reduceLT, Int.reduceLE, Int.reduceNeg, Int.reduceAdd, if_true, if_false, reduceIte, reduceCtorEq, Bool.false_eq_true, ne_eq, qCmp_0, qCmp_1, qCmp_2, qCmp_3, qCmp_4, qCmp_5, ib_0, ib_1, ib_2, lb_0, lb_1, lb_2, dv_0, dv_1, wl_ic, wl_ld_i, wl_ld_a, wl_st_i, wl_ib, wl_if, mrg_0_, wl_goto, wl_ald, wl_ret1, wl_eqI, wl_eqL, wl_i2x, ldR1, ldR0, ldI4, mrg_1_, ldR3, wl_callS4_4, SL_body_11, stI5, ldR2, wl_callV3_0, SL_body_130, stI6, wl_callV1_0, SL_body_104, ldI5, ldI6, mPut_s, mPut_I0, mPut_R0, mPut_L0, mPut_I1, mPut_R1, mPut_L1, mGoL_n, mGoL_c, mMask_t, mMask_f, mMask_n, cutL_body_1143, sfxL_body_1143, cutL_body_1160, sfxL_body_1160, cutL_body_3066, kL_body_1095, kL_body_1143, kL_body_1160, sk_0, al_0, sk_200, al_200, sk_230, al_230, sn_230, ald_r2, ald_230, shqR_, spX11_thrown, Option.some.injEq, ncast, b1, b2, b3, b4, b5, c1, c2, c3, c4, c5, m1, m2, m3, m4, m5]
  refine ⟨_, P_stops H (hf _) (hf _), fun o I1 hq => ?_⟩
  obtain ⟨k, rfl, hk, hq⟩ := hq
  simp only [false_and, and_false, true_or, or_true, false_or, or_false, true_and, and_true, true_implies, false_implies, implies_true, not_true_eq_false, not_false_eq_true, and_self, List.length_cons, List.length_nil, mNoCut_, mCat_n, mCat_I, mCat_L, mCat_R, mIsL_n, mIsL_I, mIsL_R, mIsL_L, Nat.reduceAdd, Nat.reduceSub, Nat.reduceLeDiff, Nat.reduceLT, Nat.reduceEqDiff, Nat.zero_le, Int.reduceEq, Int.reduceLT, Int.reduceLE, Int.reduceNeg, Int.reduceAdd, if_true, if_false, reduceIte, reduceCtorEq, Bool.false_eq_true, ne_eq, qCmp_0, qCmp_1, qCmp_2, qCmp_3, qCmp_4, qCmp_5, ib_0, ib_1, ib_2, lb_0, lb_1, lb_2, dv_0, dv_1, wl_ic, wl_ld_i, wl_ld_a, wl_st_i, wl_ib, wl_if, mrg_0_, wl_goto, wl_ald, wl_ret1, wl_eqI, wl_eqL, wl_i2x, ldR1, ldR0, ldI4, mrg_1_, ldR3, wl_callS4_4, SL_body_11, stI5, ldR2, wl_callV3_0, SL_body_130, stI6, wl_callV1_0, SL_body_104, ldI5, ldI6, mPut_s, mPut_I0, mPut_R0, mPut_L0, mPut_I1, mPut_R1, mPut_L1, mGoL_n, mGoL_c, mMask_t, mMask_f, mMask_n, cutL_body_1143, sfxL_body_1143, cutL_body_1160, sfxL_body_1160, cutL_body_3066, kL_body_1095, kL_body_1143, kL_body_1160, sk_0, al_0, sk_200, al_200, sk_230, al_230, sn_230, ald_r2, ald_230, shqR_, spX11_thrown, Option.some.injEq, ncast, b1, b2, b3, b4, b5, c1, c2, c3, c4, c5, m1, m2, m3, m4, m5]
  refine ⟨_, hq, fun o2 I2 h2 => ?_⟩
  obtain ⟨b, rfl, h3, h0, hI2⟩ := h2
  simp only [false_and, and_false, true_or, or_true, false_or, or_false, true_and, and_true, true_implies, false_implies, implies_true, not_true_eq_false, not_false_eq_true, and_self, List.length_cons, List.length_nil, mNoCut_, mCat_n, mCat_I, mCat_L, mCat_R, mIsL_n, mIsL_I, mIsL_R, mIsL_L, Nat.reduceAdd, Nat.reduceSub, Nat.reduceLeDiff, Nat.reduceLT, Nat.reduceEqDiff, Nat.zero_le, Int.reduceEq, Int.reduceLT, Int.reduceLE, Int.reduceNeg, Int.reduceAdd, if_true, if_false, reduceIte, reduceCtorEq, Bool.false_eq_true, ne_eq, qCmp_0, qCmp_1, qCmp_2, qCmp_3, qCmp_4, qCmp_5, ib_0, ib_1, ib_2, lb_0, lb_1, lb_2, dv_0, dv_1, wl_ic, wl_ld_i, wl_ld_a, wl_st_i, wl_ib, wl_if, mrg_0_, wl_goto, wl_ald, wl_ret1, wl_eqI, wl_eqL, wl_i2x, ldR1, ldR0, ldI4, mrg_1_, ldR3, wl_callS4_4, SL_body_11, stI5, ldR2, wl_callV3_0, SL_body_130, stI6, wl_callV1_0, SL_body_104, ldI5, ldI6, mPut_s, mPut_I0, mPut_R0, mPut_L0, mPut_I1, mPut_R1, mPut_L1, mGoL_n, mGoL_c, mMask_t, mMask_f, mMask_n, cutL_body_1143, sfxL_body_1143, cutL_body_1160, sfxL_body_1160, cutL_body_3066, kL_body_1095, kL_body_1143, kL_body_1160, sk_0, al_0, sk_200, al_200, sk_230, al_230, sn_230, ald_r2, ald_230, shqR_, spX11_thrown, Option.some.injEq, ncast, b1, b2, b3, b4, b5, c1, c2, c3, c4, c5, m1, m2, m3, m4, m5]
  have hC : CL i fl L I 3066 (lvL i) [] I2 := ⟨rfl, rfl, Or.inl ⟨rfl, hI2⟩⟩
  repeat' (first | exact hC | exact h3 | apply And.intro | intro _)
  all_goals first | exact h3 | (unfold mrg; omega) | omega
set_option maxRecDepth 100000 in
theorem W_15 {fl : Nat → Bool} {I : mM} {f : Int → Int} {L : Nat} {i : Int} (H : LI fl I) (hi : 0 ≤ i) (hL : i + 6 ≤ (L : Int)) (hf : ∀ q : Int, mrg (f q)) : wlP fl L f i I kL_body_1163 I := by
  unfold wlP
  have b1 : (0 ≤ i + 1) = True := eq_true (by omega)
  have c1 : (i + 1 < (L : Int)) = True := eq_true (by omega)
  have m1 : mrg (f (i + 1)) = True := eq_true (hf _)
  have b2 : (0 ≤ i + 2) = True := eq_true (by omega)
  have c2 : (i + 2 < (L : Int)) = True := eq_true (by omega)
  have m2 : mrg (f (i + 2)) = True := eq_true (hf _)
  have b3 : (0 ≤ i + 3) = True := eq_true (by omega)
  have c3 : (i + 3 < (L : Int)) = True := eq_true (by omega)
  have m3 : mrg (f (i + 3)) = True := eq_true (hf _)
  have b4 : (0 ≤ i + 4) = True := eq_true (by omega)
  have c4 : (i + 4 < (L : Int)) = True := eq_true (by omega)
  have m4 : mrg (f (i + 4)) = True := eq_true (hf _)
  have b5 : (0 ≤ i + 5) = True := eq_true (by omega)
  have c5 : (i + 5 < (L : Int)) = True := eq_true (by omega)
  have m5 : mrg (f (i + 5)) = True := eq_true (hf _)
  simp only [false_and, and_false, true_or, or_true, false_or, or_false, true_and, and_true, true_implies, false_implies, implies_true, not_true_eq_false, not_false_eq_true, and_self, List.length_cons, List.length_nil, mNoCut_, mCat_n, mCat_I, mCat_L, mCat_R, mIsL_n, mIsL_I, mIsL_R, mIsL_L, Nat.reduceAdd, Nat.reduceSub, Nat.reduceLeDiff, Nat.reduceLT, Nat.reduceEqDiff, Nat.zero_le, Int.reduceEq, Int.reduceLT, Int.reduceLE, Int.reduceNeg, Int.reduceAdd, if_true, if_false, reduceIte, reduceCtorEq, Bool.false_eq_true, ne_eq, qCmp_0, qCmp_1, qCmp_2, qCmp_3, qCmp_4, qCmp_5, ib_0, ib_1, ib_2, lb_0, lb_1, lb_2, dv_0, dv_1, wl_ic, wl_ld_i, wl_ld_a, wl_st_i, wl_ib, wl_if, mrg_0_, wl_goto, wl_ald, wl_ret1, wl_eqI, wl_eqL, wl_i2x, ldR1, ldR0, ldI4, mrg_1_, ldR3, wl_callS4_4, SL_body_12, stI5, ldR2, wl_callV3_0, SL_body_132, stI6, wl_callV1_0, SL_body_104, ldI5, ldI6, mPut_s, mPut_I0, mPut_R0, mPut_L0, mPut_I1, mPut_R1, mPut_L1, mGoL_n, mGoL_c, mMask_t, mMask_f, mMask_n, cutL_body_1211, sfxL_body_1211, cutL_body_1228, sfxL_body_1228, cutL_body_3066, kL_body_1163, kL_body_1211, kL_body_1228, sk_0, al_0, sk_200, al_200, sk_230, al_230, sn_230, ald_r2, ald_230, shqR_, spX11_thrown, Option.some.injEq, ncast, b1, b2, b3, b4, b5, c1, c2, c3, c4, c5, m1, m2, m3, m4, m5]
  refine ⟨_, P_runs H (hf _) (hf _), fun o I1 hq => ?_⟩
  obtain ⟨k, rfl, hk, hq⟩ := hq
  simp only [false_and, and_false, true_or, or_true, false_or, or_false, true_and, and_true, true_implies, false_implies, implies_true, not_true_eq_false, not_false_eq_true, and_self, List.length_cons, List.length_nil, mNoCut_, mCat_n, mCat_I, mCat_L, mCat_R, mIsL_n, mIsL_I, mIsL_R, mIsL_L, Nat.reduceAdd, Nat.reduceSub, Nat.reduceLeDiff, Nat.reduceLT, Nat.reduceEqDiff, Nat.zero_le, Int.reduceEq, Int.reduceLT, Int.reduceLE, Int.reduceNeg, Int.reduceAdd, if_true, if_false, reduceIte, reduceCtorEq, Bool.false_eq_true, ne_eq, qCmp_0, qCmp_1, qCmp_2, qCmp_3, qCmp_4, qCmp_5, ib_0, ib_1, ib_2, lb_0, lb_1, lb_2, dv_0, dv_1, wl_ic, wl_ld_i, wl_ld_a, wl_st_i, wl_ib, wl_if, mrg_0_, wl_goto, wl_ald, wl_ret1, wl_eqI, wl_eqL, wl_i2x, ldR1, ldR0, ldI4, mrg_1_, ldR3, wl_callS4_4, SL_body_12, stI5, ldR2, wl_callV3_0, SL_body_132, stI6, wl_callV1_0, SL_body_104, ldI5, ldI6, mPut_s, mPut_I0, mPut_R0, mPut_L0, mPut_I1, mPut_R1, mPut_L1, mGoL_n, mGoL_c, mMask_t, mMask_f, mMask_n, cutL_body_1211, sfxL_body_1211, cutL_body_1228, sfxL_body_1228, cutL_body_3066, kL_body_1163, kL_body_1211, kL_body_1228, sk_0, al_0, sk_200, al_200, sk_230, al_230, sn_230, ald_r2, ald_230, shqR_, spX11_thrown, Option.some.injEq, ncast, b1, b2, b3, b4, b5, c1, c2, c3, c4, c5, m1, m2, m3, m4, m5]
  refine ⟨_, hq, fun o2 I2 h2 => ?_⟩
  obtain ⟨b, rfl, h3, h0, hI2⟩ := h2
  simp only [false_and, and_false, true_or, or_true, false_or, or_false, true_and, and_true, true_implies, false_implies, implies_true, not_true_eq_false, not_false_eq_true, and_self, List.length_cons, List.length_nil, mNoCut_, mCat_n, mCat_I, mCat_L, mCat_R, mIsL_n, mIsL_I, mIsL_R, mIsL_L, Nat.reduceAdd, Nat.reduceSub, Nat.reduceLeDiff, Nat.reduceLT, Nat.reduceEqDiff, Nat.zero_le, Int.reduceEq, Int.reduceLT, Int.reduceLE, Int.reduceNeg, Int.reduceAdd, if_true, if_false, reduceIte, reduceCtorEq, Bool.false_eq_true, ne_eq, qCmp_0, qCmp_1, qCmp_2, qCmp_3, qCmp_4, qCmp_5, ib_0, ib_1, ib_2, lb_0, lb_1, lb_2, dv_0, dv_1, wl_ic, wl_ld_i, wl_ld_a, wl_st_i, wl_ib, wl_if, mrg_0_, wl_goto, wl_ald, wl_ret1, wl_eqI, wl_eqL, wl_i2x, ldR1, ldR0, ldI4, mrg_1_, ldR3, wl_callS4_4, SL_body_12, stI5, ldR2, wl_callV3_0, SL_body_132, stI6, wl_callV1_0, SL_body_104, ldI5, ldI6, mPut_s, mPut_I0, mPut_R0, mPut_L0, mPut_I1, mPut_R1, mPut_L1, mGoL_n, mGoL_c, mMask_t, mMask_f, mMask_n, cutL_body_1211, sfxL_body_1211, cutL_body_1228, sfxL_body_1228, cutL_body_3066, kL_body_1163, kL_body_1211, kL_body_1228, sk_0, al_0, sk_200, al_200, sk_230, al_230, sn_230, ald_r2, ald_230, shqR_, spX11_thrown, Option.some.injEq, ncast, b1, b2, b3, b4, b5, c1, c2, c3, c4, c5, m1, m2, m3, m4, m5]
  have hC : CL i fl L I 3066 (lvL i) [] I2 := ⟨rfl, rfl, Or.inl ⟨rfl, hI2⟩⟩
  repeat' (first | exact hC | exact h3 | apply And.intro | intro _)
  all_goals first | exact h3 | (unfold mrg; omega) | omega
set_option maxRecDepth 100000 in
theorem W_16 {fl : Nat → Bool} {I : mM} {f : Int → Int} {L : Nat} {i : Int} (H : LI fl I) (hi : 0 ≤ i) (hL : i + 6 ≤ (L : Int)) (hf : ∀ q : Int, mrg (f q)) : wlP fl L f i I kL_body_1231 I := by
  unfold wlP
  have b1 : (0 ≤ i + 1) = True := eq_true (by omega)
  have c1 : (i + 1 < (L : Int)) = True := eq_true (by omega)
  have m1 : mrg (f (i + 1)) = True := eq_true (hf _)
  have b2 : (0 ≤ i + 2) = True := eq_true (by omega)
  have c2 : (i + 2 < (L : Int)) = True := eq_true (by omega)
  have m2 : mrg (f (i + 2)) = True := eq_true (hf _)
  have b3 : (0 ≤ i + 3) = True := eq_true (by omega)
  have c3 : (i + 3 < (L : Int)) = True := eq_true (by omega)
  have m3 : mrg (f (i + 3)) = True := eq_true (hf _)
  have b4 : (0 ≤ i + 4) = True := eq_true (by omega)
  have c4 : (i + 4 < (L : Int)) = True := eq_true (by omega)
  have m4 : mrg (f (i + 4)) = True := eq_true (hf _)
  have b5 : (0 ≤ i + 5) = True := eq_true (by omega)
  have c5 : (i + 5 < (L : Int)) = True := eq_true (by omega)
  have m5 : mrg (f (i + 5)) = True := eq_true (hf _)
  simp only [false_and, and_false, true_or, or_true, false_or, or_false, true_and, and_true, true_implies, false_implies, implies_true, not_true_eq_false, not_false_eq_true, and_self, List.length_cons, List.length_nil, mNoCut_, mCat_n, mCat_I, mCat_L, mCat_R, mIsL_n, mIsL_I, mIsL_R, mIsL_L, Nat.reduceAdd, Nat.reduceSub, Nat.reduceLeDiff, Nat.reduceLT, Nat.reduceEqDiff, Nat.zero_le, Int.reduceEq, Int.reduceLT, Int.reduceLE, Int.reduceNeg, Int.reduceAdd, if_true, if_false, reduceIte, reduceCtorEq, Bool.false_eq_true, ne_eq, qCmp_0, qCmp_1, qCmp_2, qCmp_3, qCmp_4, qCmp_5, ib_0, ib_1, ib_2, lb_0, lb_1, lb_2, dv_0, dv_1, wl_ic, wl_ld_i, wl_ld_a, wl_st_i, wl_ib, wl_if, mrg_0_, wl_goto, wl_ald, wl_ret1, wl_eqI, wl_eqL, wl_i2x, ldR1, ldR0, ldI4, mrg_1_, ldR3, wl_callS4_4, SL_body_13, stI5, ldR2, wl_callV3_0, SL_body_134, stI6, wl_callV1_0, SL_body_104, ldI5, ldI6, mPut_s, mPut_I0, mPut_R0, mPut_L0, mPut_I1, mPut_R1, mPut_L1, mGoL_n, mGoL_c, mMask_t, mMask_f, mMask_n, cutL_body_1279, sfxL_body_1279, cutL_body_1296, sfxL_body_1296, cutL_body_3066, kL_body_1231, kL_body_1279, kL_body_1296, sk_0, al_0, sk_200, al_200, sk_230, al_230, sn_230, ald_r2, ald_230, shqR_, spX11_thrown, Option.some.injEq, ncast, b1, b2, b3, b4, b5, c1, c2, c3, c4, c5, m1, m2, m3, m4, m5]
  refine ⟨_, P_cost H (hf _) (hf _), fun o I1 hq => ?_⟩
  obtain ⟨k, rfl, hk, hq⟩ := hq
  simp only [false_and, and_false, true_or, or_true, false_or, or_false, true_and, and_true, true_implies, false_implies, implies_true, not_true_eq_false, not_false_eq_true, and_self, List.length_cons, List.length_nil, mNoCut_, mCat_n, mCat_I, mCat_L, mCat_R, mIsL_n, mIsL_I, mIsL_R, mIsL_L, Nat.reduceAdd, Nat.reduceSub, Nat.reduceLeDiff, Nat.reduceLT, Nat.reduceEqDiff, Nat.zero_le, Int.reduceEq, Int.reduceLT, Int.reduceLE, Int.reduceNeg, Int.reduceAdd, if_true, if_false, reduceIte, reduceCtorEq, Bool.false_eq_true, ne_eq, qCmp_0, qCmp_1, qCmp_2, qCmp_3, qCmp_4, qCmp_5, ib_0, ib_1, ib_2, lb_0, lb_1, lb_2, dv_0, dv_1, wl_ic, wl_ld_i, wl_ld_a, wl_st_i, wl_ib, wl_if, mrg_0_, wl_goto, wl_ald, wl_ret1, wl_eqI, wl_eqL, wl_i2x, ldR1, ldR0, ldI4, mrg_1_, ldR3, wl_callS4_4, SL_body_13, stI5, ldR2, wl_callV3_0, SL_body_134, stI6, wl_callV1_0, SL_body_104, ldI5, ldI6, mPut_s, mPut_I0, mPut_R0, mPut_L0, mPut_I1, mPut_R1, mPut_L1, mGoL_n, mGoL_c, mMask_t, mMask_f, mMask_n, cutL_body_1279, sfxL_body_1279, cutL_body_1296, sfxL_body_1296, cutL_body_3066, kL_body_1231, kL_body_1279, kL_body_1296, sk_0, al_0, sk_200, al_200, sk_230, al_230, sn_230, ald_r2, ald_230, shqR_, spX11_thrown, Option.some.injEq, ncast, b1, b2, b3, b4, b5, c1, c2, c3, c4, c5, m1, m2, m3, m4, m5]
  refine ⟨_, hq, fun o2 I2 h2 => ?_⟩
  obtain ⟨b, rfl, h3, h0, hI2⟩ := h2
  simp only [false_and, and_false, true_or, or_true, false_or, or_false, true_and, and_true, true_implies, false_implies, implies_true, not_true_eq_false, not_false_eq_true, and_self, List.length_cons, List.length_nil, mNoCut_, mCat_n, mCat_I, mCat_L, mCat_R, mIsL_n, mIsL_I, mIsL_R, mIsL_L, Nat.reduceAdd, Nat.reduceSub, Nat.reduceLeDiff, Nat.reduceLT, Nat.reduceEqDiff, Nat.zero_le, Int.reduceEq, Int.reduceLT, Int.reduceLE, Int.reduceNeg, Int.reduceAdd, if_true, if_false, reduceIte, reduceCtorEq, Bool.false_eq_true, ne_eq, qCmp_0, qCmp_1, qCmp_2, qCmp_3, qCmp_4, qCmp_5, ib_0, ib_1, ib_2, lb_0, lb_1, lb_2, dv_0, dv_1, wl_ic, wl_ld_i, wl_ld_a, wl_st_i, wl_ib, wl_if, mrg_0_, wl_goto, wl_ald, wl_ret1, wl_eqI, wl_eqL, wl_i2x, ldR1, ldR0, ldI4, mrg_1_, ldR3, wl_callS4_4, SL_body_13, stI5, ldR2, wl_callV3_0, SL_body_134, stI6, wl_callV1_0, SL_body_104, ldI5, ldI6, mPut_s, mPut_I0, mPut_R0, mPut_L0, mPut_I1, mPut_R1, mPut_L1, mGoL_n, mGoL_c, mMask_t, mMask_f, mMask_n, cutL_body_1279, sfxL_body_1279, cutL_body_1296, sfxL_body_1296, cutL_body_3066, kL_body_1231, kL_body_1279, kL_body_1296, sk_0, al_0, sk_200, al_200, sk_230, al_230, sn_230, ald_r2, ald_230, shqR_, spX11_thrown, Option.some.injEq, ncast, b1, b2, b3, b4, b5, c1, c2, c3, c4, c5, m1, m2, m3, m4, m5]
  have hC : CL i fl L I 3066 (lvL i) [] I2 := ⟨rfl, rfl, Or.inl ⟨rfl, hI2⟩⟩
  repeat' (first | exact hC | exact h3 | apply And.intro | intro _)
  all_goals first | exact h3 | (unfold mrg; omega) | omega
set_option maxRecDepth 100000 in
theorem W_17 {fl : Nat → Bool} {I : mM} {f : Int → Int} {L : Nat} {i : Int} (H : LI fl I) (hi : 0 ≤ i) (hL : i + 6 ≤ (L : Int)) (hf : ∀ q : Int, mrg (f q)) : wlP fl L f i I kL_body_1299 I := by
  unfold wlP
  have b1 : (0 ≤ i + 1) = True := eq_true (by omega)
  have c1 : (i + 1 < (L : Int)) = True := eq_true (by omega)
  have m1 : mrg (f (i + 1)) = True := eq_true (hf _)
  have b2 : (0 ≤ i + 2) = True := eq_true (by omega)
  have c2 : (i + 2 < (L : Int)) = True := eq_true (by omega)
  have m2 : mrg (f (i + 2)) = True := eq_true (hf _)
  have b3 : (0 ≤ i + 3) = True := eq_true (by omega)
  have c3 : (i + 3 < (L : Int)) = True := eq_true (by omega)
  have m3 : mrg (f (i + 3)) = True := eq_true (hf _)
  have b4 : (0 ≤ i + 4) = True := eq_true (by omega)
  have c4 : (i + 4 < (L : Int)) = True := eq_true (by omega)
  have m4 : mrg (f (i + 4)) = True := eq_true (hf _)
  have b5 : (0 ≤ i + 5) = True := eq_true (by omega)
  have c5 : (i + 5 < (L : Int)) = True := eq_true (by omega)
  have m5 : mrg (f (i + 5)) = True := eq_true (hf _)
  simp only [false_and, and_false, true_or, or_true, false_or, or_false, true_and, and_true, true_implies, false_implies, implies_true, not_true_eq_false, not_false_eq_true, and_self, List.length_cons, List.length_nil, mNoCut_, mCat_n, mCat_I, mCat_L, mCat_R, mIsL_n, mIsL_I, mIsL_R, mIsL_L, Nat.reduceAdd, Nat.reduceSub, Nat.reduceLeDiff, Nat.reduceLT, Nat.reduceEqDiff, Nat.zero_le, Int.reduceEq, Int.reduceLT, Int.reduceLE, Int.reduceNeg, Int.reduceAdd, if_true, if_false, reduceIte, reduceCtorEq, Bool.false_eq_true, ne_eq, qCmp_0, qCmp_1, qCmp_2, qCmp_3, qCmp_4, qCmp_5, ib_0, ib_1, ib_2, lb_0, lb_1, lb_2, dv_0, dv_1, wl_ic, wl_lc, wl_ld_i, wl_ld_a, wl_st_i, wl_ib, wl_if, mrg_0_, wl_goto, wl_ald, wl_ret1, wl_eqI, wl_eqL, ldR1, ldR0, ldI4, mrg_1_, ldR3, wl_callS3_4, SL_body_14, stI5, ldR2, wl_callV2_0, SL_body_136, stI6, wl_callV1_0, SL_body_104, ldI5, ldI6, mPut_s, mPut_I0, mPut_R0, mPut_L0, mPut_I1, mPut_R1, mPut_L1, mGoL_n, mGoL_c, mMask_t, mMask_f, mMask_n, cutL_body_1335, sfxL_body_1335, cutL_body_1352, sfxL_body_1352, cutL_body_1353, sfxL_body_1353, cutL_body_1359, sfxL_body_1359, cutL_body_3066, kL_body_1299, kL_body_1335, kL_body_1352, kL_body_1353, kL_body_1359, sk_0, al_0, sk_200, al_200, sk_230, al_230, sn_230, ald_r2, ald_230, shqR_, spX11_thrown, Option.some.injEq, ncast, b1, b2, b3, b4, b5, c1, c2, c3, c4, c5, m1, m2, m3, m4, m5]
  refine ⟨_, P_mean H (hf _), fun o I1 hq => ?_⟩
  obtain ⟨k, rfl, hk, hq⟩ := hq
  simp only [false_and, and_false, true_or, or_true, false_or, or_false, true_and, and_true, true_implies, false_implies, implies_true, not_true_eq_false, not_false_eq_true, and_self, List.length_cons, List.length_nil, mNoCut_, mCat_n, mCat_I, mCat_L, mCat_R, mIsL_n, mIsL_I, mIsL_R, mIsL_L, Nat.reduceAdd, Nat.reduceSub, Nat.reduceLeDiff, Nat.reduceLT, Nat.reduceEqDiff, Nat.zero_le, Int.reduceEq, Int.reduceLT, Int.reduceLE, Int.reduceNeg, Int.reduceAdd, if_true, if_false, reduceIte, reduceCtorEq, Bool.false_eq_true, ne_eq, qCmp_0, qCmp_1, qCmp_2, qCmp_3, qCmp_4, qCmp_5, ib_0, ib_1, ib_2, lb_0, lb_1, lb_2, dv_0, dv_1, wl_ic, wl_lc, wl_ld_i, wl_ld_a, wl_st_i, wl_ib, wl_if, mrg_0_, wl_goto, wl_ald, wl_ret1, wl_eqI, wl_eqL, ldR1, ldR0, ldI4, mrg_1_, ldR3, wl_callS3_4, SL_body_14, stI5, ldR2, wl_callV2_0, SL_body_136, stI6, wl_callV1_0, SL_body_104, ldI5, ldI6, mPut_s, mPut_I0, mPut_R0, mPut_L0, mPut_I1, mPut_R1, mPut_L1, mGoL_n, mGoL_c, mMask_t, mMask_f, mMask_n, cutL_body_1335, sfxL_body_1335, cutL_body_1352, sfxL_body_1352, cutL_body_1353, sfxL_body_1353, cutL_body_1359, sfxL_body_1359, cutL_body_3066, kL_body_1299, kL_body_1335, kL_body_1352, kL_body_1353, kL_body_1359, sk_0, al_0, sk_200, al_200, sk_230, al_230, sn_230, ald_r2, ald_230, shqR_, spX11_thrown, Option.some.injEq, ncast, b1, b2, b3, b4, b5, c1, c2, c3, c4, c5, m1, m2, m3, m4, m5]
  refine ⟨_, hq, fun o2 I2 h2 => ?_⟩
  obtain ⟨b, rfl, h3, ⟨hv, h0⟩, hI2⟩ := h2
  simp only [false_and, and_false, true_or, or_true, false_or, or_false, true_and, and_true, true_implies, false_implies, implies_true, not_true_eq_false, not_false_eq_true, and_self, List.length_cons, List.length_nil, mNoCut_, mCat_n, mCat_I, mCat_L, mCat_R, mIsL_n, mIsL_I, mIsL_R, mIsL_L, Nat.reduceAdd, Nat.reduceSub, Nat.reduceLeDiff, Nat.reduceLT, Nat.reduceEqDiff, Nat.zero_le, Int.reduceEq, Int.reduceLT, Int.reduceLE, Int.reduceNeg, Int.reduceAdd, if_true, if_false, reduceIte, reduceCtorEq, Bool.false_eq_true, ne_eq, qCmp_0, qCmp_1, qCmp_2, qCmp_3, qCmp_4, qCmp_5, ib_0, ib_1, ib_2, lb_0, lb_1, lb_2, dv_0, dv_1, wl_ic, wl_lc, wl_ld_i, wl_ld_a, wl_st_i, wl_ib, wl_if, mrg_0_, wl_goto, wl_ald, wl_ret1, wl_eqI, wl_eqL, ldR1, ldR0, ldI4, mrg_1_, ldR3, wl_callS3_4, SL_body_14, stI5, ldR2, wl_callV2_0, SL_body_136, stI6, wl_callV1_0, SL_body_104, ldI5, ldI6, mPut_s, mPut_I0, mPut_R0, mPut_L0, mPut_I1, mPut_R1, mPut_L1, mGoL_n, mGoL_c, mMask_t, mMask_f, mMask_n, cutL_body_1335, sfxL_body_1335, cutL_body_1352, sfxL_body_1352, cutL_body_1353, sfxL_body_1353, cutL_body_1359, sfxL_body_1359, cutL_body_3066, kL_body_1299, kL_body_1335, kL_body_1352, kL_body_1353, kL_body_1359, sk_0, al_0, sk_200, al_200, sk_230, al_230, sn_230, ald_r2, ald_230, shqR_, spX11_thrown, Option.some.injEq, ncast, b1, b2, b3, b4, b5, c1, c2, c3, c4, c5, m1, m2, m3, m4, m5]
  have hC : CL i fl L I 3066 (lvL i) [] I2 := ⟨rfl, rfl, Or.inl ⟨rfl, hI2⟩⟩
  repeat' (first | exact hC | exact h3 | apply And.intro | intro _)
  all_goals first | exact h3 | (unfold mrg; omega) | omega
set_option maxRecDepth 100000 in
theorem W_18 {fl : Nat → Bool} {I : mM} {f : Int → Int} {L : Nat} {i : Int} (H : LI fl I) (hi : 0 ≤ i) (hL : i + 6 ≤ (L : Int)) (hf : ∀ q : Int, mrg (f q)) : wlP fl L f i I kL_body_1362 I := by
  unfold wlP
  have b1 : (0 ≤ i + 1) = True := eq_true (by omega)
  have c1 : (i + 1 < (L : Int)) = True := eq_true (by omega)
  have m1 : mrg (f (i + 1)) = True := eq_true (hf _)
  have b2 : (0 ≤ i + 2) = True := eq_true (by omega)
  have c2 : (i + 2 < (L : Int)) = True := eq_true (by omega)
  have m2 : mrg (f (i + 2)) = True := eq_true (hf _)
  have b3 : (0 ≤ i + 3) = True := eq_true (by omega)
  have c3 : (i + 3 < (L : Int)) = True := eq_true (by omega)
  have m3 : mrg (f (i + 3)) = True := eq_true (hf _)
  have b4 : (0 ≤ i + 4) = True := eq_true (by omega)
  have c4 : (i + 4 < (L : Int)) = True := eq_true (by omega)
  have m4 : mrg (f (i + 4)) = True := eq_true (hf _)
  have b5 : (0 ≤ i + 5) = True := eq_true (by omega)
  have c5 : (i + 5 < (L : Int)) = True := eq_true (by omega)
  have m5 : mrg (f (i + 5)) = True := eq_true (hf _)
  simp only [false_and, and_false, true_or, or_true, false_or, or_false, true_and, and_true, true_implies, false_implies, implies_true, not_true_eq_false, not_false_eq_true, and_self, List.length_cons, List.length_nil, mNoCut_, mCat_n, mCat_I, mCat_L, mCat_R, mIsL_n, mIsL_I, mIsL_R, mIsL_L, Nat.reduceAdd, Nat.reduceSub, Nat.reduceLeDiff, Nat.reduceLT, Nat.reduceEqDiff, Nat.zero_le, Int.reduceEq, Int.reduceLT, Int.reduceLE, Int.reduceNeg, Int.reduceAdd, if_true, if_false, reduceIte, reduceCtorEq, Bool.false_eq_true, ne_eq, qCmp_0, qCmp_1, qCmp_2, qCmp_3, qCmp_4, qCmp_5, ib_0, ib_1, ib_2, lb_0, lb_1, lb_2, dv_0, dv_1, wl_ic, wl_ld_a, wl_ret1, wl_eqL, ldR1, wl_callV1_0, SL_body_137, ldR2, SL_body_138, mrg_0_, mPut_s, mPut_I0, mPut_R0, mPut_L0, mPut_I1, mPut_R1, mPut_L1, mGoL_n, mGoL_c, mMask_t, mMask_f, mMask_n, cutL_body_3066, kL_body_1362, sk_0, al_0, sk_200, al_200, sk_230, al_230, sn_230, ald_r2, ald_230, shqR_, spX11_thrown, Option.some.injEq, ncast, b1, b2, b3, b4, b5, c1, c2, c3, c4, c5, m1, m2, m3, m4, m5]
  refine ⟨_, P_upper H, fun o I1 hq => ?_⟩
  obtain ⟨a, rfl, hq⟩ := hq
  simp only [false_and, and_false, true_or, or_true, false_or, or_false, true_and, and_true, true_implies, false_implies, implies_true, not_true_eq_false, not_false_eq_true, and_self, List.length_cons, List.length_nil, mNoCut_, mCat_n, mCat_I, mCat_L, mCat_R, mIsL_n, mIsL_I, mIsL_R, mIsL_L, Nat.reduceAdd, Nat.reduceSub, Nat.reduceLeDiff, Nat.reduceLT, Nat.reduceEqDiff, Nat.zero_le, Int.reduceEq, Int.reduceLT, Int.reduceLE, Int.reduceNeg, Int.reduceAdd, if_true, if_false, reduceIte, reduceCtorEq, Bool.false_eq_true, ne_eq, qCmp_0, qCmp_1, qCmp_2, qCmp_3, qCmp_4, qCmp_5, ib_0, ib_1, ib_2, lb_0, lb_1, lb_2, dv_0, dv_1, wl_ic, wl_ld_a, wl_ret1, wl_eqL, ldR1, wl_callV1_0, SL_body_137, ldR2, SL_body_138, mrg_0_, mPut_s, mPut_I0, mPut_R0, mPut_L0, mPut_I1, mPut_R1, mPut_L1, mGoL_n, mGoL_c, mMask_t, mMask_f, mMask_n, cutL_body_3066, kL_body_1362, sk_0, al_0, sk_200, al_200, sk_230, al_230, sn_230, ald_r2, ald_230, shqR_, spX11_thrown, Option.some.injEq, ncast, b1, b2, b3, b4, b5, c1, c2, c3, c4, c5, m1, m2, m3, m4, m5]
  refine ⟨_, hq, fun o2 I2 h2 => ?_⟩
  obtain ⟨b, rfl, h3, hI2⟩ := h2
  simp only [false_and, and_false, true_or, or_true, false_or, or_false, true_and, and_true, true_implies, false_implies, implies_true, not_true_eq_false, not_false_eq_true, and_self, List.length_cons, List.length_nil, mNoCut_, mCat_n, mCat_I, mCat_L, mCat_R, mIsL_n, mIsL_I, mIsL_R, mIsL_L, Nat.reduceAdd, Nat.reduceSub, Nat.reduceLeDiff, Nat.reduceLT, Nat.reduceEqDiff, Nat.zero_le, Int.reduceEq, Int.reduceLT, Int.reduceLE, Int.reduceNeg, Int.reduceAdd, if_true, if_false, reduceIte, reduceCtorEq, Bool.false_eq_true, ne_eq, qCmp_0, qCmp_1, qCmp_2, qCmp_3, qCmp_4, qCmp_5, ib_0, ib_1, ib_2, lb_0, lb_1, lb_2, dv_0, dv_1, wl_ic, wl_ld_a, wl_ret1, wl_eqL, ldR1, wl_callV1_0, SL_body_137, ldR2, SL_body_138, mrg_0_, mPut_s, mPut_I0, mPut_R0, mPut_L0, mPut_I1, mPut_R1, mPut_L1, mGoL_n, mGoL_c, mMask_t, mMask_f, mMask_n, cutL_body_3066, kL_body_1362, sk_0, al_0, sk_200, al_200, sk_230, al_230, sn_230, ald_r2, ald_230, shqR_, spX11_thrown, Option.some.injEq, ncast, b1, b2, b3, b4, b5, c1, c2, c3, c4, c5, m1, m2, m3, m4, m5]
  have hC : CL i fl L I 3066 (lvL i) [] I2 := ⟨rfl, rfl, Or.inl ⟨rfl, hI2⟩⟩
  repeat' (first | exact hC | exact h3 | apply And.intro | intro _)
  all_goals first | exact h3 | (unfold mrg; omega) | omega
set_option maxRecDepth 100000 in
theorem W_19 {fl : Nat → Bool} {I : mM} {f : Int → Int} {L : Nat} {i : Int} (H : LI fl I) (hi : 0 ≤ i) (hL : i + 6 ≤ (L : Int)) (hf : ∀ q : Int, mrg (f q)) : wlP fl L f i I kL_body_1376 I := by
  unfold wlP
  have b1 : (0 ≤ i + 1) = True := eq_true (by omega)
  have c1 : (i + 1 < (L : Int)) = True := eq_true (by omega)
  have m1 : mrg (f (i + 1)) = True := eq_true (hf _)
  have b2 : (0 ≤ i + 2) = True := eq_true (by omega)
  have c2 : (i + 2 < (L : Int)) = True := eq_true (by omega)
  have m2 : mrg (f (i + 2)) = True := eq_true (hf _)
  have b3 : (0 ≤ i + 3) = True := eq_true (by omega)
  have c3 : (i + 3 < (L : Int)) = True := eq_true (by omega)
  have m3 : mrg (f (i + 3)) = True := eq_true (hf _)
  have b4 : (0 ≤ i + 4) = True := eq_true (by omega)
  have c4 : (i + 4 < (L : Int)) = True := eq_true (by omega)
  have m4 : mrg (f (i + 4)) = True := eq_true (hf _)
  have b5 : (0 ≤ i + 5) = True := eq_true (by omega)
  have c5 : (i + 5 < (L : Int)) = True := eq_true (by omega)
  have m5 : mrg (f (i + 5)) = True := eq_true (hf _)
  simp only [false_and, and_false, true_or, or_true, false_or, or_false, true_and, and_true, true_implies, false_implies, implies_true, not_true_eq_false, not_false_eq_true, and_self, List.length_cons, List.length_nil, mNoCut_, mCat_n, mCat_I, mCat_L, mCat_R, mIsL_n, mIsL_I, mIsL_R, mIsL_L, Nat.reduceAdd, Nat.reduceSub, Nat.reduceLeDiff, Nat.reduceLT, Nat.reduceEqDiff, Nat.zero_le, Int.reduceEq, Int.reduceLT, Int.reduceLE, Int.reduceNeg, Int.reduceAdd, if_true, if_false, reduceIte, reduceCtorEq, Bool.false_eq_true, ne_eq, qCmp_0, qCmp_1, qCmp_2, qCmp_3, qCmp_4, qCmp_5, ib_0, ib_1, ib_2, lb_0, lb_1, lb_2, dv_0, dv_1, wl_ic, wl_ld_a, wl_ret1, wl_eqL, ldR1, wl_callV1_0, SL_body_139, ldR2, SL_body_140, mrg_0_, mPut_s, mPut_I0, mPut_R0, mPut_L0, mPut_I1, mPut_R1, mPut_L1, mGoL_n, mGoL_c, mMask_t, mMask_f, mMask_n, cutL_body_3066, kL_body_1376, sk_0, al_0, sk_200, al_200, sk_230, al_230, sn_230, ald_r2, ald_230, shqR_, spX11_thrown, Option.some.injEq, ncast, b1, b2, b3, b4, b5, c1, c2, c3, c4, c5, m1, m2, m3, m4, m5]
  refine ⟨_, P_lower H, fun o I1 hq => ?_⟩
  obtain ⟨a, rfl, hq⟩ := hq
  simp only [false_and, and_false, true_or, or_true, false_or, or_false, true_and, and_true, true_implies, false_implies, implies_true, not_true_eq_false, not_false_eq_true, and_self, List.length_cons, List.length_nil, mNoCut_, mCat_n, mCat_I, mCat_L, mCat_R, mIsL_n, mIsL_I, mIsL_R, mIsL_L, Nat.reduceAdd, Nat.reduceSub, Nat.reduceLeDiff, Nat.reduceLT, Nat.reduceEqDiff, Nat.zero_le, Int.reduceEq, Int.reduceLT, Int.reduceLE, Int.reduceNeg, Int.reduceAdd, if_true, if_false, reduceIte, reduceCtorEq, Bool.false_eq_true, ne_eq, qCmp_0, qCmp_1, qCmp_2, qCmp_3, qCmp_4, qCmp_5, ib_0, ib_1, ib_2, lb_0, lb_1, lb_2, dv_0, dv_1, wl_ic, wl_ld_a, wl_ret1, wl_eqL, ldR1, wl_callV1_0, SL_body_139, ldR2, SL_body_140, mrg_0_, mPut_s, mPut_I0, mPut_R0, mPut_L0, mPut_I1, mPut_R1, mPut_L1, mGoL_n, mGoL_c, mMask_t, mMask_f, mMask_n, cutL_body_3066, kL_body_1376, sk_0, al_0, sk_200, al_200, sk_230, al_230, sn_230, ald_r2, ald_230, shqR_, spX11_thrown, Option.some.injEq, ncast, b1, b2, b3, b4, b5, c1, c2, c3, c4, c5, m1, m2, m3, m4, m5]
  refine ⟨_, hq, fun o2 I2 h2 => ?_⟩
  obtain ⟨b, rfl, h3, hI2⟩ := h2
  simp only [false_and, and_false, true_or, or_true, false_or, or_false, true_and, and_true, true_implies, false_implies, implies_true, not_true_eq_false, not_false_eq_true, and_self, List.length_cons, List.length_nil, mNoCut_, mCat_n, mCat_I, mCat_L, mCat_R, mIsL_n, mIsL_I, mIsL_R, mIsL_L, Nat.reduceAdd, Nat.reduceSub, Nat.reduceLeDiff, Nat.reduceLT, Nat.reduceEqDiff, Nat.zero_le, Int.reduceEq, Int.reduceLT, Int.reduceLE, Int.reduceNeg, Int.reduceAdd, if_true, if_false, reduceIte, reduceCtorEq, Bool.false_eq_true, ne_eq, qCmp_0, qCmp_1, qCmp_2, qCmp_3, qCmp_4, qCmp_5, ib_0, ib_1, ib_2, lb_0, lb_1, lb_2, dv_0, dv_1, wl_ic, wl_ld_a, wl_ret1, wl_eqL, ldR1, wl_callV1_0, SL_body_139, ldR2, SL_body_140, mrg_0_, mPut_s, mPut_I0, mPut_R0, mPut_L0, mPut_I1, mPut_R1, mPut_L1, mGoL_n, mGoL_c, mMask_t, mMask_f, mMask_n, cutL_body_3066, kL_body_1376, sk_0, al_0, sk_200, al_200, sk_230, al_230, sn_230, ald_r2, ald_230, shqR_, spX11_thrown, Option.some.injEq, ncast, b1, b2, b3, b4, b5, c1, c2, c3, c4, c5, m1, m2, m3, m4, m5]
  have hC : CL i fl L I 3066 (lvL i) [] I2 := ⟨rfl, rfl, Or.inl ⟨rfl, hI2⟩⟩
  repeat' (first | exact hC | exact h3 | apply And.intro | intro _)
  all_goals first | exact h3 | (unfold mrg; omega) | omega
set_option maxRecDepth 100000 in
theorem W_20 {fl : Nat → Bool} {I : mM} {f : Int → Int} {L : Nat} {i : Int} (H : LI fl I) (hi : 0 ≤ i) (hL : i + 6 ≤ (L : Int)) (hf : ∀ q : Int, mrg (f q)) : wlP fl L f i I kL_body_1390 I := by
  unfold wlP
  have b1 : (0 ≤ i + 1) = True := eq_true (by omega)
  have c1 : (i + 1 < (L : Int)) = True := eq_true (by omega)
  have m1 : mrg (f (i + 1)) = True := eq_true (hf _)
  have b2 : (0 ≤ i + 2) = True := eq_true (by omega)
  have c2 : (i + 2 < (L : Int)) = True := eq_true (by omega)
  have m2 : mrg (f (i + 2)) = True := eq_true (hf _)
  have b3 : (0 ≤ i + 3) = True := eq_true (by omega)
  have c3 : (i + 3 < (L : Int)) = True := eq_true (by omega)
  have m3 : mrg (f (i + 3)) = True := eq_true (hf _)
  have b4 : (0 ≤ i + 4) = True := eq_true (by omega)
  have c4 : (i + 4 < (L : Int)) = True := eq_true (by omega)
  have m4 : mrg (f (i + 4)) = True := eq_true (hf _)
  have b5 : (0 ≤ i + 5) = True := eq_true (by omega)
  have c5 : (i + 5 < (L : Int)) = True := eq_true (by omega)
  have m5 : mrg (f (i + 5)) = True := eq_true (hf _)
  simp only [false_and, and_false, true_or, or_true, false_or, or_false, true_and, and_true, true_implies, false_implies, implies_true, not_true_eq_false, not_false_eq_true, and_self, List.length_cons, List.length_nil, mNoCut_, mCat_n, mCat_I, mCat_L, mCat_R, mIsL_n, mIsL_I, mIsL_R, mIsL_L, Nat.reduceAdd, Nat.reduceSub, Nat.reduceLeDiff, Nat.reduceLT, Nat.reduceEqDiff, Nat.zero_le, Int.reduceEq, Int.reduceLT, Int.reduceLE, Int.reduceNeg, Int.reduceAdd, if_true, if_false, reduceIte, reduceCtorEq, Bool.false_eq_true, ne_eq, qCmp_0, qCmp_1, qCmp_2, qCmp_3, qCmp_4, qCmp_5, ib_0, ib_1, ib_2, lb_0, lb_1, lb_2, dv_0, dv_1, wl_ic, wl_ld_i, wl_ld_a, wl_st_i, wl_ib, wl_if, mrg_0_, wl_goto, wl_ald, wl_ret1, wl_eqI, wl_eqL, wl_i2x, ldR1, ldR0, ldI4, mrg_1_, ldR3, wl_callS4_4, SL_body_15, stI5, ldR2, wl_callV3_0, SL_body_142, stI6, wl_callV1_0, SL_body_104, ldI5, ldI6, mPut_s, mPut_I0, mPut_R0, mPut_L0, mPut_I1, mPut_R1, mPut_L1, mGoL_n, mGoL_c, mMask_t, mMask_f, mMask_n, cutL_body_1438, sfxL_body_1438, cutL_body_1455, sfxL_body_1455, cutL_body_3066, kL_body_1390, kL_body_1438, kL_body_1455, sk_0, al_0, sk_200, al_200, sk_230, al_230, sn_230, ald_r2, ald_230, shqR_, spX11_thrown, Option.some.injEq, ncast, b1, b2, b3, b4, b5, c1, c2, c3, c4, c5, m1, m2, m3, m4, m5]
  refine ⟨_, P_one H (hf _) (hf _), fun o I1 hq => ?_⟩
  obtain ⟨k, rfl, hk, hq⟩ := hq
  simp only [false_and, and_false, true_or, or_true, false_or, or_false, true_and, and_true, true_implies, false_implies, implies_true, not_true_eq_false, not_false_eq_true, and_self, List.length_cons, List.length_nil, mNoCut_, mCat_n, mCat_I, mCat_L, mCat_R, mIsL_n, mIsL_I, mIsL_R, mIsL_L, Nat.reduceAdd, Nat.reduceSub, Nat.reduceLeDiff, Nat.reduceLT, Nat.reduceEqDiff, Nat.zero_le, Int.reduceEq, Int.reduceLT, Int.reduceLE, Int.reduceNeg, Int.reduceAdd, if_true, if_false, reduceIte, reduceCtorEq, Bool.false_eq_true, ne_eq, qCmp_0, qCmp_1, qCmp_2, qCmp_3, qCmp_4, qCmp_5, ib_0, ib_1, ib_2, lb_0, lb_1, lb_2, dv_0, dv_1, wl_ic, wl_ld_i, wl_ld_a, wl_st_i, wl_ib, wl_if, mrg_0_, wl_goto, wl_ald, wl_ret1, wl_eqI, wl_eqL, wl_i2x, ldR1, ldR0, ldI4, mrg_1_, ldR3, wl_callS4_4, SL_body_15, stI5, ldR2, wl_callV3_0, SL_body_142, stI6, wl_callV1_0, SL_body_104, ldI5, ldI6, mPut_s, mPut_I0, mPut_R0, mPut_L0, mPut_I1, mPut_R1, mPut_L1, mGoL_n, mGoL_c, mMask_t, mMask_f, mMask_n, cutL_body_1438, sfxL_body_1438, cutL_body_1455, sfxL_body_1455, cutL_body_3066, kL_body_1390, kL_body_1438, kL_body_1455, sk_0, al_0, sk_200, al_200, sk_230, al_230, sn_230, ald_r2, ald_230, shqR_, spX11_thrown, Option.some.injEq, ncast, b1, b2, b3, b4, b5, c1, c2, c3, c4, c5, m1, m2, m3, m4, m5]
  refine ⟨_, hq, fun o2 I2 h2 => ?_⟩
  obtain ⟨b, rfl, h3, h0, hI2⟩ := h2
  simp only [false_and, and_false, true_or, or_true, false_or, or_false, true_and, and_true, true_implies, false_implies, implies_true, not_true_eq_false, not_false_eq_true, and_self, List.length_cons, List.length_nil, mNoCut_, mCat_n, mCat_I, mCat_L, mCat_R, mIsL_n, mIsL_I, mIsL_R, mIsL_L, Nat.reduceAdd, Nat.reduceSub, Nat.reduceLeDiff, Nat.reduceLT, Nat.reduceEqDiff, Nat.zero_le, Int.reduceEq, Int.reduceLT, Int.reduceLE, Int.reduceNeg, Int.reduceAdd, if_true, if_false, reduceIte, reduceCtorEq, Bool.false_eq_true, ne_eq, qCmp_0, qCmp_1, qCmp_2, qCmp_3, qCmp_4, qCmp_5, ib_0, ib_1, ib_2, lb_0, lb_1, lb_2, dv_0, dv_1, wl_ic, wl_ld_i, wl_ld_a, wl_st_i, wl_ib, wl_if, mrg_0_, wl_goto, wl_ald, wl_ret1, wl_eqI, wl_eqL, wl_i2x, ldR1, ldR0, ldI4, mrg_1_, ldR3, wl_callS4_4, SL_body_15, stI5, ldR2, wl_callV3_0, SL_body_142, stI6, wl_callV1_0, SL_body_104, ldI5, ldI6, mPut_s, mPut_I0, mPut_R0, mPut_L0, mPut_I1, mPut_R1, mPut_L1, mGoL_n, mGoL_c, mMask_t, mMask_f, mMask_n, cutL_body_1438, sfxL_body_1438, cutL_body_1455, sfxL_body_1455, cutL_body_3066, kL_body_1390, kL_body_1438, kL_body_1455, sk_0, al_0, sk_200, al_200, sk_230, al_230, sn_230, ald_r2, ald_230, shqR_, spX11_thrown, Option.some.injEq, ncast, b1, b2, b3, b4, b5, c1, c2, c3, c4, c5, m1, m2, m3, m4, m5]
  have hC : CL i fl L I 3066 (lvL i) [] I2 := ⟨rfl, rfl, Or.inl ⟨rfl, hI2⟩⟩
  repeat' (first | exact hC | exact h3 | apply And.intro | intro _)
  all_goals first | exact h3 | (unfold mrg; omega) | omega
set_option maxRecDepth 100000 in
theorem W_21 {fl : Nat → Bool} {I : mM} {f : Int → Int} {L : Nat} {i : Int} (H : LI fl I) (hi : 0 ≤ i) (hL : i + 6 ≤ (L : Int)) (hf : ∀ q : Int, mrg (f q)) : wlP fl L f i I kL_body_1458 I := by
  unfold wlP
  have b1 : (0 ≤ i + 1) = True := eq_true (by omega)
  have c1 : (i + 1 < (L : Int)) = True := eq_true (by omega)
  have m1 : mrg (f (i + 1)) = True := eq_true (hf _)
  have b2 : (0 ≤ i + 2) = True := eq_true (by omega)
  have c2 : (i + 2 < (L : Int)) = True := eq_true (by omega)
  have m2 : mrg (f (i + 2)) = True := eq_true (hf _)
  have b3 : (0 ≤ i + 3) = True := eq_true (by omega)
  have c3 : (i + 3 < (L : Int)) = True := eq_true (by omega)
  have m3 : mrg (f (i + 3)) = True := eq_true (hf _)
  have b4 : (0 ≤ i + 4) = True := eq_true (by omega)
  have c4 : (i + 4 < (L : Int)) = True := eq_true (by omega)
  have m4 : mrg (f (i + 4)) = True := eq_true (hf _)
  have b5 : (0 ≤ i + 5) = True := eq_true (by omega)
  have c5 : (i + 5 < (L : Int)) = True := eq_true (by omega)
  have m5 : mrg (f (i + 5)) = True := eq_true (hf _)
  simp only [false_and, and_false, true_or, or_true, false_or, or_false, true_and, and_true, true_implies, false_implies, implies_true, not_true_eq_false, not_false_eq_true, and_self, List.length_cons, List.length_nil, mNoCut_, mCat_n, mCat_I, mCat_L, mCat_R, mIsL_n, mIsL_I, mIsL_R, mIsL_L, Nat.reduceAdd, Nat.reduceSub, Nat.reduceLeDiff, Nat.reduceLT, Nat.reduceEqDiff, Nat.zero_le, Int.reduceEq, Int.reduceLT, Int.reduceLE, Int.reduceNeg, Int.reduceAdd, if_true, if_false, reduceIte, reduceCtorEq, Bool.false_eq_true, ne_eq, qCmp_0, qCmp_1, qCmp_2, qCmp_3, qCmp_4, qCmp_5, ib_0, ib_1, ib_2, lb_0, lb_1, lb_2, dv_0, dv_1, wl_ic, wl_ld_i, wl_ld_a, wl_st_i, wl_ib, wl_if, mrg_0_, wl_goto, wl_ald, wl_ret1, wl_eqI, wl_eqL, wl_i2x, ldR1, ldR0, ldI4, mrg_1_, ldR3, wl_callS4_4, SL_body_16, stI5, ldR2, wl_callV3_0, SL_body_144, stI6, wl_callV1_0, SL_body_104, ldI5, ldI6, mPut_s, mPut_I0, mPut_R0, mPut_L0, mPut_I1, mPut_R1, mPut_L1, mGoL_n, mGoL_c, mMask_t, mMask_f, mMask_n, cutL_body_1506, sfxL_body_1506, cutL_body_1523, sfxL_body_1523, cutL_body_3066, kL_body_1458, kL_body_1506, kL_body_1523, sk_0, al_0, sk_200, al_200, sk_230, al_230, sn_230, ald_r2, ald_230, shqR_, spX11_thrown, Option.some.injEq, ncast, b1, b2, b3, b4, b5, c1, c2, c3, c4, c5, m1, m2, m3, m4, m5]
  refine ⟨_, P_settle H (hf _) (hf _), fun o I1 hq => ?_⟩
  obtain ⟨k, rfl, hk, hq⟩ := hq
  simp only [false_and, and_false, true_or, or_true, false_or, or_false, true_and, and_true, true_implies, false_implies, implies_true, not_true_eq_false, not_false_eq_true, and_self, List.length_cons, List.length_nil, mNoCut_, mCat_n, mCat_I, mCat_L, mCat_R, mIsL_n, mIsL_I, mIsL_R, mIsL_L, Nat.reduceAdd, Nat.reduceSub, Nat.reduceLeDiff, Nat.reduceLT, Nat.reduceEqDiff, Nat.zero_le, Int.reduceEq, Int.reduceLT, Int.reduceLE, Int.reduceNeg, Int.reduceAdd, if_true, if_false, reduceIte, reduceCtorEq, Bool.false_eq_true, ne_eq, qCmp_0, qCmp_1, qCmp_2, qCmp_3, qCmp_4, qCmp_5, ib_0, ib_1, ib_2, lb_0, lb_1, lb_2, dv_0, dv_1, wl_ic, wl_ld_i, wl_ld_a, wl_st_i, wl_ib, wl_if, mrg_0_, wl_goto, wl_ald, wl_ret1, wl_eqI, wl_eqL, wl_i2x, ldR1, ldR0, ldI4, mrg_1_, ldR3, wl_callS4_4, SL_body_16, stI5, ldR2, wl_callV3_0, SL_body_144, stI6, wl_callV1_0, SL_body_104, ldI5, ldI6, mPut_s, mPut_I0, mPut_R0, mPut_L0, mPut_I1, mPut_R1, mPut_L1, mGoL_n, mGoL_c, mMask_t, mMask_f, mMask_n, cutL_body_1506, sfxL_body_1506, cutL_body_1523, sfxL_body_1523, cutL_body_3066, kL_body_1458, kL_body_1506, kL_body_1523, sk_0, al_0, sk_200, al_200, sk_230, al_230, sn_230, ald_r2, ald_230, shqR_, spX11_thrown, Option.some.injEq, ncast, b1, b2, b3, b4, b5, c1, c2, c3, c4, c5, m1, m2, m3, m4, m5]
  refine ⟨_, hq, fun o2 I2 h2 => ?_⟩
  obtain ⟨b, rfl, h3, h0, hI2⟩ := h2
  simp only [false_and, and_false, true_or, or_true, false_or, or_false, true_and, and_true, true_implies, false_implies, implies_true, not_true_eq_false, not_false_eq_true, and_self, List.length_cons, List.length_nil, mNoCut_, mCat_n, mCat_I, mCat_L, mCat_R, mIsL_n, mIsL_I, mIsL_R, mIsL_L, Nat.reduceAdd, Nat.reduceSub, Nat.reduceLeDiff, Nat.reduceLT, Nat.reduceEqDiff, Nat.zero_le, Int.reduceEq, Int.reduceLT, Int.reduceLE, Int.reduceNeg, Int.reduceAdd, if_true, if_false, reduceIte, reduceCtorEq, Bool.false_eq_true, ne_eq, qCmp_0, qCmp_1, qCmp_2, qCmp_3, qCmp_4, qCmp_5, ib_0, ib_1, ib_2, lb_0, lb_1, lb_2, dv_0, dv_1, wl_ic, wl_ld_i, wl_ld_a, wl_st_i, wl_ib, wl_if, mrg_0_, wl_goto, wl_ald, wl_ret1, wl_eqI, wl_eqL, wl_i2x, ldR1, ldR0, ldI4, mrg_1_, ldR3, wl_callS4_4, SL_body_16, stI5, ldR2, wl_callV3_0, SL_body_144, stI6, wl_callV1_0, SL_body_104, ldI5, ldI6, mPut_s, mPut_I0, mPut_R0, mPut_L0, mPut_I1, mPut_R1, mPut_L1, mGoL_n, mGoL_c, mMask_t, mMask_f, mMask_n, cutL_body_1506, sfxL_body_1506, cutL_body_1523, sfxL_body_1523, cutL_body_3066, kL_body_1458, kL_body_1506, kL_body_1523, sk_0, al_0, sk_200, al_200, sk_230, al_230, sn_230, ald_r2, ald_230, shqR_, spX11_thrown, Option.some.injEq, ncast, b1, b2, b3, b4, b5, c1, c2, c3, c4, c5, m1, m2, m3, m4, m5]
  have hC : CL i fl L I 3066 (lvL i) [] I2 := ⟨rfl, rfl, Or.inl ⟨rfl, hI2⟩⟩
  repeat' (first | exact hC | exact h3 | apply And.intro | intro _)
  all_goals first | exact h3 | (unfold mrg; omega) | omega
set_option maxRecDepth 100000 in
theorem W_22 {fl : Nat → Bool} {I : mM} {f : Int → Int} {L : Nat} {i : Int} (H : LI fl I) (hi : 0 ≤ i) (hL : i + 6 ≤ (L : Int)) (hf : ∀ q : Int, mrg (f q)) : wlP fl L f i I kL_body_1526 I := by
  unfold wlP
  have b1 : (0 ≤ i + 1) = True := eq_true (by omega)
  have c1 : (i + 1 < (L : Int)) = True := eq_true (by omega)
  have m1 : mrg (f (i + 1)) = True := eq_true (hf _)
  have b2 : (0 ≤ i + 2) = True := eq_true (by omega)
  have c2 : (i + 2 < (L : Int)) = True := eq_true (by omega)
  have m2 : mrg (f (i + 2)) = True := eq_true (hf _)
  have b3 : (0 ≤ i + 3) = True := eq_true (by omega)
  have c3 : (i + 3 < (L : Int)) = True := eq_true (by omega)
  have m3 : mrg (f (i + 3)) = True := eq_true (hf _)
  have b4 : (0 ≤ i + 4) = True := eq_true (by omega)
  have c4 : (i + 4 < (L : Int)) = True := eq_true (by omega)
  have m4 : mrg (f (i + 4)) = True := eq_true (hf _)
  have b5 : (0 ≤ i + 5) = True := eq_true (by omega)
  have c5 : (i + 5 < (L : Int)) = True := eq_true (by omega)
  have m5 : mrg (f (i + 5)) = True := eq_true (hf _)
  simp only [false_and, and_false, true_or, or_true, false_or, or_false, true_and, and_true, true_implies, false_implies, implies_true, not_true_eq_false, not_false_eq_true, and_self, List.length_cons, List.length_nil, mNoCut_, mCat_n, mCat_I, mCat_L, mCat_R, mIsL_n, mIsL_I, mIsL_R, mIsL_L, Nat.reduceAdd, Nat.reduceSub, Nat.reduceLeDiff, Nat.reduceLT, Nat.reduceEqDiff, Nat.zero_le, Int.reduceEq, Int.reduceLT, Int.reduceLE, Int.reduceNeg, Int.reduceAdd, if_true, if_false, reduceIte, reduceCtorEq, Bool.false_eq_true, ne_eq, qCmp_0, qCmp_1, qCmp_2, qCmp_3, qCmp_4, qCmp_5, ib_0, ib_1, ib_2, lb_0, lb_1, lb_2, dv_0, dv_1, wl_ic, wl_lc, wl_ld_i, wl_ld_a, wl_st_i, wl_ib, wl_if, mrg_0_, wl_goto, wl_ald, wl_ret1, wl_eqI, wl_eqL, ldR1, ldR0, ldI4, mrg_1_, ldR3, wl_callS3_4, SL_body_17, stI5, ldR2, wl_callV2_0, SL_body_146, stI6, wl_callV1_0, SL_body_104, ldI5, ldI6, mPut_s, mPut_I0, mPut_R0, mPut_L0, mPut_I1, mPut_R1, mPut_L1, mGoL_n, mGoL_c, mMask_t, mMask_f, mMask_n, cutL_body_1562, sfxL_body_1562, cutL_body_1579, sfxL_body_1579, cutL_body_1580, sfxL_body_1580, cutL_body_1586, sfxL_body_1586, cutL_body_3066, kL_body_1526, kL_body_1562, kL_body_1579, kL_body_1580, kL_body_1586, sk_0, al_0, sk_200, al_200, sk_230, al_230, sn_230, ald_r2, ald_230, shqR_, spX11_thrown, Option.some.injEq, ncast, b1, b2, b3, b4, b5, c1, c2, c3, c4, c5, m1, m2, m3, m4, m5]
  refine ⟨_, P_bound H (hf _), fun o I1 hq => ?_⟩
  obtain ⟨k, rfl, hk, hq⟩ := hq
  simp only [false_and, and_false, true_or, or_true, false_or, or_false, true_and, and_true, true_implies, false_implies, implies_true, not_true_eq_false, not_false_eq_true, and_self, List.length_cons, List.length_nil, mNoCut_, mCat_n, mCat_I, mCat_L, mCat_R, mIsL_n, mIsL_I, mIsL_R, mIsL_L, Nat.reduceAdd, Nat.reduceSub, Nat.reduceLeDiff, Nat.reduceLT, Nat.reduceEqDiff, Nat.zero_le, Int.reduceEq, Int.reduceLT, Int.reduceLE, Int.reduceNeg, Int.reduceAdd, if_true, if_false, reduceIte, reduceCtorEq, Bool.false_eq_true, ne_eq, qCmp_0, qCmp_1, qCmp_2, qCmp_3, qCmp_4, qCmp_5, ib_0, ib_1, ib_2, lb_0, lb_1, lb_2, dv_0, dv_1, wl_ic, wl_lc, wl_ld_i, wl_ld_a, wl_st_i, wl_ib, wl_if, mrg_0_, wl_goto, wl_ald, wl_ret1, wl_eqI, wl_eqL, ldR1, ldR0, ldI4, mrg_1_, ldR3, wl_callS3_4, SL_body_17, stI5, ldR2, wl_callV2_0, SL_body_146, stI6, wl_callV1_0, SL_body_104, ldI5, ldI6, mPut_s, mPut_I0, mPut_R0, mPut_L0, mPut_I1, mPut_R1, mPut_L1, mGoL_n, mGoL_c, mMask_t, mMask_f, mMask_n, cutL_body_1562, sfxL_body_1562, cutL_body_1579, sfxL_body_1579, cutL_body_1580, sfxL_body_1580, cutL_body_1586, sfxL_body_1586, cutL_body_3066, kL_body_1526, kL_body_1562, kL_body_1579, kL_body_1580, kL_body_1586, sk_0, al_0, sk_200, al_200, sk_230, al_230, sn_230, ald_r2, ald_230, shqR_, spX11_thrown, Option.some.injEq, ncast, b1, b2, b3, b4, b5, c1, c2, c3, c4, c5, m1, m2, m3, m4, m5]
  refine ⟨_, hq, fun o2 I2 h2 => ?_⟩
  obtain ⟨b, rfl, h3, ⟨hv, h0⟩, hI2⟩ := h2
  simp only [false_and, and_false, true_or, or_true, false_or, or_false, true_and, and_true, true_implies, false_implies, implies_true, not_true_eq_false, not_false_eq_true, and_self, List.length_cons, List.length_nil, mNoCut_, mCat_n, mCat_I, mCat_L, mCat_R, mIsL_n, mIsL_I, mIsL_R, mIsL_L, Nat.reduceAdd, Nat.reduceSub, Nat.reduceLeDiff, Nat.reduceLT, Nat.reduceEqDiff, Nat.zero_le, Int.reduceEq, Int.reduceLT, Int.reduceLE, Int.reduceNeg, Int.reduceAdd, if_true, if_false, reduceIte, reduceCtorEq, Bool.false_eq_true, ne_eq, qCmp_0, qCmp_1, qCmp_2, qCmp_3, qCmp_4, qCmp_5, ib_0, ib_1, ib_2, lb_0, lb_1, lb_2, dv_0, dv_1, wl_ic, wl_lc, wl_ld_i, wl_ld_a, wl_st_i, wl_ib, wl_if, mrg_0_, wl_goto, wl_ald, wl_ret1, wl_eqI, wl_eqL, ldR1, ldR0, ldI4, mrg_1_, ldR3, wl_callS3_4, SL_body_17, stI5, ldR2, wl_callV2_0, SL_body_146, stI6, wl_callV1_0, SL_body_104, ldI5, ldI6, mPut_s, mPut_I0, mPut_R0, mPut_L0, mPut_I1, mPut_R1, mPut_L1, mGoL_n, mGoL_c, mMask_t, mMask_f, mMask_n, cutL_body_1562, sfxL_body_1562, cutL_body_1579, sfxL_body_1579, cutL_body_1580, sfxL_body_1580, cutL_body_1586, sfxL_body_1586, cutL_body_3066, kL_body_1526, kL_body_1562, kL_body_1579, kL_body_1580, kL_body_1586, sk_0, al_0, sk_200, al_200, sk_230, al_230, sn_230, ald_r2, ald_230, shqR_, spX11_thrown, Option.some.injEq, ncast, b1, b2, b3, b4, b5, c1, c2, c3, c4, c5, m1, m2, m3, m4, m5]
  have hC : CL i fl L I 3066 (lvL i) [] I2 := ⟨rfl, rfl, Or.inl ⟨rfl, hI2⟩⟩
  repeat' (first | exact hC | exact h3 | apply And.intro | intro _)
  all_goals first | exact h3 | (unfold mrg; omega) | omega
set_option maxRecDepth 100000 in
theorem W_23 {fl : Nat → Bool} {I : mM} {f : Int → Int} {L : Nat} {i : Int} (H : LI fl I) (hi : 0 ≤ i) (hL : i + 6 ≤ (L : Int)) (hf : ∀ q : Int, mrg (f q)) : wlP fl L f i I kL_body_1589 I := by
  unfold wlP
  have b1 : (0 ≤ i + 1) = True := eq_true (by omega)
  have c1 : (i + 1 < (L : Int)) = True := eq_true (by omega)
  have m1 : mrg (f (i + 1)) = True := eq_true (hf _)
  have b2 : (0 ≤ i + 2) = True := eq_true (by omega)
  have c2 : (i + 2 < (L : Int)) = True := eq_true (by omega)
  have m2 : mrg (f (i + 2)) = True := eq_true (hf _)
  have b3 : (0 ≤ i + 3) = True := eq_true (by omega)
  have c3 : (i + 3 < (L : Int)) = True := eq_true (by omega)
  have m3 : mrg (f (i + 3)) = True := eq_true (hf _)
  have b4 : (0 ≤ i + 4) = True := eq_true (by omega)
  have c4 : (i + 4 < (L : Int)) = True := eq_true (by omega)
  have m4 : mrg (f (i + 4)) = True := eq_true (hf _)
  have b5 : (0 ≤ i + 5) = True := eq_true (by omega)
  have c5 : (i + 5 < (L : Int)) = True := eq_true (by omega)
  have m5 : mrg (f (i + 5)) = True := eq_true (hf _)
  simp only [false_and, and_false, true_or, or_true, false_or, or_false, true_and, and_true, true_implies, false_implies, implies_true, not_true_eq_false, not_false_eq_true, and_self, List.length_cons, List.length_nil, mNoCut_, mCat_n, mCat_I, mCat_L, mCat_R, mIsL_n, mIsL_I, mIsL_R, mIsL_L, Nat.reduceAdd, Nat.reduceSub, Nat.reduceLeDiff, Nat.reduceLT, Nat.reduceEqDiff, Nat.zero_le, Int.reduceEq, Int.reduceLT, Int.reduceLE, Int.reduceNeg, Int.reduceAdd, if_true, if_false, reduceIte, reduceCtorEq, Bool.false_eq_true, ne_eq, qCmp_0, qCmp_1, qCmp_2, qCmp_3, qCmp_4, qCmp_5, ib_0, ib_1, ib_2, lb_0, lb_1, lb_2, dv_0, dv_1, wl_ic, wl_lc, wl_ld_i, wl_ld_a, wl_st_i, wl_ib, wl_if, mrg_0_, wl_goto, wl_ald, wl_ret1, wl_eqI, wl_eqL, ldR1, ldR0, ldI4, mrg_1_, ldR3, wl_callS3_4, SL_body_18, stI5, ldR2, wl_callV2_0, SL_body_148, stI6, wl_callV1_0, SL_body_104, ldI5, ldI6, mPut_s, mPut_I0, mPut_R0, mPut_L0, mPut_I1, mPut_R1, mPut_L1, mGoL_n, mGoL_c, mMask_t, mMask_f, mMask_n, cutL_body_1625, sfxL_body_1625, cutL_body_1642, sfxL_body_1642, cutL_body_1643, sfxL_body_1643, cutL_body_1649, sfxL_body_1649, cutL_body_3066, kL_body_1589, kL_body_1625, kL_body_1642, kL_body_1643, kL_body_1649, sk_0, al_0, sk_200, al_200, sk_230, al_230, sn_230, ald_r2, ald_230, shqR_, spX11_thrown, Option.some.injEq, ncast, b1, b2, b3, b4, b5, c1, c2, c3, c4, c5, m1, m2, m3, m4, m5]
  refine ⟨_, P_gap H (hf _), fun o I1 hq => ?_⟩
  obtain ⟨k, rfl, hk, hq⟩ := hq
  simp only [false_and, and_false, true_or, or_true, false_or, or_false, true_and, and_true, true_implies, false_implies, implies_true, not_true_eq_false, not_false_eq_true, and_self, List.length_cons, List.length_nil, mNoCut_, mCat_n, mCat_I, mCat_L, mCat_R, mIsL_n, mIsL_I, mIsL_R, mIsL_L, Nat.reduceAdd, Nat.reduceSub, Nat.reduceLeDiff, Nat.reduceLT, Nat.reduceEqDiff, Nat.zero_le, Int.reduceEq, Int.reduceLT, Int.reduceLE, Int.reduceNeg, Int.reduceAdd, if_true, if_false, reduceIte, reduceCtorEq, Bool.false_eq_true, ne_eq, qCmp_0, qCmp_1, qCmp_2, qCmp_3, qCmp_4, qCmp_5, ib_0, ib_1, ib_2, lb_0, lb_1, lb_2, dv_0, dv_1, wl_ic, wl_lc, wl_ld_i, wl_ld_a, wl_st_i, wl_ib, wl_if, mrg_0_, wl_goto, wl_ald, wl_ret1, wl_eqI, wl_eqL, ldR1, ldR0, ldI4, mrg_1_, ldR3, wl_callS3_4, SL_body_18, stI5, ldR2, wl_callV2_0, SL_body_148, stI6, wl_callV1_0, SL_body_104, ldI5, ldI6, mPut_s, mPut_I0, mPut_R0, mPut_L0, mPut_I1, mPut_R1, mPut_L1, mGoL_n, mGoL_c, mMask_t, mMask_f, mMask_n, cutL_body_1625, sfxL_body_1625, cutL_body_1642, sfxL_body_1642, cutL_body_1643, sfxL_body_1643, cutL_body_1649, sfxL_body_1649, cutL_body_3066, kL_body_1589, kL_body_1625, kL_body_1642, kL_body_1643, kL_body_1649, sk_0, al_0, sk_200, al_200, sk_230, al_230, sn_230, ald_r2, ald_230, shqR_, spX11_thrown, Option.some.injEq, ncast, b1, b2, b3, b4, b5, c1, c2, c3, c4, c5, m1, m2, m3, m4, m5]
  refine ⟨_, hq, fun o2 I2 h2 => ?_⟩
  obtain ⟨b, rfl, h3, ⟨hv, h0⟩, hI2⟩ := h2
  simp only [false_and, and_false, true_or, or_true, false_or, or_false, true_and, and_true, true_implies, false_implies, implies_true, not_true_eq_false, not_false_eq_true, and_self, List.length_cons, List.length_nil, mNoCut_, mCat_n, mCat_I, mCat_L, mCat_R, mIsL_n, mIsL_I, mIsL_R, mIsL_L, Nat.reduceAdd, Nat.reduceSub, Nat.reduceLeDiff, Nat.reduceLT, Nat.reduceEqDiff, Nat.zero_le, Int.reduceEq, Int.reduceLT, Int.reduceLE, Int.reduceNeg, Int.reduceAdd, if_true, if_false, reduceIte, reduceCtorEq, Bool.false_eq_true, ne_eq, qCmp_0, qCmp_1, qCmp_2, qCmp_3, qCmp_4, qCmp_5, ib_0, ib_1, ib_2, lb_0, lb_1, lb_2, dv_0, dv_1, wl_ic, wl_lc, wl_ld_i, wl_ld_a, wl_st_i, wl_ib, wl_if, mrg_0_, wl_goto, wl_ald, wl_ret1, wl_eqI, wl_eqL, ldR1, ldR0, ldI4, mrg_1_, ldR3, wl_callS3_4, SL_body_18, stI5, ldR2, wl_callV2_0, SL_body_148, stI6, wl_callV1_0, SL_body_104, ldI5, ldI6, mPut_s, mPut_I0, mPut_R0, mPut_L0, mPut_I1, mPut_R1, mPut_L1, mGoL_n, mGoL_c, mMask_t, mMask_f, mMask_n, cutL_body_1625, sfxL_body_1625, cutL_body_1642, sfxL_body_1642, cutL_body_1643, sfxL_body_1643, cutL_body_1649, sfxL_body_1649, cutL_body_3066, kL_body_1589, kL_body_1625, kL_body_1642, kL_body_1643, kL_body_1649, sk_0, al_0, sk_200, al_200, sk_230, al_230, sn_230, ald_r2, ald_230, shqR_, spX11_thrown, Option.some.injEq, ncast, b1, b2, b3, b4, b5, c1, c2, c3, c4, c5, m1, m2, m3, m4, m5]
  have hC : CL i fl L I 3066 (lvL i) [] I2 := ⟨rfl, rfl, Or.inl ⟨rfl, hI2⟩⟩
  repeat' (first | exact hC | exact h3 | apply And.intro | intro _)
  all_goals first | exact h3 | (unfold mrg; omega) | omega
set_option maxRecDepth 100000 in
theorem W_24 {fl : Nat → Bool} {I : mM} {f : Int → Int} {L : Nat} {i : Int} (H : LI fl I) (hi : 0 ≤ i) (hL : i + 6 ≤ (L : Int)) (hf : ∀ q : Int, mrg (f q)) : wlP fl L f i I kL_body_1652 I := by
  unfold wlP
  have b1 : (0 ≤ i + 1) = True := eq_true (by omega)
  have c1 : (i + 1 < (L : Int)) = True := eq_true (by omega)
  have m1 : mrg (f (i + 1)) = True := eq_true (hf _)
  have b2 : (0 ≤ i + 2) = True := eq_true (by omega)
  have c2 : (i + 2 < (L : Int)) = True := eq_true (by omega)
  have m2 : mrg (f (i + 2)) = True := eq_true (hf _)
  have b3 : (0 ≤ i + 3) = True := eq_true (by omega)
  have c3 : (i + 3 < (L : Int)) = True := eq_true (by omega)
  have m3 : mrg (f (i + 3)) = True := eq_true (hf _)
  have b4 : (0 ≤ i + 4) = True := eq_true (by omega)
  have c4 : (i + 4 < (L : Int)) = True := eq_true (by omega)
  have m4 : mrg (f (i + 4)) = True := eq_true (hf _)
  have b5 : (0 ≤ i + 5) = True := eq_true (by omega)
  have c5 : (i + 5 < (L : Int)) = True := eq_true (by omega)
  have m5 : mrg (f (i + 5)) = True := eq_true (hf _)
  simp only [false_and, and_false, true_or, or_true, false_or, or_false, true_and, and_true, true_implies, false_implies, implies_true, not_true_eq_false, not_false_eq_true, and_self, List.length_cons, List.length_nil, mNoCut_, mCat_n, mCat_I, mCat_L, mCat_R, mIsL_n, mIsL_I, mIsL_R, mIsL_L, Nat.reduceAdd, Nat.reduceSub, Nat.reduceLeDiff, Nat.reduceLT, Nat.reduceEqDiff, Nat.zero_le, Int.reduceEq, Int.reduceLT, Int.reduceLE, Int.reduceNeg, Int.reduceAdd, if_true, if_false, reduceIte, reduceCtorEq, Bool.false_eq_true, ne_eq, qCmp_0, qCmp_1, qCmp_2, qCmp_3, qCmp_4, qCmp_5, ib_0, ib_1, ib_2, lb_0, lb_1, lb_2, dv_0, dv_1, wl_ic, wl_ld_i, wl_ld_a, wl_st_i, wl_ib, wl_goto, wl_ald, wl_ret1, wl_eqI, ldR1, ldR0, ldI4, mrg_1_, wl_callS3_4, SL_body_19, stI5, ldR2, wl_callV3_0, SL_body_150, wl_callV1_0, SL_body_104, ldI5, mrg_0_, mPut_s, mPut_I0, mPut_R0, mPut_L0, mPut_I1, mPut_R1, mPut_L1, mGoL_n, mGoL_c, mMask_t, mMask_f, mMask_n, cutL_body_1697, sfxL_body_1697, cutL_body_3066, kL_body_1652, kL_body_1697, sk_0, al_0, sk_200, al_200, sk_230, al_230, sn_230, ald_r2, ald_230, shqR_, spX11_thrown, Option.some.injEq, ncast, b1, b2, b3, b4, b5, c1, c2, c3, c4, c5, m1, m2, m3, m4, m5]
  refine ⟨_, P_way H (hf _) (hf _), fun o I1 hq => ?_⟩
  obtain ⟨k, rfl, hk, hq⟩ := hq
  simp only [false_and, and_false, true_or, or_true, false_or, or_false, true_and, and_true, true_implies, false_implies, implies_true, not_true_eq_false, not_false_eq_true, and_self, List.length_cons, List.length_nil, mNoCut_, mCat_n, mCat_I, mCat_L, mCat_R, mIsL_n, mIsL_I, mIsL_R, mIsL_L, Nat.reduceAdd, Nat.reduceSub, Nat.reduceLeDiff, Nat.reduceLT, Nat.reduceEqDiff, Nat.zero_le, Int.reduceEq, Int.reduceLT, Int.reduceLE, Int.reduceNeg, Int.reduceAdd, if_true, if_false, reduceIte, reduceCtorEq, Bool.false_eq_true, ne_eq, qCmp_0, qCmp_1, qCmp_2, qCmp_3, qCmp_4, qCmp_5, ib_0, ib_1, ib_2, lb_0, lb_1, lb_2, dv_0, dv_1, wl_ic, wl_ld_i, wl_ld_a, wl_st_i, wl_ib, wl_goto, wl_ald, wl_ret1, wl_eqI, ldR1, ldR0, ldI4, mrg_1_, wl_callS3_4, SL_body_19, stI5, ldR2, wl_callV3_0, SL_body_150, wl_callV1_0, SL_body_104, ldI5, mrg_0_, mPut_s, mPut_I0, mPut_R0, mPut_L0, mPut_I1, mPut_R1, mPut_L1, mGoL_n, mGoL_c, mMask_t, mMask_f, mMask_n, cutL_body_1697, sfxL_body_1697, cutL_body_3066, kL_body_1652, kL_body_1697, sk_0, al_0, sk_200, al_200, sk_230, al_230, sn_230, ald_r2, ald_230, shqR_, spX11_thrown, Option.some.injEq, ncast, b1, b2, b3, b4, b5, c1, c2, c3, c4, c5, m1, m2, m3, m4, m5]
  refine ⟨_, hq, fun o2 I2 h2 => ?_⟩
  obtain ⟨rfl, h3, hI2⟩ := h2
  simp only [false_and, and_false, true_or, or_true, false_or, or_false, true_and, and_true, true_implies, false_implies, implies_true, not_true_eq_false, not_false_eq_true, and_self, List.length_cons, List.length_nil, mNoCut_, mCat_n, mCat_I, mCat_L, mCat_R, mIsL_n, mIsL_I, mIsL_R, mIsL_L, Nat.reduceAdd, Nat.reduceSub, Nat.reduceLeDiff, Nat.reduceLT, Nat.reduceEqDiff, Nat.zero_le, Int.reduceEq, Int.reduceLT, Int.reduceLE, Int.reduceNeg, Int.reduceAdd, if_true, if_false, reduceIte, reduceCtorEq, Bool.false_eq_true, ne_eq, qCmp_0, qCmp_1, qCmp_2, qCmp_3, qCmp_4, qCmp_5, ib_0, ib_1, ib_2, lb_0, lb_1, lb_2, dv_0, dv_1, wl_ic, wl_ld_i, wl_ld_a, wl_st_i, wl_ib, wl_goto, wl_ald, wl_ret1, wl_eqI, ldR1, ldR0, ldI4, mrg_1_, wl_callS3_4, SL_body_19, stI5, ldR2, wl_callV3_0, SL_body_150, wl_callV1_0, SL_body_104, ldI5, mrg_0_, mPut_s, mPut_I0, mPut_R0, mPut_L0, mPut_I1, mPut_R1, mPut_L1, mGoL_n, mGoL_c, mMask_t, mMask_f, mMask_n, cutL_body_1697, sfxL_body_1697, cutL_body_3066, kL_body_1652, kL_body_1697, sk_0, al_0, sk_200, al_200, sk_230, al_230, sn_230, ald_r2, ald_230, shqR_, spX11_thrown, Option.some.injEq, ncast, b1, b2, b3, b4, b5, c1, c2, c3, c4, c5, m1, m2, m3, m4, m5]
  have hC : CL i fl L I 3066 (lvL i) [] I2 := ⟨rfl, rfl, Or.inl ⟨rfl, hI2⟩⟩
  repeat' (first | exact hC | exact h3 | apply And.intro | intro _)
  all_goals first | exact h3 | (unfold mrg; omega) | omega
set_option maxRecDepth 100000 in
theorem W_25 {fl : Nat → Bool} {I : mM} {f : Int → Int} {L : Nat} {i : Int} (H : LI fl I) (hi : 0 ≤ i) (hL : i + 6 ≤ (L : Int)) (hf : ∀ q : Int, mrg (f q)) : wlP fl L f i I kL_body_1700 I := by
  unfold wlP
  have b1 : (0 ≤ i + 1) = True := eq_true (by omega)
  have c1 : (i + 1 < (L : Int)) = True := eq_true (by omega)
  have m1 : mrg (f (i + 1)) = True := eq_true (hf _)
  have b2 : (0 ≤ i + 2) = True := eq_true (by omega)
  have c2 : (i + 2 < (L : Int)) = True := eq_true (by omega)
  have m2 : mrg (f (i + 2)) = True := eq_true (hf _)
  have b3 : (0 ≤ i + 3) = True := eq_true (by omega)
  have c3 : (i + 3 < (L : Int)) = True := eq_true (by omega)
  have m3 : mrg (f (i + 3)) = True := eq_true (hf _)
  have b4 : (0 ≤ i + 4) = True := eq_true (by omega)
  have c4 : (i + 4 < (L : Int)) = True := eq_true (by omega)
  have m4 : mrg (f (i + 4)) = True := eq_true (hf _)
  have b5 : (0 ≤ i + 5) = True := eq_true (by omega)
  have c5 : (i + 5 < (L : Int)) = True := eq_true (by omega)
  have m5 : mrg (f (i + 5)) = True := eq_true (hf _)
  simp only [false_and, and_false, true_or, or_true, false_or, or_false, true_and, and_true, true_implies, false_implies, implies_true, not_true_eq_false, not_false_eq_true, and_self, List.length_cons, List.length_nil, mNoCut_, mCat_n, mCat_I, mCat_L, mCat_R, mIsL_n, mIsL_I, mIsL_R, mIsL_L, Nat.reduceAdd, Nat.reduceSub, Nat.reduceLeDiff, Nat.reduceLT, Nat.reduceEqDiff, Nat.zero_le, Int.reduceEq, Int.reduceLT, Int.reduceLE, Int.reduceNeg, Int.reduceAdd, if_true, if_false, reduceIte, reduceCtorEq, Bool.false_eq_true, ne_eq, qCmp_0, qCmp_1, qCmp_2, qCmp_3, qCmp_4, qCmp_5, ib_0, ib_1, ib_2, lb_0, lb_1, lb_2, dv_0, dv_1, wl_ic, wl_lc, wl_ld_i, wl_ld_a, wl_st_i, wl_ib, wl_if, mrg_0_, wl_goto, wl_ald, wl_ret1, wl_eqI, wl_eqL, ldR1, ldR0, ldI4, mrg_1_, ldR3, wl_callS6_4, SL_body_20, stI5, ldR2, wl_callV5_0, SL_body_152, stI6, wl_callV1_0, SL_body_104, ldI5, ldI6, mPut_s, mPut_I0, mPut_R0, mPut_L0, mPut_I1, mPut_R1, mPut_L1, mGoL_n, mGoL_c, mMask_t, mMask_f, mMask_n, cutL_body_1772, sfxL_body_1772, cutL_body_1789, sfxL_body_1789, cutL_body_1790, sfxL_body_1790, cutL_body_1796, sfxL_body_1796, cutL_body_3066, kL_body_1700, kL_body_1772, kL_body_1789, kL_body_1790, kL_body_1796, sk_0, al_0, sk_200, al_200, sk_230, al_230, sn_230, ald_r2, ald_230, shqR_, spX11_thrown, Option.some.injEq, ncast, b1, b2, b3, b4, b5, c1, c2, c3, c4, c5, m1, m2, m3, m4, m5]
  refine ⟨_, P_rest H (hf _) (hf _) (hf _) (hf _), fun o I1 hq => ?_⟩
  obtain ⟨k, rfl, hk, hq⟩ := hq
  simp only [false_and, and_false, true_or, or_true, false_or, or_false, true_and, and_true, true_implies, false_implies, implies_true, not_true_eq_false, not_false_eq_true, and_self, List.length_cons, List.length_nil, mNoCut_, mCat_n, mCat_I, mCat_L, mCat_R, mIsL_n, mIsL_I, mIsL_R, mIsL_L, Nat.reduceAdd, Nat.reduceSub, Nat.reduceLeDiff, Nat.reduceLT, Nat.reduceEqDiff, Nat.zero_le, Int.reduceEq, Int.reduceLT, Int.reduceLE, Int.reduceNeg, Int.reduceAdd, if_true, if_false, reduceIte, reduceCtorEq, Bool.false_eq_true, ne_eq, qCmp_0, qCmp_1, qCmp_2, qCmp_3, qCmp_4, qCmp_5, ib_0, ib_1, ib_2, lb_0, lb_1, lb_2, dv_0, dv_1, wl_ic, wl_lc, wl_ld_i, wl_ld_a, wl_st_i, wl_ib, wl_if, mrg_0_, wl_goto, wl_ald, wl_ret1, wl_eqI, wl_eqL, ldR1, ldR0, ldI4, mrg_1_, ldR3, wl_callS6_4, SL_body_20, stI5, ldR2, wl_callV5_0, SL_body_152, stI6, wl_callV1_0, SL_body_104, ldI5, ldI6, mPut_s, mPut_I0, mPut_R0, mPut_L0, mPut_I1, mPut_R1, mPut_L1, mGoL_n, mGoL_c, mMask_t, mMask_f, mMask_n, cutL_body_1772, sfxL_body_1772, cutL_body_1789, sfxL_body_1789, cutL_body_1790, sfxL_body_1790, cutL_body_1796, sfxL_body_1796, cutL_body_3066, kL_body_1700, kL_body_1772, kL_body_1789, kL_body_1790, kL_body_1796, sk_0, al_0, sk_200, al_200, sk_230, al_230, sn_230, ald_r2, ald_230, shqR_, spX11_thrown, Option.some.injEq, ncast, b1, b2, b3, b4, b5, c1, c2, c3, c4, c5, m1, m2, m3, m4, m5]
  refine ⟨_, hq, fun o2 I2 h2 => ?_⟩
  obtain ⟨b, rfl, h3, ⟨hv, h0⟩, hI2⟩ := h2
  simp only [false_and, and_false, true_or, or_true, false_or, or_false, true_and, and_true, true_implies, false_implies, implies_true, not_true_eq_false, not_false_eq_true, and_self, List.length_cons, List.length_nil, mNoCut_, mCat_n, mCat_I, mCat_L, mCat_R, mIsL_n, mIsL_I, mIsL_R, mIsL_L, Nat.reduceAdd, Nat.reduceSub, Nat.reduceLeDiff, Nat.reduceLT, Nat.reduceEqDiff, Nat.zero_le, Int.reduceEq, Int.reduceLT, Int.reduceLE, Int.reduceNeg, Int.reduceAdd, if_true, if_false, reduceIte, reduceCtorEq, Bool.false_eq_true, ne_eq, qCmp_0, qCmp_1, qCmp_2, qCmp_3, qCmp_4, qCmp_5, ib_0, ib_1, ib_2, lb_0, lb_1, lb_2, dv_0, dv_1, wl_ic, wl_lc, wl_ld_i, wl_ld_a, wl_st_i, wl_ib, wl_if, mrg_0_, wl_goto, wl_ald, wl_ret1, wl_eqI, wl_eqL, ldR1, ldR0, ldI4, mrg_1_, ldR3, wl_callS6_4, SL_body_20, stI5, ldR2, wl_callV5_0, SL_body_152, stI6, wl_callV1_0, SL_body_104, ldI5, ldI6, mPut_s, mPut_I0, mPut_R0, mPut_L0, mPut_I1, mPut_R1, mPut_L1, mGoL_n, mGoL_c, mMask_t, mMask_f, mMask_n, cutL_body_1772, sfxL_body_1772, cutL_body_1789, sfxL_body_1789, cutL_body_1790, sfxL_body_1790, cutL_body_1796, sfxL_body_1796, cutL_body_3066, kL_body_1700, kL_body_1772, kL_body_1789, kL_body_1790, kL_body_1796, sk_0, al_0, sk_200, al_200, sk_230, al_230, sn_230, ald_r2, ald_230, shqR_, spX11_thrown, Option.some.injEq, ncast, b1, b2, b3, b4, b5, c1, c2, c3, c4, c5, m1, m2, m3, m4, m5]
  have hC : CL i fl L I 3066 (lvL i) [] I2 := ⟨rfl, rfl, Or.inl ⟨rfl, hI2⟩⟩
  repeat' (first | exact hC | exact h3 | apply And.intro | intro _)
  all_goals first | exact h3 | (unfold mrg; omega) | omega
set_option maxRecDepth 100000 in
theorem W_26 {fl : Nat → Bool} {I : mM} {f : Int → Int} {L : Nat} {i : Int} (H : LI fl I) (hi : 0 ≤ i) (hL : i + 6 ≤ (L : Int)) (hf : ∀ q : Int, mrg (f q)) : wlP fl L f i I kL_body_1799 I := by
  unfold wlP
  have b1 : (0 ≤ i + 1) = True := eq_true (by omega)
  have c1 : (i + 1 < (L : Int)) = True := eq_true (by omega)
  have m1 : mrg (f (i + 1)) = True := eq_true (hf _)
  have b2 : (0 ≤ i + 2) = True := eq_true (by omega)
  have c2 : (i + 2 < (L : Int)) = True := eq_true (by omega)
  have m2 : mrg (f (i + 2)) = True := eq_true (hf _)
  have b3 : (0 ≤ i + 3) = True := eq_true (by omega)
  have c3 : (i + 3 < (L : Int)) = True := eq_true (by omega)
  have m3 : mrg (f (i + 3)) = True := eq_true (hf _)
  have b4 : (0 ≤ i + 4) = True := eq_true (by omega)
  have c4 : (i + 4 < (L : Int)) = True := eq_true (by omega)
  have m4 : mrg (f (i + 4)) = True := eq_true (hf _)
  have b5 : (0 ≤ i + 5) = True := eq_true (by omega)
  have c5 : (i + 5 < (L : Int)) = True := eq_true (by omega)
  have m5 : mrg (f (i + 5)) = True := eq_true (hf _)
  simp only [false_and, and_false, true_or, or_true, false_or, or_false, true_and, and_true, true_implies, false_implies, implies_true, not_true_eq_false, not_false_eq_true, and_self, List.length_cons, List.length_nil, mNoCut_, mCat_n, mCat_I, mCat_L, mCat_R, mIsL_n, mIsL_I, mIsL_R, mIsL_L, Nat.reduceAdd, Nat.reduceSub, Nat.reduceLeDiff, Nat.reduceLT, Nat.reduceEqDiff, Nat.zero_le, Int.reduceEq, Int.reduceLT, Int.reduceLE, Int.reduceNeg, Int.reduceAdd, if_true, if_false, reduceIte, reduceCtorEq, Bool.false_eq_true, ne_eq, qCmp_0, qCmp_1, qCmp_2, qCmp_3, qCmp_4, qCmp_5, ib_0, ib_1, ib_2, lb_0, lb_1, lb_2, dv_0, dv_1, wl_ic, wl_ld_i, wl_ld_a, wl_st_i, wl_ib, wl_if, mrg_0_, wl_goto, wl_ald, wl_ret1, wl_eqI, wl_eqL, wl_i2x, ldR1, ldR0, ldI4, mrg_1_, ldR3, wl_callS4_4, SL_body_21, stI5, ldR2, wl_callV3_0, SL_body_154, stI6, wl_callV1_0, SL_body_104, ldI5, ldI6, mPut_s, mPut_I0, mPut_R0, mPut_L0, mPut_I1, mPut_R1, mPut_L1, mGoL_n, mGoL_c, mMask_t, mMask_f, mMask_n, cutL_body_1847, sfxL_body_1847, cutL_body_1864, sfxL_body_1864, cutL_body_3066, kL_body_1799, kL_body_1847, kL_body_1864, sk_0, al_0, sk_200, al_200, sk_230, al_230, sn_230, ald_r2, ald_230, shqR_, spX11_thrown, Option.some.injEq, ncast, b1, b2, b3, b4, b5, c1, c2, c3, c4, c5, m1, m2, m3, m4, m5]
  refine ⟨_, P_walk H (hf _) (hf _), fun o I1 hq => ?_⟩
  obtain ⟨k, rfl, hk, hq⟩ := hq
  simp only [false_and, and_false, true_or, or_true, false_or, or_false, true_and, and_true, true_implies, false_implies, implies_true, not_true_eq_false, not_false_eq_true, and_self, List.length_cons, List.length_nil, mNoCut_, mCat_n, mCat_I, mCat_L, mCat_R, mIsL_n, mIsL_I, mIsL_R, mIsL_L, Nat.reduceAdd, Nat.reduceSub, Nat.reduceLeDiff, Nat.reduceLT, Nat.reduceEqDiff, Nat.zero_le, Int.reduceEq, Int.reduceLT, Int.reduceLE, Int.reduceNeg, Int.reduceAdd, if_true, if_false, reduceIte, reduceCtorEq, Bool.false_eq_true, ne_eq, qCmp_0, qCmp_1, qCmp_2, qCmp_3, qCmp_4, qCmp_5, ib_0, ib_1, ib_2, lb_0, lb_1, lb_2, dv_0, dv_1, wl_ic, wl_ld_i, wl_ld_a, wl_st_i, wl_ib, wl_if, mrg_0_, wl_goto, wl_ald, wl_ret1, wl_eqI, wl_eqL, wl_i2x, ldR1, ldR0, ldI4, mrg_1_, ldR3, wl_callS4_4, SL_body_21, stI5, ldR2, wl_callV3_0, SL_body_154, stI6, wl_callV1_0, SL_body_104, ldI5, ldI6, mPut_s, mPut_I0, mPut_R0, mPut_L0, mPut_I1, mPut_R1, mPut_L1, mGoL_n, mGoL_c, mMask_t, mMask_f, mMask_n, cutL_body_1847, sfxL_body_1847, cutL_body_1864, sfxL_body_1864, cutL_body_3066, kL_body_1799, kL_body_1847, kL_body_1864, sk_0, al_0, sk_200, al_200, sk_230, al_230, sn_230, ald_r2, ald_230, shqR_, spX11_thrown, Option.some.injEq, ncast, b1, b2, b3, b4, b5, c1, c2, c3, c4, c5, m1, m2, m3, m4, m5]
  refine ⟨_, hq, fun o2 I2 h2 => ?_⟩
  obtain ⟨b, rfl, h3, h0, hI2⟩ := h2
  simp only [false_and, and_false, true_or, or_true, false_or, or_false, true_and, and_true, true_implies, false_implies, implies_true, not_true_eq_false, not_false_eq_true, and_self, List.length_cons, List.length_nil, mNoCut_, mCat_n, mCat_I, mCat_L, mCat_R, mIsL_n, mIsL_I, mIsL_R, mIsL_L, Nat.reduceAdd, Nat.reduceSub, Nat.reduceLeDiff, Nat.reduceLT, Nat.reduceEqDiff, Nat.zero_le, Int.reduceEq, Int.reduceLT, Int.reduceLE, Int.reduceNeg, Int.reduceAdd, if_true, if_false, reduceIte, reduceCtorEq, Bool.false_eq_true, ne_eq, qCmp_0, qCmp_1, qCmp_2, qCmp_3, qCmp_4, qCmp_5, ib_0, ib_1, ib_2, lb_0, lb_1, lb_2, dv_0, dv_1, wl_ic, wl_ld_i, wl_ld_a, wl_st_i, wl_ib, wl_if, mrg_0_, wl_goto, wl_ald, wl_ret1, wl_eqI, wl_eqL, wl_i2x, ldR1, ldR0, ldI4, mrg_1_, ldR3, wl_callS4_4, SL_body_21, stI5, ldR2, wl_callV3_0, SL_body_154, stI6, wl_callV1_0, SL_body_104, ldI5, ldI6, mPut_s, mPut_I0, mPut_R0, mPut_L0, mPut_I1, mPut_R1, mPut_L1, mGoL_n, mGoL_c, mMask_t, mMask_f, mMask_n, cutL_body_1847, sfxL_body_1847, cutL_body_1864, sfxL_body_1864, cutL_body_3066, kL_body_1799, kL_body_1847, kL_body_1864, sk_0, al_0, sk_200, al_200, sk_230, al_230, sn_230, ald_r2, ald_230, shqR_, spX11_thrown, Option.some.injEq, ncast, b1, b2, b3, b4, b5, c1, c2, c3, c4, c5, m1, m2, m3, m4, m5]
  have hC : CL i fl L I 3066 (lvL i) [] I2 := ⟨rfl, rfl, Or.inl ⟨rfl, hI2⟩⟩
  repeat' (first | exact hC | exact h3 | apply And.intro | intro _)
  all_goals first | exact h3 | (unfold mrg; omega) | omega
set_option maxRecDepth 100000 in
theorem W_27 {fl : Nat → Bool} {I : mM} {f : Int → Int} {L : Nat} {i : Int} (H : LI fl I) (hi : 0 ≤ i) (hL : i + 6 ≤ (L : Int)) (hf : ∀ q : Int, mrg (f q)) : wlP fl L f i I kL_body_1867 I := by
  unfold wlP
  have b1 : (0 ≤ i + 1) = True := eq_true (by omega)
  have c1 : (i + 1 < (L : Int)) = True := eq_true (by omega)
  have m1 : mrg (f (i + 1)) = True := eq_true (hf _)
  have b2 : (0 ≤ i + 2) = True := eq_true (by omega)
  have c2 : (i + 2 < (L : Int)) = True := eq_true (by omega)
  have m2 : mrg (f (i + 2)) = True := eq_true (hf _)
  have b3 : (0 ≤ i + 3) = True := eq_true (by omega)
  have c3 : (i + 3 < (L : Int)) = True := eq_true (by omega)
  have m3 : mrg (f (i + 3)) = True := eq_true (hf _)
  have b4 : (0 ≤ i + 4) = True := eq_true (by omega)
  have c4 : (i + 4 < (L : Int)) = True := eq_true (by omega)
  have m4 : mrg (f (i + 4)) = True := eq_true (hf _)
  have b5 : (0 ≤ i + 5) = True := eq_true (by omega)
  have c5 : (i + 5 < (L : Int)) = True := eq_true (by omega)
  have m5 : mrg (f (i + 5)) = True := eq_true (hf _)
  simp only [false_and, and_false, true_or, or_true, false_or, or_false, true_and, and_true, true_implies, false_implies, implies_true, not_true_eq_false, not_false_eq_true, and_self, List.length_cons, List.length_nil, mNoCut_, mCat_n, mCat_I, mCat_L, mCat_R, mIsL_n, mIsL_I, mIsL_R, mIsL_L, Nat.reduceAdd, Nat.reduceSub, Nat.reduceLeDiff, Nat.reduceLT, Nat.reduceEqDiff, Nat.zero_le, Int.reduceEq, Int.reduceLT, Int.reduceLE, Int.reduceNeg, Int.reduceAdd, if_true, if_false, reduceIte, reduceCtorEq, Bool.false_eq_true, ne_eq, qCmp_0, qCmp_1, qCmp_2, qCmp_3, qCmp_4, qCmp_5, ib_0, ib_1, ib_2, lb_0, lb_1, lb_2, dv_0, dv_1, wl_ic, wl_ld_i, wl_ld_a, wl_st_i, wl_ib, wl_if, mrg_0_, wl_goto, wl_ald, wl_ret1, wl_eqI, wl_eqL, wl_i2x, ldR1, ldR0, ldI4, mrg_1_, ldR3, wl_callS4_4, SL_body_22, stI5, ldR2, wl_callV3_0, SL_body_156, stI6, wl_callV1_0, SL_body_104, ldI5, ldI6, mPut_s, mPut_I0, mPut_R0, mPut_L0, mPut_I1, mPut_R1, mPut_L1, mGoL_n, mGoL_c, mMask_t, mMask_f, mMask_n, cutL_body_1915, sfxL_body_1915, cutL_body_1932, sfxL_body_1932, cutL_body_3066, kL_body_1867, kL_body_1915, kL_body_1932, sk_0, al_0, sk_200, al_200, sk_230, al_230, sn_230, ald_r2, ald_230, shqR_, spX11_thrown, Option.some.injEq, ncast, b1, b2, b3, b4, b5, c1, c2, c3, c4, c5, m1, m2, m3, m4, m5]
  refine ⟨_, P_tells H (hf _) (hf _), fun o I1 hq => ?_⟩
  obtain ⟨k, rfl, hk, hq⟩ := hq
  simp only [false_and, and_false, true_or, or_true, false_or, or_false, true_and, and_true, true_implies, false_implies, implies_true, not_true_eq_false, not_false_eq_true, and_self, List.length_cons, List.length_nil, mNoCut_, mCat_n, mCat_I, mCat_L, mCat_R, mIsL_n, mIsL_I, mIsL_R, mIsL_L, Nat.reduceAdd, Nat.reduceSub, Nat.reduceLeDiff, Nat.reduceLT, Nat.reduceEqDiff, Nat.zero_le, Int.reduceEq, Int.reduceLT, Int.reduceLE, Int.reduceNeg, Int.reduceAdd, if_true, if_false, reduceIte, reduceCtorEq, Bool.false_eq_true, ne_eq, qCmp_0, qCmp_1, qCmp_2, qCmp_3, qCmp_4, qCmp_5, ib_0, ib_1, ib_2, lb_0, lb_1, lb_2, dv_0, dv_1, wl_ic, wl_ld_i, wl_ld_a, wl_st_i, wl_ib, wl_if, mrg_0_, wl_goto, wl_ald, wl_ret1, wl_eqI, wl_eqL, wl_i2x, ldR1, ldR0, ldI4, mrg_1_, ldR3, wl_callS4_4, SL_body_22, stI5, ldR2, wl_callV3_0, SL_body_156, stI6, wl_callV1_0, SL_body_104, ldI5, ldI6, mPut_s, mPut_I0, mPut_R0, mPut_L0, mPut_I1, mPut_R1, mPut_L1, mGoL_n, mGoL_c, mMask_t, mMask_f, mMask_n, cutL_body_1915, sfxL_body_1915, cutL_body_1932, sfxL_body_1932, cutL_body_3066, kL_body_1867, kL_body_1915, kL_body_1932, sk_0, al_0, sk_200, al_200, sk_230, al_230, sn_230, ald_r2, ald_230, shqR_, spX11_thrown, Option.some.injEq, ncast, b1, b2, b3, b4, b5, c1, c2, c3, c4, c5, m1, m2, m3, m4, m5]
  refine ⟨_, hq, fun o2 I2 h2 => ?_⟩
  obtain ⟨b, rfl, h3, h0, hI2⟩ := h2
  simp only [false_and, and_false, true_or, or_true, false_or, or_false, true_and, and_true, true_implies, false_implies, implies_true, not_true_eq_false, not_false_eq_true, and_self, List.length_cons, List.length_nil, mNoCut_, mCat_n, mCat_I, mCat_L, mCat_R, mIsL_n, mIsL_I, mIsL_R, mIsL_L, Nat.reduceAdd, Nat.reduceSub, Nat.reduceLeDiff, Nat.reduceLT, Nat.reduceEqDiff, Nat.zero_le, Int.reduceEq, Int.reduceLT, Int.reduceLE, Int.reduceNeg, Int.reduceAdd, if_true, if_false, reduceIte, reduceCtorEq, Bool.false_eq_true, ne_eq, qCmp_0, qCmp_1, qCmp_2, qCmp_3, qCmp_4, qCmp_5, ib_0, ib_1, ib_2, lb_0, lb_1, lb_2, dv_0, dv_1, wl_ic, wl_ld_i, wl_ld_a, wl_st_i, wl_ib, wl_if, mrg_0_, wl_goto, wl_ald, wl_ret1, wl_eqI, wl_eqL, wl_i2x, ldR1, ldR0, ldI4, mrg_1_, ldR3, wl_callS4_4, SL_body_22, stI5, ldR2, wl_callV3_0, SL_body_156, stI6, wl_callV1_0, SL_body_104, ldI5, ldI6, mPut_s, mPut_I0, mPut_R0, mPut_L0, mPut_I1, mPut_R1, mPut_L1, mGoL_n, mGoL_c, mMask_t, mMask_f, mMask_n, cutL_body_1915, sfxL_body_1915, cutL_body_1932, sfxL_body_1932, cutL_body_3066, kL_body_1867, kL_body_1915, kL_body_1932, sk_0, al_0, sk_200, al_200, sk_230, al_230, sn_230, ald_r2, ald_230, shqR_, spX11_thrown, Option.some.injEq, ncast, b1, b2, b3, b4, b5, c1, c2, c3, c4, c5, m1, m2, m3, m4, m5]
  have hC : CL i fl L I 3066 (lvL i) [] I2 := ⟨rfl, rfl, Or.inl ⟨rfl, hI2⟩⟩
  repeat' (first | exact hC | exact h3 | apply And.intro | intro _)
  all_goals first | exact h3 | (unfold mrg; omega) | omega
set_option maxRecDepth 100000 in
theorem W_28 {fl : Nat → Bool} {I : mM} {f : Int → Int} {L : Nat} {i : Int} (H : LI fl I) (hi : 0 ≤ i) (hL : i + 6 ≤ (L : Int)) (hf : ∀ q : Int, mrg (f q)) : wlP fl L f i I kL_body_1935 I := by
  unfold wlP
  have b1 : (0 ≤ i + 1) = True := eq_true (by omega)
  have c1 : (i + 1 < (L : Int)) = True := eq_true (by omega)
  have m1 : mrg (f (i + 1)) = True := eq_true (hf _)
  have b2 : (0 ≤ i + 2) = True := eq_true (by omega)
  have c2 : (i + 2 < (L : Int)) = True := eq_true (by omega)
  have m2 : mrg (f (i + 2)) = True := eq_true (hf _)
  have b3 : (0 ≤ i + 3) = True := eq_true (by omega)
  have c3 : (i + 3 < (L : Int)) = True := eq_true (by omega)
  have m3 : mrg (f (i + 3)) = True := eq_true (hf _)
  have b4 : (0 ≤ i + 4) = True := eq_true (by omega)
  have c4 : (i + 4 < (L : Int)) = True := eq_true (by omega)
  have m4 : mrg (f (i + 4)) = True := eq_true (hf _)
  have b5 : (0 ≤ i + 5) = True := eq_true (by omega)
  have c5 : (i + 5 < (L : Int)) = True := eq_true (by omega)
  have m5 : mrg (f (i + 5)) = True := eq_true (hf _)
  simp only [false_and, and_false, true_or, or_true, false_or, or_false, true_and, and_true, true_implies, false_implies, implies_true, not_true_eq_false, not_false_eq_true, and_self, List.length_cons, List.length_nil, mNoCut_, mCat_n, mCat_I, mCat_L, mCat_R, mIsL_n, mIsL_I, mIsL_R, mIsL_L, Nat.reduceAdd, Nat.reduceSub, Nat.reduceLeDiff, Nat.reduceLT, Nat.reduceEqDiff, Nat.zero_le, Int.reduceEq, Int.reduceLT, Int.reduceLE, Int.reduceNeg, Int.reduceAdd, if_true, if_false, reduceIte, reduceCtorEq, Bool.false_eq_true, ne_eq, qCmp_0, qCmp_1, qCmp_2, qCmp_3, qCmp_4, qCmp_5, ib_0, ib_1, ib_2, lb_0, lb_1, lb_2, dv_0, dv_1, wl_ic, wl_ld_a, wl_ret1, wl_eqI, ldR1, wl_callV1_0, SL_body_157, ldR2, SL_body_158, mrg_0_, mPut_s, mPut_I0, mPut_R0, mPut_L0, mPut_I1, mPut_R1, mPut_L1, mGoL_n, mGoL_c, mMask_t, mMask_f, mMask_n, cutL_body_3066, kL_body_1935, sk_0, al_0, sk_200, al_200, sk_230, al_230, sn_230, ald_r2, ald_230, shqR_, spX11_thrown, Option.some.injEq, ncast, b1, b2, b3, b4, b5, c1, c2, c3, c4, c5, m1, m2, m3, m4, m5]
  refine ⟨_, P_bowl H, fun o I1 hq => ?_⟩
  obtain ⟨a, rfl, hq⟩ := hq
  simp only [false_and, and_false, true_or, or_true, false_or, or_false, true_and, and_true, true_implies, false_implies, implies_true, not_true_eq_false, not_false_eq_true, and_self, List.length_cons, List.length_nil, mNoCut_, mCat_n, mCat_I, mCat_L, mCat_R, mIsL_n, mIsL_I, mIsL_R, mIsL_L, Nat.reduceAdd, Nat.reduceSub, Nat.reduceLeDiff, Nat.reduceLT, Nat.reduceEqDiff, Nat.zero_le, Int.reduceEq, Int.reduceLT, Int.reduceLE, Int.reduceNeg, Int.reduceAdd, if_true, if_false, reduceIte, reduceCtorEq, Bool.false_eq_true, ne_eq, qCmp_0, qCmp_1, qCmp_2, qCmp_3, qCmp_4, qCmp_5, ib_0, ib_1, ib_2, lb_0, lb_1, lb_2, dv_0, dv_1, wl_ic, wl_ld_a, wl_ret1, wl_eqI, ldR1, wl_callV1_0, SL_body_157, ldR2, SL_body_158, mrg_0_, mPut_s, mPut_I0, mPut_R0, mPut_L0, mPut_I1, mPut_R1, mPut_L1, mGoL_n, mGoL_c, mMask_t, mMask_f, mMask_n, cutL_body_3066, kL_body_1935, sk_0, al_0, sk_200, al_200, sk_230, al_230, sn_230, ald_r2, ald_230, shqR_, spX11_thrown, Option.some.injEq, ncast, b1, b2, b3, b4, b5, c1, c2, c3, c4, c5, m1, m2, m3, m4, m5]
  refine ⟨_, hq, fun o2 I2 h2 => ?_⟩
  obtain ⟨b, rfl, h3, hI2⟩ := h2
  simp only [false_and, and_false, true_or, or_true, false_or, or_false, true_and, and_true, true_implies, false_implies, implies_true, not_true_eq_false, not_false_eq_true, and_self, List.length_cons, List.length_nil, mNoCut_, mCat_n, mCat_I, mCat_L, mCat_R, mIsL_n, mIsL_I, mIsL_R, mIsL_L, Nat.reduceAdd, Nat.reduceSub, Nat.reduceLeDiff, Nat.reduceLT, Nat.reduceEqDiff, Nat.zero_le, Int.reduceEq, Int.reduceLT, Int.reduceLE, Int.reduceNeg, Int.reduceAdd, if_true, if_false, reduceIte, reduceCtorEq, Bool.false_eq_true, ne_eq, qCmp_0, qCmp_1, qCmp_2, qCmp_3, qCmp_4, qCmp_5, ib_0, ib_1, ib_2, lb_0, lb_1, lb_2, dv_0, dv_1, wl_ic, wl_ld_a, wl_ret1, wl_eqI, ldR1, wl_callV1_0, SL_body_157, ldR2, SL_body_158, mrg_0_, mPut_s, mPut_I0, mPut_R0, mPut_L0, mPut_I1, mPut_R1, mPut_L1, mGoL_n, mGoL_c, mMask_t, mMask_f, mMask_n, cutL_body_3066, kL_body_1935, sk_0, al_0, sk_200, al_200, sk_230, al_230, sn_230, ald_r2, ald_230, shqR_, spX11_thrown, Option.some.injEq, ncast, b1, b2, b3, b4, b5, c1, c2, c3, c4, c5, m1, m2, m3, m4, m5]
  have hC : CL i fl L I 3066 (lvL i) [] I2 := ⟨rfl, rfl, Or.inl ⟨rfl, hI2⟩⟩
  repeat' (first | exact hC | exact h3 | apply And.intro | intro _)
  all_goals first | exact h3 | (unfold mrg; omega) | omega
set_option maxRecDepth 100000 in
theorem W_29 {fl : Nat → Bool} {I : mM} {f : Int → Int} {L : Nat} {i : Int} (H : LI fl I) (hi : 0 ≤ i) (hL : i + 6 ≤ (L : Int)) (hf : ∀ q : Int, mrg (f q)) : wlP fl L f i I kL_body_1948 I := by
  unfold wlP
  have b1 : (0 ≤ i + 1) = True := eq_true (by omega)
  have c1 : (i + 1 < (L : Int)) = True := eq_true (by omega)
  have m1 : mrg (f (i + 1)) = True := eq_true (hf _)
  have b2 : (0 ≤ i + 2) = True := eq_true (by omega)
  have c2 : (i + 2 < (L : Int)) = True := eq_true (by omega)
  have m2 : mrg (f (i + 2)) = True := eq_true (hf _)
  have b3 : (0 ≤ i + 3) = True := eq_true (by omega)
  have c3 : (i + 3 < (L : Int)) = True := eq_true (by omega)
  have m3 : mrg (f (i + 3)) = True := eq_true (hf _)
  have b4 : (0 ≤ i + 4) = True := eq_true (by omega)
  have c4 : (i + 4 < (L : Int)) = True := eq_true (by omega)
  have m4 : mrg (f (i + 4)) = True := eq_true (hf _)
  have b5 : (0 ≤ i + 5) = True := eq_true (by omega)
  have c5 : (i + 5 < (L : Int)) = True := eq_true (by omega)
  have m5 : mrg (f (i + 5)) = True := eq_true (hf _)
  simp only [false_and, and_false, true_or, or_true, false_or, or_false, true_and, and_true, true_implies, false_implies, implies_true, not_true_eq_false, not_false_eq_true, and_self, List.length_cons, List.length_nil, mNoCut_, mCat_n, mCat_I, mCat_L, mCat_R, mIsL_n, mIsL_I, mIsL_R, mIsL_L, Nat.reduceAdd, Nat.reduceSub, Nat.reduceLeDiff, Nat.reduceLT, Nat.reduceEqDiff, Nat.zero_le, Int.reduceEq, Int.reduceLT, Int.reduceLE, Int.reduceNeg, Int.reduceAdd, if_true, if_false, reduceIte, reduceCtorEq, Bool.false_eq_true, ne_eq, qCmp_0, qCmp_1, qCmp_2, qCmp_3, qCmp_4, qCmp_5, ib_0, ib_1, ib_2, lb_0, lb_1, lb_2, dv_0, dv_1, wl_ic, wl_ld_i, wl_ld_a, wl_st_i, wl_ib, wl_if, mrg_0_, wl_goto, wl_ald, wl_ret1, wl_eqI, wl_eqL, wl_i2x, ldR1, ldR0, ldI4, mrg_1_, ldR3, wl_callS6_4, SL_body_23, stI5, ldR2, wl_callV5_0, SL_body_160, stI6, wl_callV1_0, SL_body_104, ldI5, ldI6, mPut_s, mPut_I0, mPut_R0, mPut_L0, mPut_I1, mPut_R1, mPut_L1, mGoL_n, mGoL_c, mMask_t, mMask_f, mMask_n, cutL_body_2020, sfxL_body_2020, cutL_body_2037, sfxL_body_2037, cutL_body_3066, kL_body_1948, kL_body_2020, kL_body_2037, sk_0, al_0, sk_200, al_200, sk_230, al_230, sn_230, ald_r2, ald_230, shqR_, spX11_thrown, Option.some.injEq, ncast, b1, b2, b3, b4, b5, c1, c2, c3, c4, c5, m1, m2, m3, m4, m5]
  refine ⟨_, P_match H (hf _) (hf _) (hf _) (hf _), fun o I1 hq => ?_⟩
  obtain ⟨k, rfl, hk, hq⟩ := hq
  simp only [false_and, and_false, true_or, or_true, false_or, or_false, true_and, and_true, true_implies, false_implies, implies_true, not_true_eq_false, not_false_eq_true, and_self, List.length_cons, List.length_nil, mNoCut_, mCat_n, mCat_I, mCat_L, mCat_R, mIsL_n, mIsL_I, mIsL_R, mIsL_L, Nat.reduceAdd, Nat.reduceSub, Nat.reduceLeDiff, Nat.reduceLT, Nat.reduceEqDiff, Nat.zero_le, Int.reduceEq, Int.reduceLT, Int.reduceLE, Int.reduceNeg, Int.reduceAdd, if_true, if_false, reduceIte, reduceCtorEq, Bool.false_eq_true, ne_eq, qCmp_0, qCmp_1, qCmp_2, qCmp_3, qCmp_4, qCmp_5, ib_0, ib_1, ib_2, lb_0, lb_1, lb_2, dv_0, dv_1, wl_ic, wl_ld_i, wl_ld_a, wl_st_i, wl_ib, wl_if, mrg_0_, wl_goto, wl_ald, wl_ret1, wl_eqI, wl_eqL, wl_i2x, ldR1, ldR0, ldI4, mrg_1_, ldR3, wl_callS6_4, SL_body_23, stI5, ldR2, wl_callV5_0, SL_body_160, stI6, wl_callV1_0, SL_body_104, ldI5, ldI6, mPut_s, mPut_I0, mPut_R0, mPut_L0, mPut_I1, mPut_R1, mPut_L1, mGoL_n, mGoL_c, mMask_t, mMask_f, mMask_n, cutL_body_2020, sfxL_body_2020, cutL_body_2037, sfxL_body_2037, cutL_body_3066, kL_body_1948, kL_body_2020, kL_body_2037, sk_0, al_0, sk_200, al_200, sk_230, al_230, sn_230, ald_r2, ald_230, shqR_, spX11_thrown, Option.some.injEq, ncast, b1, b2, b3, b4, b5, c1, c2, c3, c4, c5, m1, m2, m3, m4, m5]
  refine ⟨_, hq, fun o2 I2 h2 => ?_⟩
  obtain ⟨b, rfl, h3, h0, hI2⟩ := h2
  simp only [false_and, and_false, true_or, or_true, false_or, or_false, true_and, and_true, true_implies, false_implies, implies_true, not_true_eq_false, not_false_eq_true, and_self, List.length_cons, List.length_nil, mNoCut_, mCat_n, mCat_I, mCat_L, mCat_R, mIsL_n, mIsL_I, mIsL_R, mIsL_L, Nat.reduceAdd, Nat.reduceSub, Nat.reduceLeDiff, Nat.reduceLT, Nat.reduceEqDiff, Nat.zero_le, Int.reduceEq, Int.reduceLT, Int.reduceLE, Int.reduceNeg, Int.reduceAdd, if_true, if_false, reduceIte, reduceCtorEq, Bool.false_eq_true, ne_eq, qCmp_0, qCmp_1, qCmp_2, qCmp_3, qCmp_4, qCmp_5, ib_0, ib_1, ib_2, lb_0, lb_1, lb_2, dv_0, dv_1, wl_ic, wl_ld_i, wl_ld_a, wl_st_i, wl_ib, wl_if, mrg_0_, wl_goto, wl_ald, wl_ret1, wl_eqI, wl_eqL, wl_i2x, ldR1, ldR0, ldI4, mrg_1_, ldR3, wl_callS6_4, SL_body_23, stI5, ldR2, wl_callV5_0, SL_body_160, stI6, wl_callV1_0, SL_body_104, ldI5, ldI6, mPut_s, mPut_I0, mPut_R0, mPut_L0, mPut_I1, mPut_R1, mPut_L1, mGoL_n, mGoL_c, mMask_t, mMask_f, mMask_n, cutL_body_2020, sfxL_body_2020, cutL_body_2037, sfxL_body_2037, cutL_body_3066, kL_body_1948, kL_body_2020, kL_body_2037, sk_0, al_0, sk_200, al_200, sk_230, al_230, sn_230, ald_r2, ald_230, shqR_, spX11_thrown, Option.some.injEq, ncast, b1, b2, b3, b4, b5, c1, c2, c3, c4, c5, m1, m2, m3, m4, m5]
  have hC : CL i fl L I 3066 (lvL i) [] I2 := ⟨rfl, rfl, Or.inl ⟨rfl, hI2⟩⟩
  repeat' (first | exact hC | exact h3 | apply And.intro | intro _)
  all_goals first | exact h3 | (unfold mrg; omega) | omega
set_option maxRecDepth 100000 in
theorem W_30 {fl : Nat → Bool} {I : mM} {f : Int → Int} {L : Nat} {i : Int} (H : LI fl I) (hi : 0 ≤ i) (hL : i + 6 ≤ (L : Int)) (hf : ∀ q : Int, mrg (f q)) : wlP fl L f i I kL_body_2040 I := by
  unfold wlP
  have b1 : (0 ≤ i + 1) = True := eq_true (by omega)
  have c1 : (i + 1 < (L : Int)) = True := eq_true (by omega)
  have m1 : mrg (f (i + 1)) = True := eq_true (hf _)
  have b2 : (0 ≤ i + 2) = True := eq_true (by omega)
  have c2 : (i + 2 < (L : Int)) = True := eq_true (by omega)
  have m2 : mrg (f (i + 2)) = True := eq_true (hf _)
  have b3 : (0 ≤ i + 3) = True := eq_true (by omega)
  have c3 : (i + 3 < (L : Int)) = True := eq_true (by omega)
  have m3 : mrg (f (i + 3)) = True := eq_true (hf _)
  have b4 : (0 ≤ i + 4) = True := eq_true (by omega)
  have c4 : (i + 4 < (L : Int)) = True := eq_true (by omega)
  have m4 : mrg (f (i + 4)) = True := eq_true (hf _)
  have b5 : (0 ≤ i + 5) = True := eq_true (by omega)
  have c5 : (i + 5 < (L : Int)) = True := eq_true (by omega)
  have m5 : mrg (f (i + 5)) = True := eq_true (hf _)
  simp only [false_and, and_false, true_or, or_true, false_or, or_false, true_and, and_true, true_implies, false_implies, implies_true, not_true_eq_false, not_false_eq_true, and_self, List.length_cons, List.length_nil, mNoCut_, mCat_n, mCat_I, mCat_L, mCat_R, mIsL_n, mIsL_I, mIsL_R, mIsL_L, Nat.reduceAdd, Nat.reduceSub, Nat.reduceLeDiff, Nat.reduceLT, Nat.reduceEqDiff, Nat.zero_le, Int.reduceEq, Int.reduceLT, Int.reduceLE, Int.reduceNeg, Int.reduceAdd, if_true, if_false, reduceIte, reduceCtorEq, Bool.false_eq_true, ne_eq, qCmp_0, qCmp_1, qCmp_2, qCmp_3, qCmp_4, qCmp_5, ib_0, ib_1, ib_2, lb_0, lb_1, lb_2, dv_0, dv_1, wl_ic, wl_lc, wl_ld_i, wl_ld_a, wl_st_i, wl_ib, wl_if, mrg_0_, wl_goto, wl_ald, wl_ret1, wl_eqI, wl_eqL, ldR1, ldR0, ldI4, mrg_1_, ldR3, wl_callS4_4, SL_body_24, stI5, ldR2, wl_callV3_0, SL_body_162, stI6, wl_callV1_0, SL_body_104, ldI5, ldI6, mPut_s, mPut_I0, mPut_R0, mPut_L0, mPut_I1, mPut_R1, mPut_L1, mGoL_n, mGoL_c, mMask_t, mMask_f, mMask_n, cutL_body_2088, sfxL_body_2088, cutL_body_2105, sfxL_body_2105, cutL_body_2106, sfxL_body_2106, cutL_body_2112, sfxL_body_2112, cutL_body_3066, kL_body_2040, kL_body_2088, kL_body_2105, kL_body_2106, kL_body_2112, sk_0, al_0, sk_200, al_200, sk_230, al_230, sn_230, ald_r2, ald_230, shqR_, spX11_thrown, Option.some.injEq, ncast, b1, b2, b3, b4, b5, c1, c2, c3, c4, c5, m1, m2, m3, m4, m5]
  refine ⟨_, P_worth H (hf _) (hf _), fun o I1 hq => ?_⟩
  obtain ⟨k, rfl, hk, hq⟩ := hq
  simp only [false_and, and_false, true_or, or_true, false_or, or_false, true_and, and_true, true_implies, false_implies, implies_true, not_true_eq_false, not_false_eq_true, and_self, List.length_cons, List.length_nil, mNoCut_, mCat_n, mCat_I, mCat_L, mCat_R, mIsL_n, mIsL_I, mIsL_R, mIsL_L, Nat.reduceAdd, Nat.reduceSub, Nat.reduceLeDiff, Nat.reduceLT, Nat.reduceEqDiff, Nat.zero_le, Int.reduceEq, Int.reduceLT, Int.reduceLE, Int.reduceNeg, Int.reduceAdd, if_true, if_false, reduceIte, reduceCtorEq, Bool.false_eq_true, ne_eq, qCmp_0, qCmp_1, qCmp_2, qCmp_3, qCmp_4, qCmp_5, ib_0, ib_1, ib_2, lb_0, lb_1, lb_2, dv_0, dv_1, wl_ic, wl_lc, wl_ld_i, wl_ld_a, wl_st_i, wl_ib, wl_if, mrg_0_, wl_goto, wl_ald, wl_ret1, wl_eqI, wl_eqL, ldR1, ldR0, ldI4, mrg_1_, ldR3, wl_callS4_4, SL_body_24, stI5, ldR2, wl_callV3_0, SL_body_162, stI6, wl_callV1_0, SL_body_104, ldI5, ldI6, mPut_s, mPut_I0, mPut_R0, mPut_L0, mPut_I1, mPut_R1, mPut_L1, mGoL_n, mGoL_c, mMask_t, mMask_f, mMask_n, cutL_body_2088, sfxL_body_2088, cutL_body_2105, sfxL_body_2105, cutL_body_2106, sfxL_body_2106, cutL_body_2112, sfxL_body_2112, cutL_body_3066, kL_body_2040, kL_body_2088, kL_body_2105, kL_body_2106, kL_body_2112, sk_0, al_0, sk_200, al_200, sk_230, al_230, sn_230, ald_r2, ald_230, shqR_, spX11_thrown, Option.some.injEq, ncast, b1, b2, b3, b4, b5, c1, c2, c3, c4, c5, m1, m2, m3, m4, m5]
  refine ⟨_, hq, fun o2 I2 h2 => ?_⟩
  obtain ⟨b, rfl, h3, ⟨hv, h0⟩, hI2⟩ := h2
  simp only [false_and, and_false, true_or, or_true, false_or, or_false, true_and, and_true, true_implies, false_implies, implies_true, not_true_eq_false, not_false_eq_true, and_self, List.length_cons, List.length_nil, mNoCut_, mCat_n, mCat_I, mCat_L, mCat_R, mIsL_n, mIsL_I, mIsL_R, mIsL_L, Nat.reduceAdd, Nat.reduceSub, Nat.reduceLeDiff, Nat.reduceLT, Nat.reduceEqDiff, Nat.zero_le, Int.reduceEq, Int.reduceLT, Int.reduceLE, Int.reduceNeg, Int.reduceAdd, if_true, if_false, reduceIte, reduceCtorEq, Bool.false_eq_true, ne_eq, qCmp_0, qCmp_1, qCmp_2, qCmp_3, qCmp_4, qCmp_5, ib_0, ib_1, ib_2, lb_0, lb_1, lb_2, dv_0, dv_1, wl_ic, wl_lc, wl_ld_i, wl_ld_a, wl_st_i, wl_ib, wl_if, mrg_0_, wl_goto, wl_ald, wl_ret1, wl_eqI, wl_eqL, ldR1, ldR0, ldI4, mrg_1_, ldR3, wl_callS4_4, SL_body_24, stI5, ldR2, wl_callV3_0, SL_body_162, stI6, wl_callV1_0, SL_body_104, ldI5, ldI6, mPut_s, mPut_I0, mPut_R0, mPut_L0, mPut_I1, mPut_R1, mPut_L1, mGoL_n, mGoL_c, mMask_t, mMask_f, mMask_n, cutL_body_2088, sfxL_body_2088, cutL_body_2105, sfxL_body_2105, cutL_body_2106, sfxL_body_2106, cutL_body_2112, sfxL_body_2112, cutL_body_3066, kL_body_2040, kL_body_2088, kL_body_2105, kL_body_2106, kL_body_2112, sk_0, al_0, sk_200, al_200, sk_230, al_230, sn_230, ald_r2, ald_230, shqR_, spX11_thrown, Option.some.injEq, ncast, b1, b2, b3, b4, b5, c1, c2, c3, c4, c5, m1, m2, m3, m4, m5]
  have hC : CL i fl L I 3066 (lvL i) [] I2 := ⟨rfl, rfl, Or.inl ⟨rfl, hI2⟩⟩
  repeat' (first | exact hC | exact h3 | apply And.intro | intro _)
  all_goals first | exact h3 | (unfold mrg; omega) | omega
set_option maxRecDepth 100000 in
theorem W_31 {fl : Nat → Bool} {I : mM} {f : Int → Int} {L : Nat} {i : Int} (H : LI fl I) (hi : 0 ≤ i) (hL : i + 6 ≤ (L : Int)) (hf : ∀ q : Int, mrg (f q)) : wlP fl L f i I kL_body_2115 I := by
  unfold wlP
  have b1 : (0 ≤ i + 1) = True := eq_true (by omega)
  have c1 : (i + 1 < (L : Int)) = True := eq_true (by omega)
  have m1 : mrg (f (i + 1)) = True := eq_true (hf _)
  have b2 : (0 ≤ i + 2) = True := eq_true (by omega)
  have c2 : (i + 2 < (L : Int)) = True := eq_true (by omega)
  have m2 : mrg (f (i + 2)) = True := eq_true (hf _)
  have b3 : (0 ≤ i + 3) = True := eq_true (by omega)
  have c3 : (i + 3 < (L : Int)) = True := eq_true (by omega)
  have m3 : mrg (f (i + 3)) = True := eq_true (hf _)
  have b4 : (0 ≤ i + 4) = True := eq_true (by omega)
  have c4 : (i + 4 < (L : Int)) = True := eq_true (by omega)
  have m4 : mrg (f (i + 4)) = True := eq_true (hf _)
  have b5 : (0 ≤ i + 5) = True := eq_true (by omega)
  have c5 : (i + 5 < (L : Int)) = True := eq_true (by omega)
  have m5 : mrg (f (i + 5)) = True := eq_true (hf _)
  simp only [false_and, and_false, true_or, or_true, false_or, or_false, true_and, and_true, true_implies, false_implies, implies_true, not_true_eq_false, not_false_eq_true, and_self, List.length_cons, List.length_nil, mNoCut_, mCat_n, mCat_I, mCat_L, mCat_R, mIsL_n, mIsL_I, mIsL_R, mIsL_L, Nat.reduceAdd, Nat.reduceSub, Nat.reduceLeDiff, Nat.reduceLT, Nat.reduceEqDiff, Nat.zero_le, Int.reduceEq, Int.reduceLT, Int.reduceLE, Int.reduceNeg, Int.reduceAdd, if_true, if_false, reduceIte, reduceCtorEq, Bool.false_eq_true, ne_eq, qCmp_0, qCmp_1, qCmp_2, qCmp_3, qCmp_4, qCmp_5, ib_0, ib_1, ib_2, lb_0, lb_1, lb_2, dv_0, dv_1, wl_ic, wl_lc, wl_ld_i, wl_ld_a, wl_st_i, wl_ib, wl_if, mrg_0_, wl_goto, wl_ald, wl_ret1, wl_eqI, wl_eqL, ldR1, ldR0, ldI4, mrg_1_, ldR3, wl_callS5_4, SL_body_25, stI5, ldR2, wl_callV4_0, SL_body_164, stI6, wl_callV1_0, SL_body_104, ldI5, ldI6, mPut_s, mPut_I0, mPut_R0, mPut_L0, mPut_I1, mPut_R1, mPut_L1, mGoL_n, mGoL_c, mMask_t, mMask_f, mMask_n, cutL_body_2175, sfxL_body_2175, cutL_body_2192, sfxL_body_2192, cutL_body_2193, sfxL_body_2193, cutL_body_2199, sfxL_body_2199, cutL_body_3066, kL_body_2115, kL_body_2175, kL_body_2192, kL_body_2193, kL_body_2199, sk_0, al_0, sk_200, al_200, sk_230, al_230, sn_230, ald_r2, ald_230, shqR_, spX11_thrown, Option.some.injEq, ncast, b1, b2, b3, b4, b5, c1, c2, c3, c4, c5, m1, m2, m3, m4, m5]
  refine ⟨_, P_brave H (hf _) (hf _) (hf _), fun o I1 hq => ?_⟩
  obtain ⟨k, rfl, hk, hq⟩ := hq
  simp only [false_and, and_false, true_or, or_true, false_or, or_false, true_and, and_true, true_implies, false_implies, implies_true, not_true_eq_false, not_false_eq_true, and_self, List.length_cons, List.length_nil, mNoCut_, mCat_n, mCat_I, mCat_L, mCat_R, mIsL_n, mIsL_I, mIsL_R, mIsL_L, Nat.reduceAdd, Nat.reduceSub, Nat.reduceLeDiff, Nat.reduceLT, Nat.reduceEqDiff, Nat.zero_le, Int.reduceEq, Int.reduceLT, Int.reduceLE, Int.reduceNeg, Int.reduceAdd, if_true, if_false, reduceIte, reduceCtorEq, Bool.false_eq_true, ne_eq, qCmp_0, qCmp_1, qCmp_2, qCmp_3, qCmp_4, qCmp_5, ib_0, ib_1, ib_2, lb_0, lb_1, lb_2, dv_0, dv_1, wl_ic, wl_lc, wl_ld_i, wl_ld_a, wl_st_i, wl_ib, wl_if, mrg_0_, wl_goto, wl_ald, wl_ret1, wl_eqI, wl_eqL, ldR1, ldR0, ldI4, mrg_1_, ldR3, wl_callS5_4, SL_body_25, stI5, ldR2, wl_callV4_0, SL_body_164, stI6, wl_callV1_0, SL_body_104, ldI5, ldI6, mPut_s, mPut_I0, mPut_R0, mPut_L0, mPut_I1, mPut_R1, mPut_L1, mGoL_n, mGoL_c, mMask_t, mMask_f, mMask_n, cutL_body_2175, sfxL_body_2175, cutL_body_2192, sfxL_body_2192, cutL_body_2193, sfxL_body_2193, cutL_body_2199, sfxL_body_2199, cutL_body_3066, kL_body_2115, kL_body_2175, kL_body_2192, kL_body_2193, kL_body_2199, sk_0, al_0, sk_200, al_200, sk_230, al_230, sn_230, ald_r2, ald_230, shqR_, spX11_thrown, Option.some.injEq, ncast, b1, b2, b3, b4, b5, c1, c2, c3, c4, c5, m1, m2, m3, m4, m5]
  refine ⟨_, hq, fun o2 I2 h2 => ?_⟩
  obtain ⟨b, rfl, h3, ⟨hv, h0⟩, hI2⟩ := h2
  simp only [false_and, and_false, true_or, or_true, false_or, or_false, true_and, and_true, true_implies, false_implies, implies_true, not_true_eq_false, not_false_eq_true, and_self, List.length_cons, List.length_nil, mNoCut_, mCat_n, mCat_I, mCat_L, mCat_R, mIsL_n, mIsL_I, mIsL_R, mIsL_L, Nat.reduceAdd, Nat.reduceSub, Nat.reduceLeDiff, Nat.reduceLT, Nat.reduceEqDiff, Nat.zero_le, Int.reduceEq, Int.reduceLT, Int.reduceLE, Int.reduceNeg, Int.reduceAdd, if_true, if_false, reduceIte, reduceCtorEq, Bool.false_eq_true, ne_eq, qCmp_0, qCmp_1, qCmp_2, qCmp_3, qCmp_4, qCmp_5, ib_0, ib_1, ib_2, lb_0, lb_1, lb_2, dv_0, dv_1, wl_ic, wl_lc, wl_ld_i, wl_ld_a, wl_st_i, wl_ib, wl_if, mrg_0_, wl_goto, wl_ald, wl_ret1, wl_eqI, wl_eqL, ldR1, ldR0, ldI4, mrg_1_, ldR3, wl_callS5_4, SL_body_25, stI5, ldR2, wl_callV4_0, SL_body_164, stI6, wl_callV1_0, SL_body_104, ldI5, ldI6, mPut_s, mPut_I0, mPut_R0, mPut_L0, mPut_I1, mPut_R1, mPut_L1, mGoL_n, mGoL_c, mMask_t, mMask_f, mMask_n, cutL_body_2175, sfxL_body_2175, cutL_body_2192, sfxL_body_2192, cutL_body_2193, sfxL_body_2193, cutL_body_2199, sfxL_body_2199, cutL_body_3066, kL_body_2115, kL_body_2175, kL_body_2192, kL_body_2193, kL_body_2199, sk_0, al_0, sk_200, al_200, sk_230, al_230, sn_230, ald_r2, ald_230, shqR_, spX11_thrown, Option.some.injEq, ncast, b1, b2, b3, b4, b5, c1, c2, c3, c4, c5, m1, m2, m3, m4, m5]
  have hC : CL i fl L I 3066 (lvL i) [] I2 := ⟨rfl, rfl, Or.inl ⟨rfl, hI2⟩⟩
  repeat' (first | exact hC | exact h3 | apply And.intro | intro _)
  all_goals first | exact h3 | (unfold mrg; omega) | omega
set_option maxRecDepth 100000 in
theorem W_32 {fl : Nat → Bool} {I : mM} {f : Int → Int} {L : Nat} {i : Int} (H : LI fl I) (hi : 0 ≤ i) (hL : i + 6 ≤ (L : Int)) (hf : ∀ q : Int, mrg (f q)) : wlP fl L f i I kL_body_2202 I := by
  unfold wlP
  have b1 : (0 ≤ i + 1) = True := eq_true (by omega)
  have c1 : (i + 1 < (L : Int)) = True := eq_true (by omega)
  have m1 : mrg (f (i + 1)) = True := eq_true (hf _)
  have b2 : (0 ≤ i + 2) = True := eq_true (by omega)
  have c2 : (i + 2 < (L : Int)) = True := eq_true (by omega)
  have m2 : mrg (f (i + 2)) = True := eq_true (hf _)
  have b3 : (0 ≤ i + 3) = True := eq_true (by omega)
  have c3 : (i + 3 < (L : Int)) = True := eq_true (by omega)
  have m3 : mrg (f (i + 3)) = True := eq_true (hf _)
  have b4 : (0 ≤ i + 4) = True := eq_true (by omega)
  have c4 : (i + 4 < (L : Int)) = True := eq_true (by omega)
  have m4 : mrg (f (i + 4)) = True := eq_true (hf _)
  have b5 : (0 ≤ i + 5) = True := eq_true (by omega)
  have c5 : (i + 5 < (L : Int)) = True := eq_true (by omega)
  have m5 : mrg (f (i + 5)) = True := eq_true (hf _)
  simp only [false_and, and_false, true_or, or_true, false_or, or_false, true_and, and_true, true_implies, false_implies, implies_true, not_true_eq_false, not_false_eq_true, and_self, List.length_cons, List.length_nil, mNoCut_, mCat_n, mCat_I, mCat_L, mCat_R, mIsL_n, mIsL_I, mIsL_R, mIsL_L, Nat.reduceAdd, Nat.reduceSub, Nat.reduceLeDiff, Nat.reduceLT, Nat.reduceEqDiff, Nat.zero_le, Int.reduceEq, Int.reduceLT, Int.reduceLE, Int.reduceNeg, Int.reduceAdd, if_true, if_false, reduceIte, reduceCtorEq, Bool.false_eq_true, ne_eq, qCmp_0, qCmp_1, qCmp_2, qCmp_3, qCmp_4, qCmp_5, ib_0, ib_1, ib_2, lb_0, lb_1, lb_2, dv_0, dv_1, wl_ic, wl_lc, wl_ld_i, wl_ld_a, wl_st_i, wl_ib, wl_if, mrg_0_, wl_goto, wl_ald, wl_ret1, wl_eqI, wl_eqL, ldR1, ldR0, ldI4, mrg_1_, ldR3, wl_callS4_4, SL_body_26, stI5, ldR2, wl_callV3_0, SL_body_166, stI6, wl_callV1_0, SL_body_104, ldI5, ldI6, mPut_s, mPut_I0, mPut_R0, mPut_L0, mPut_I1, mPut_R1, mPut_L1, mGoL_n, mGoL_c, mMask_t, mMask_f, mMask_n, cutL_body_2250, sfxL_body_2250, cutL_body_2267, sfxL_body_2267, cutL_body_2268, sfxL_body_2268, cutL_body_2274, sfxL_body_2274, cutL_body_3066, kL_body_2202, kL_body_2250, kL_body_2267, kL_body_2268, kL_body_2274, sk_0, al_0, sk_200, al_200, sk_230, al_230, sn_230, ald_r2, ald_230, shqR_, spX11_thrown, Option.some.injEq, ncast, b1, b2, b3, b4, b5, c1, c2, c3, c4, c5, m1, m2, m3, m4, m5]
  refine ⟨_, P_both H (hf _) (hf _), fun o I1 hq => ?_⟩
  obtain ⟨k, rfl, hk, hq⟩ := hq
  simp only [false_and, and_false, true_or, or_true, false_or, or_false, true_and, and_true, true_implies, false_implies, implies_true, not_true_eq_false, not_false_eq_true, and_self, List.length_cons, List.length_nil, mNoCut_, mCat_n, mCat_I, mCat_L, mCat_R, mIsL_n, mIsL_I, mIsL_R, mIsL_L, Nat.reduceAdd, Nat.reduceSub, Nat.reduceLeDiff, Nat.reduceLT, Nat.reduceEqDiff, Nat.zero_le, Int.reduceEq, Int.reduceLT, Int.reduceLE, Int.reduceNeg, Int.reduceAdd, if_true, if_false, reduceIte, reduceCtorEq, Bool.false_eq_true, ne_eq, qCmp_0, qCmp_1, qCmp_2, qCmp_3, qCmp_4, qCmp_5, ib_0, ib_1, ib_2, lb_0, lb_1, lb_2, dv_0, dv_1, wl_ic, wl_lc, wl_ld_i, wl_ld_a, wl_st_i, wl_ib, wl_if, mrg_0_, wl_goto, wl_ald, wl_ret1, wl_eqI, wl_eqL, ldR1, ldR0, ldI4, mrg_1_, ldR3, wl_callS4_4, SL_body_26, stI5, ldR2, wl_callV3_0, SL_body_166, stI6, wl_callV1_0, SL_body_104, ldI5, ldI6, mPut_s, mPut_I0, mPut_R0, mPut_L0, mPut_I1, mPut_R1, mPut_L1, mGoL_n, mGoL_c, mMask_t, mMask_f, mMask_n, cutL_body_2250, sfxL_body_2250, cutL_body_2267, sfxL_body_2267, cutL_body_2268, sfxL_body_2268, cutL_body_2274, sfxL_body_2274, cutL_body_3066, kL_body_2202, kL_body_2250, kL_body_2267, kL_body_2268, kL_body_2274, sk_0, al_0, sk_200, al_200, sk_230, al_230, sn_230, ald_r2, ald_230, shqR_, spX11_thrown, Option.some.injEq, ncast, b1, b2, b3, b4, b5, c1, c2, c3, c4, c5, m1, m2, m3, m4, m5]
  refine ⟨_, hq, fun o2 I2 h2 => ?_⟩
  obtain ⟨b, rfl, h3, ⟨hv, h0⟩, hI2⟩ := h2
  simp only [false_and, and_false, true_or, or_true, false_or, or_false, true_and, and_true, true_implies, false_implies, implies_true, not_true_eq_false, not_false_eq_true, and_self, List.length_cons, List.length_nil, mNoCut_, mCat_n, mCat_I, mCat_L, mCat_R, mIsL_n, mIsL_I, mIsL_R, mIsL_L, Nat.reduceAdd, Nat.reduceSub, Nat.reduceLeDiff, Nat.reduceLT, Nat.reduceEqDiff, Nat.zero_le, Int.reduceEq, Int.reduceLT, Int.reduceLE, Int.reduceNeg, Int.reduceAdd, if_true, if_false, reduceIte, reduceCtorEq, Bool.false_eq_true, ne_eq, qCmp_0, qCmp_1, qCmp_2, qCmp_3, qCmp_4, qCmp_5, ib_0, ib_1, ib_2, lb_0, lb_1, lb_2, dv_0, dv_1, wl_ic, wl_lc, wl_ld_i, wl_ld_a, wl_st_i, wl_ib, wl_if, mrg_0_, wl_goto, wl_ald, wl_ret1, wl_eqI, wl_eqL, ldR1, ldR0, ldI4, mrg_1_, ldR3, wl_callS4_4, SL_body_26, stI5, ldR2, wl_callV3_0, SL_body_166, stI6, wl_callV1_0, SL_body_104, ldI5, ldI6, mPut_s, mPut_I0, mPut_R0, mPut_L0, mPut_I1, mPut_R1, mPut_L1, mGoL_n, mGoL_c, mMask_t, mMask_f, mMask_n, cutL_body_2250, sfxL_body_2250, cutL_body_2267, sfxL_body_2267, cutL_body_2268, sfxL_body_2268, cutL_body_2274, sfxL_body_2274, cutL_body_3066, kL_body_2202, kL_body_2250, kL_body_2267, kL_body_2268, kL_body_2274, sk_0, al_0, sk_200, al_200, sk_230, al_230, sn_230, ald_r2, ald_230, shqR_, spX11_thrown, Option.some.injEq, ncast, b1, b2, b3, b4, b5, c1, c2, c3, c4, c5, m1, m2, m3, m4, m5]
  have hC : CL i fl L I 3066 (lvL i) [] I2 := ⟨rfl, rfl, Or.inl ⟨rfl, hI2⟩⟩
  repeat' (first | exact hC | exact h3 | apply And.intro | intro _)
  all_goals first | exact h3 | (unfold mrg; omega) | omega
set_option maxRecDepth 100000 in
theorem W_33 {fl : Nat → Bool} {I : mM} {f : Int → Int} {L : Nat} {i : Int} (H : LI fl I) (hi : 0 ≤ i) (hL : i + 6 ≤ (L : Int)) (hf : ∀ q : Int, mrg (f q)) : wlP fl L f i I kL_body_2277 I := by
  unfold wlP
  have b1 : (0 ≤ i + 1) = True := eq_true (by omega)
  have c1 : (i + 1 < (L : Int)) = True := eq_true (by omega)
  have m1 : mrg (f (i + 1)) = True := eq_true (hf _)
  have b2 : (0 ≤ i + 2) = True := eq_true (by omega)
  have c2 : (i + 2 < (L : Int)) = True := eq_true (by omega)
  have m2 : mrg (f (i + 2)) = True := eq_true (hf _)
  have b3 : (0 ≤ i + 3) = True := eq_true (by omega)
  have c3 : (i + 3 < (L : Int)) = True := eq_true (by omega)
  have m3 : mrg (f (i + 3)) = True := eq_true (hf _)
  have b4 : (0 ≤ i + 4) = True := eq_true (by omega)
  have c4 : (i + 4 < (L : Int)) = True := eq_true (by omega)
  have m4 : mrg (f (i + 4)) = True := eq_true (hf _)
  have b5 : (0 ≤ i + 5) = True := eq_true (by omega)
  have c5 : (i + 5 < (L : Int)) = True := eq_true (by omega)
  have m5 : mrg (f (i + 5)) = True := eq_true (hf _)
  simp only [false_and, and_false, true_or, or_true, false_or, or_false, true_and, and_true, true_implies, false_implies, implies_true, not_true_eq_false, not_false_eq_true, and_self, List.length_cons, List.length_nil, mNoCut_, mCat_n, mCat_I, mCat_L, mCat_R, mIsL_n, mIsL_I, mIsL_R, mIsL_L, Nat.reduceAdd, Nat.reduceSub, Nat.reduceLeDiff, Nat.reduceLT, Nat.reduceEqDiff, Nat.zero_le, Int.reduceEq, Int.reduceLT, Int.reduceLE, Int.reduceNeg, Int.reduceAdd, if_true, if_false, reduceIte, reduceCtorEq, Bool.false_eq_true, ne_eq, qCmp_0, qCmp_1, qCmp_2, qCmp_3, qCmp_4, qCmp_5, ib_0, ib_1, ib_2, lb_0, lb_1, lb_2, dv_0, dv_1, wl_ic, wl_ld_i, wl_ld_a, wl_st_i, wl_ib, wl_if, mrg_0_, wl_goto, wl_ald, wl_ret1, wl_eqI, wl_eqL, wl_i2x, ldR1, ldR0, ldI4, mrg_1_, ldR3, wl_callS5_4, SL_body_27, stI5, ldR2, wl_callV4_0, SL_body_168, stI6, wl_callV1_0, SL_body_104, ldI5, ldI6, mPut_s, mPut_I0, mPut_R0, mPut_L0, mPut_I1, mPut_R1, mPut_L1, mGoL_n, mGoL_c, mMask_t, mMask_f, mMask_n, cutL_body_2337, sfxL_body_2337, cutL_body_2354, sfxL_body_2354, cutL_body_3066, kL_body_2277, kL_body_2337, kL_body_2354, sk_0, al_0, sk_200, al_200, sk_230, al_230, sn_230, ald_r2, ald_230, shqR_, spX11_thrown, Option.some.injEq, ncast, b1, b2, b3, b4, b5, c1, c2, c3, c4, c5, m1, m2, m3, m4, m5]
  refine ⟨_, P_book H (hf _) (hf _) (hf _), fun o I1 hq => ?_⟩
  obtain ⟨k, rfl, hk, hq⟩ := hq
  simp only [false_and, and_false, true_or, or_true, false_or, or_false, true_and, and_true, true_implies, false_implies, implies_true, not_true_eq_false, not_false_eq_true, and_self, List.length_cons, List.length_nil, mNoCut_, mCat_n, mCat_I, mCat_L, mCat_R, mIsL_n, mIsL_I, mIsL_R, mIsL_L, Nat.reduceAdd, Nat.reduceSub, Nat.reduceLeDiff, Nat.reduceLT, Nat.reduceEqDiff, Nat.zero_le, Int.reduceEq, Int.reduceLT, Int.reduceLE, Int.reduceNeg, Int.reduceAdd, if_true, if_false, reduceIte, reduceCtorEq, Bool.false_eq_true, ne_eq, qCmp_0, qCmp_1, qCmp_2, qCmp_3, qCmp_4, qCmp_5, ib_0, ib_1, ib_2, lb_0, lb_1, lb_2, dv_0, dv_1, wl_ic, wl_ld_i, wl_ld_a, wl_st_i, wl_ib, wl_if, mrg_0_, wl_goto, wl_ald, wl_ret1, wl_eqI, wl_eqL, wl_i2x, ldR1, ldR0, ldI4, mrg_1_, ldR3, wl_callS5_4, SL_body_27, stI5, ldR2, wl_callV4_0, SL_body_168, stI6, wl_callV1_0, SL_body_104, ldI5, ldI6, mPut_s, mPut_I0, mPut_R0, mPut_L0, mPut_I1, mPut_R1, mPut_L1, mGoL_n, mGoL_c, mMask_t, mMask_f, mMask_n, cutL_body_2337, sfxL_body_2337, cutL_body_2354, sfxL_body_2354, cutL_body_3066, kL_body_2277, kL_body_2337, kL_body_2354, sk_0, al_0, sk_200, al_200, sk_230, al_230, sn_230, ald_r2, ald_230, shqR_, spX11_thrown, Option.some.injEq, ncast, b1, b2, b3, b4, b5, c1, c2, c3, c4, c5, m1, m2, m3, m4, m5]
  refine ⟨_, hq, fun o2 I2 h2 => ?_⟩
  obtain ⟨b, rfl, h3, h0, hI2⟩ := h2
  simp only [false_and, and_false, true_or, or_true, false_or, or_false, true_and, and_true, true_implies, false_implies, implies_true, not_true_eq_false, not_false_eq_true, and_self, List.length_cons, List.length_nil, mNoCut_, mCat_n, mCat_I, mCat_L, mCat_R, mIsL_n, mIsL_I, mIsL_R, mIsL_L, Nat.reduceAdd, Nat.reduceSub, Nat.reduceLeDiff, Nat.reduceLT, Nat.reduceEqDiff, Nat.zero_le, Int.reduceEq, Int.reduceLT, Int.reduceLE, Int.reduceNeg, Int.reduceAdd, if_true, if_false, reduceIte, reduceCtorEq, Bool.false_eq_true, ne_eq, qCmp_0, qCmp_1, qCmp_2, qCmp_3, qCmp_4, qCmp_5, ib_0, ib_1, ib_2, lb_0, lb_1, lb_2, dv_0, dv_1, wl_ic, wl_ld_i, wl_ld_a, wl_st_i, wl_ib, wl_if, mrg_0_, wl_goto, wl_ald, wl_ret1, wl_eqI, wl_eqL, wl_i2x, ldR1, ldR0, ldI4, mrg_1_, ldR3, wl_callS5_4, SL_body_27, stI5, ldR2, wl_callV4_0, SL_body_168, stI6, wl_callV1_0, SL_body_104, ldI5, ldI6, mPut_s, mPut_I0, mPut_R0, mPut_L0, mPut_I1, mPut_R1, mPut_L1, mGoL_n, mGoL_c, mMask_t, mMask_f, mMask_n, cutL_body_2337, sfxL_body_2337, cutL_body_2354, sfxL_body_2354, cutL_body_3066, kL_body_2277, kL_body_2337, kL_body_2354, sk_0, al_0, sk_200, al_200, sk_230, al_230, sn_230, ald_r2, ald_230, shqR_, spX11_thrown, Option.some.injEq, ncast, b1, b2, b3, b4, b5, c1, c2, c3, c4, c5, m1, m2, m3, m4, m5]
  have hC : CL i fl L I 3066 (lvL i) [] I2 := ⟨rfl, rfl, Or.inl ⟨rfl, hI2⟩⟩
  repeat' (first | exact hC | exact h3 | apply And.intro | intro _)
  all_goals first | exact h3 | (unfold mrg; omega) | omega
set_option maxRecDepth 100000 in
theorem W_34 {fl : Nat → Bool} {I : mM} {f : Int → Int} {L : Nat} {i : Int} (H : LI fl I) (hi : 0 ≤ i) (hL : i + 6 ≤ (L : Int)) (hf : ∀ q : Int, mrg (f q)) : wlP fl L f i I kL_body_2357 I := by
  unfold wlP
  have b1 : (0 ≤ i + 1) = True := eq_true (by omega)
  have c1 : (i + 1 < (L : Int)) = True := eq_true (by omega)
  have m1 : mrg (f (i + 1)) = True := eq_true (hf _)
  have b2 : (0 ≤ i + 2) = True := eq_true (by omega)
  have c2 : (i + 2 < (L : Int)) = True := eq_true (by omega)
  have m2 : mrg (f (i + 2)) = True := eq_true (hf _)
  have b3 : (0 ≤ i + 3) = True := eq_true (by omega)
  have c3 : (i + 3 < (L : Int)) = True := eq_true (by omega)
  have m3 : mrg (f (i + 3)) = True := eq_true (hf _)
  have b4 : (0 ≤ i + 4) = True := eq_true (by omega)
  have c4 : (i + 4 < (L : Int)) = True := eq_true (by omega)
  have m4 : mrg (f (i + 4)) = True := eq_true (hf _)
  have b5 : (0 ≤ i + 5) = True := eq_true (by omega)
  have c5 : (i + 5 < (L : Int)) = True := eq_true (by omega)
  have m5 : mrg (f (i + 5)) = True := eq_true (hf _)
  simp only [false_and, and_false, true_or, or_true, false_or, or_false, true_and, and_true, true_implies, false_implies, implies_true, not_true_eq_false, not_false_eq_true, and_self, List.length_cons, List.length_nil, mNoCut_, mCat_n, mCat_I, mCat_L, mCat_R, mIsL_n, mIsL_I, mIsL_R, mIsL_L, Nat.reduceAdd, Nat.reduceSub, Nat.reduceLeDiff, Nat.reduceLT, Nat.reduceEqDiff, Nat.zero_le, Int.reduceEq, Int.reduceLT, Int.reduceLE, Int.reduceNeg, Int.reduceAdd, if_true, if_false, reduceIte, reduceCtorEq, Bool.false_eq_true, ne_eq, qCmp_0, qCmp_1, qCmp_2, qCmp_3, qCmp_4, qCmp_5, ib_0, ib_1, ib_2, lb_0, lb_1, lb_2, dv_0, dv_1, wl_ic, wl_ld_i, wl_ld_a, wl_st_i, wl_ib, wl_if, mrg_0_, wl_goto, wl_ald, wl_ret1, wl_eqI, wl_eqL, wl_i2x, ldR1, ldR0, ldI4, mrg_1_, ldR3, wl_callS3_4, SL_body_28, stI5, ldR2, wl_callV2_0, SL_body_170, stI6, wl_callV1_0, SL_body_104, ldI5, ldI6, mPut_s, mPut_I0, mPut_R0, mPut_L0, mPut_I1, mPut_R1, mPut_L1, mGoL_n, mGoL_c, mMask_t, mMask_f, mMask_n, cutL_body_2393, sfxL_body_2393, cutL_body_2410, sfxL_body_2410, cutL_body_3066, kL_body_2357, kL_body_2393, kL_body_2410, sk_0, al_0, sk_200, al_200, sk_230, al_230, sn_230, ald_r2, ald_230, shqR_, spX11_thrown, Option.some.injEq, ncast, b1, b2, b3, b4, b5, c1, c2, c3, c4, c5, m1, m2, m3, m4, m5]
  refine ⟨_, P_learn H (hf _), fun o I1 hq => ?_⟩
  obtain ⟨k, rfl, hk, hq⟩ := hq
  simp only [false_and, and_false, true_or, or_true, false_or, or_false, true_and, and_true, true_implies, false_implies, implies_true, not_true_eq_false, not_false_eq_true, and_self, List.length_cons, List.length_nil, mNoCut_, mCat_n, mCat_I, mCat_L, mCat_R, mIsL_n, mIsL_I, mIsL_R, mIsL_L, Nat.reduceAdd, Nat.reduceSub, Nat.reduceLeDiff, Nat.reduceLT, Nat.reduceEqDiff, Nat.zero_le, Int.reduceEq, Int.reduceLT, Int.reduceLE, Int.reduceNeg, Int.reduceAdd, if_true, if_false, reduceIte, reduceCtorEq, Bool.false_eq_true, ne_eq, qCmp_0, qCmp_1, qCmp_2, qCmp_3, qCmp_4, qCmp_5, ib_0, ib_1, ib_2, lb_0, lb_1, lb_2, dv_0, dv_1, wl_ic, wl_ld_i, wl_ld_a, wl_st_i, wl_ib, wl_if, mrg_0_, wl_goto, wl_ald, wl_ret1, wl_eqI, wl_eqL, wl_i2x, ldR1, ldR0, ldI4, mrg_1_, ldR3, wl_callS3_4, SL_body_28, stI5, ldR2, wl_callV2_0, SL_body_170, stI6, wl_callV1_0, SL_body_104, ldI5, ldI6, mPut_s, mPut_I0, mPut_R0, mPut_L0, mPut_I1, mPut_R1, mPut_L1, mGoL_n, mGoL_c, mMask_t, mMask_f, mMask_n, cutL_body_2393, sfxL_body_2393, cutL_body_2410, sfxL_body_2410, cutL_body_3066, kL_body_2357, kL_body_2393, kL_body_2410, sk_0, al_0, sk_200, al_200, sk_230, al_230, sn_230, ald_r2, ald_230, shqR_, spX11_thrown, Option.some.injEq, ncast, b1, b2, b3, b4, b5, c1, c2, c3, c4, c5, m1, m2, m3, m4, m5]
  refine ⟨_, hq, fun o2 I2 h2 => ?_⟩
  obtain ⟨b, rfl, h3, h0, hI2⟩ := h2
  simp only [false_and, and_false, true_or, or_true, false_or, or_false, true_and, and_true, true_implies, false_implies, implies_true, not_true_eq_false, not_false_eq_true, and_self, List.length_cons, List.length_nil, mNoCut_, mCat_n, mCat_I, mCat_L, mCat_R, mIsL_n, mIsL_I, mIsL_R, mIsL_L, Nat.reduceAdd, Nat.reduceSub, Nat.reduceLeDiff, Nat.reduceLT, Nat.reduceEqDiff, Nat.zero_le, Int.reduceEq, Int.reduceLT, Int.reduceLE, Int.reduceNeg, Int.reduceAdd, if_true, if_false, reduceIte, reduceCtorEq, Bool.false_eq_true, ne_eq, qCmp_0, qCmp_1, qCmp_2, qCmp_3, qCmp_4, qCmp_5, ib_0, ib_1, ib_2, lb_0, lb_1, lb_2, dv_0, dv_1, wl_ic, wl_ld_i, wl_ld_a, wl_st_i, wl_ib, wl_if, mrg_0_, wl_goto, wl_ald, wl_ret1, wl_eqI, wl_eqL, wl_i2x, ldR1, ldR0, ldI4, mrg_1_, ldR3, wl_callS3_4, SL_body_28, stI5, ldR2, wl_callV2_0, SL_body_170, stI6, wl_callV1_0, SL_body_104, ldI5, ldI6, mPut_s, mPut_I0, mPut_R0, mPut_L0, mPut_I1, mPut_R1, mPut_L1, mGoL_n, mGoL_c, mMask_t, mMask_f, mMask_n, cutL_body_2393, sfxL_body_2393, cutL_body_2410, sfxL_body_2410, cutL_body_3066, kL_body_2357, kL_body_2393, kL_body_2410, sk_0, al_0, sk_200, al_200, sk_230, al_230, sn_230, ald_r2, ald_230, shqR_, spX11_thrown, Option.some.injEq, ncast, b1, b2, b3, b4, b5, c1, c2, c3, c4, c5, m1, m2, m3, m4, m5]
  have hC : CL i fl L I 3066 (lvL i) [] I2 := ⟨rfl, rfl, Or.inl ⟨rfl, hI2⟩⟩
  repeat' (first | exact hC | exact h3 | apply And.intro | intro _)
  all_goals first | exact h3 | (unfold mrg; omega) | omega
set_option maxRecDepth 100000 in
theorem W_35 {fl : Nat → Bool} {I : mM} {f : Int → Int} {L : Nat} {i : Int} (H : LI fl I) (hi : 0 ≤ i) (hL : i + 6 ≤ (L : Int)) (hf : ∀ q : Int, mrg (f q)) : wlP fl L f i I kL_body_2413 I := by
  unfold wlP
  have b1 : (0 ≤ i + 1) = True := eq_true (by omega)
  have c1 : (i + 1 < (L : Int)) = True := eq_true (by omega)
  have m1 : mrg (f (i + 1)) = True := eq_true (hf _)
  have b2 : (0 ≤ i + 2) = True := eq_true (by omega)
  have c2 : (i + 2 < (L : Int)) = True := eq_true (by omega)
  have m2 : mrg (f (i + 2)) = True := eq_true (hf _)
  have b3 : (0 ≤ i + 3) = True := eq_true (by omega)
  have c3 : (i + 3 < (L : Int)) = True := eq_true (by omega)
  have m3 : mrg (f (i + 3)) = True := eq_true (hf _)
  have b4 : (0 ≤ i + 4) = True := eq_true (by omega)
  have c4 : (i + 4 < (L : Int)) = True := eq_true (by omega)
  have m4 : mrg (f (i + 4)) = True := eq_true (hf _)
  have b5 : (0 ≤ i + 5) = True := eq_true (by omega)
  have c5 : (i + 5 < (L : Int)) = True := eq_true (by omega)
  have m5 : mrg (f (i + 5)) = True := eq_true (hf _)
  by_cases hz : f (i + 3) = 0
  · have z : (f (i + 3) = 0) = True := eq_true hz
    simp only [false_and, and_false, true_or, or_true, false_or, or_false, true_and, and_true, true_implies, false_implies, implies_true, not_true_eq_false, not_false_eq_true, and_self, List.length_cons, List.length_nil, mNoCut_, mCat_n, mCat_I, mCat_L, mCat_R, mIsL_n, mIsL_I, mIsL_R, mIsL_L, Nat.reduceAdd, Nat.reduceSub, Nat.reduceLeDiff, Nat.reduceLT, Nat.reduceEqDiff, Nat.zero_le, Int.reduceEq, Int.reduceLT, Int.reduceLE, Int.reduceNeg, Int.reduceAdd, if_true, if_false, reduceIte, reduceCtorEq, Bool.false_eq_true, ne_eq, qCmp_0, qCmp_1, qCmp_2, qCmp_3, qCmp_4, qCmp_5, ib_0, ib_1, ib_2, lb_0, lb_1, lb_2, dv_0, dv_1, wl_ic, wl_lc, wl_ld_i, wl_ld_a, wl_st_i, wl_ib, wl_if, mrg_0_, wl_goto, wl_ald, wl_ret1, wl_eqI, wl_eqL, ldR1, ldR0, ldI4, mrg_1_, ldR3, wl_callS5_4, SL_body_29, stI5, ldR2, wl_callV4_0, SL_body_172, stI6, wl_callV1_0, SL_body_104, ldI5, ldI6, mPut_s, mPut_I0, mPut_R0, mPut_L0, mPut_I1, mPut_R1, mPut_L1, mGoL_n, mGoL_c, mMask_t, mMask_f, mMask_n, cutL_body_2439, sfxL_body_2439, cutL_body_2440, sfxL_body_2440, cutL_body_2472, sfxL_body_2472, cutL_body_2473, sfxL_body_2473, cutL_body_2489, sfxL_body_2489, cutL_body_2506, sfxL_body_2506, cutL_body_2507, sfxL_body_2507, cutL_body_2513, sfxL_body_2513, cutL_body_3066, kL_body_2413, kL_body_2439, kL_body_2440, kL_body_2472, kL_body_2473, kL_body_2489, kL_body_2506, kL_body_2507, kL_body_2513, sk_0, al_0, sk_200, al_200, sk_230, al_230, sn_230, ald_r2, ald_230, shqR_, spX11_thrown, Option.some.injEq, ncast, b1, b2, b3, b4, b5, c1, c2, c3, c4, c5, m1, m2, m3, m4, m5, z]
    refine ⟨_, P_ends H (hf _) (hf _) (by unfold mrg; omega), fun o I1 hq => ?_⟩
    obtain ⟨k, rfl, hk, hq⟩ := hq
    simp only [false_and, and_false, true_or, or_true, false_or, or_false, true_and, and_true, true_implies, false_implies, implies_true, not_true_eq_false, not_false_eq_true, and_self, List.length_cons, List.length_nil, mNoCut_, mCat_n, mCat_I, mCat_L, mCat_R, mIsL_n, mIsL_I, mIsL_R, mIsL_L, Nat.reduceAdd, Nat.reduceSub, Nat.reduceLeDiff, Nat.reduceLT, Nat.reduceEqDiff, Nat.zero_le, Int.reduceEq, Int.reduceLT, Int.reduceLE, Int.reduceNeg, Int.reduceAdd, if_true, if_false, reduceIte, reduceCtorEq, Bool.false_eq_true, ne_eq, qCmp_0, qCmp_1, qCmp_2, qCmp_3, qCmp_4, qCmp_5, ib_0, ib_1, ib_2, lb_0, lb_1, lb_2, dv_0, dv_1, wl_ic, wl_lc, wl_ld_i, wl_ld_a, wl_st_i, wl_ib, wl_if, mrg_0_, wl_goto, wl_ald, wl_ret1, wl_eqI, wl_eqL, ldR1, ldR0, ldI4, mrg_1_, ldR3, wl_callS5_4, SL_body_29, stI5, ldR2, wl_callV4_0, SL_body_172, stI6, wl_callV1_0, SL_body_104, ldI5, ldI6, mPut_s, mPut_I0, mPut_R0, mPut_L0, mPut_I1, mPut_R1, mPut_L1, mGoL_n, mGoL_c, mMask_t, mMask_f, mMask_n, cutL_body_2439, sfxL_body_2439, cutL_body_2440, sfxL_body_2440, cutL_body_2472, sfxL_body_2472, cutL_body_2473, sfxL_body_2473, cutL_body_2489, sfxL_body_2489, cutL_body_2506, sfxL_body_2506, cutL_body_2507, sfxL_body_2507, cutL_body_2513, sfxL_body_2513, cutL_body_3066, kL_body_2413, kL_body_2439, kL_body_2440, kL_body_2472, kL_body_2473, kL_body_2489, kL_body_2506, kL_body_2507, kL_body_2513, sk_0, al_0, sk_200, al_200, sk_230, al_230, sn_230, ald_r2, ald_230, shqR_, spX11_thrown, Option.some.injEq, ncast, b1, b2, b3, b4, b5, c1, c2, c3, c4, c5, m1, m2, m3, m4, m5, z]
    refine ⟨_, hq, fun o2 I2 h2 => ?_⟩
    obtain ⟨b, rfl, h3, ⟨hv, h0⟩, hI2⟩ := h2
    simp only [false_and, and_false, true_or, or_true, false_or, or_false, true_and, and_true, true_implies, false_implies, implies_true, not_true_eq_false, not_false_eq_true, and_self, List.length_cons, List.length_nil, mNoCut_, mCat_n, mCat_I, mCat_L, mCat_R, mIsL_n, mIsL_I, mIsL_R, mIsL_L, Nat.reduceAdd, Nat.reduceSub, Nat.reduceLeDiff, Nat.reduceLT, Nat.reduceEqDiff, Nat.zero_le, Int.reduceEq, Int.reduceLT, Int.reduceLE, Int.reduceNeg, Int.reduceAdd, if_true, if_false, reduceIte, reduceCtorEq, Bool.false_eq_true, ne_eq, qCmp_0, qCmp_1, qCmp_2, qCmp_3, qCmp_4, qCmp_5, ib_0, ib_1, ib_2, lb_0, lb_1, lb_2, dv_0, dv_1, wl_ic, wl_lc, wl_ld_i, wl_ld_a, wl_st_i, wl_ib, wl_if, mrg_0_, wl_goto, wl_ald, wl_ret1, wl_eqI, wl_eqL, ldR1, ldR0, ldI4, mrg_1_, ldR3, wl_callS5_4, SL_body_29, stI5, ldR2, wl_callV4_0, SL_body_172, stI6, wl_callV1_0, SL_body_104, ldI5, ldI6, mPut_s, mPut_I0, mPut_R0, mPut_L0, mPut_I1, mPut_R1, mPut_L1, mGoL_n, mGoL_c, mMask_t, mMask_f, mMask_n, cutL_body_2439, sfxL_body_2439, cutL_body_2440, sfxL_body_2440, cutL_body_2472, sfxL_body_2472, cutL_body_2473, sfxL_body_2473, cutL_body_2489, sfxL_body_2489, cutL_body_2506, sfxL_body_2506, cutL_body_2507, sfxL_body_2507, cutL_body_2513, sfxL_body_2513, cutL_body_3066, kL_body_2413, kL_body_2439, kL_body_2440, kL_body_2472, kL_body_2473, kL_body_2489, kL_body_2506, kL_body_2507, kL_body_2513, sk_0, al_0, sk_200, al_200, sk_230, al_230, sn_230, ald_r2, ald_230, shqR_, spX11_thrown, Option.some.injEq, ncast, b1, b2, b3, b4, b5, c1, c2, c3, c4, c5, m1, m2, m3, m4, m5, z]
    have hC : CL i fl L I 3066 (lvL i) [] I2 := ⟨rfl, rfl, Or.inl ⟨rfl, hI2⟩⟩
    repeat' (first | exact hC | exact h3 | apply And.intro | intro _)
    all_goals first | exact h3 | (unfold mrg; omega) | omega
  · have z : (f (i + 3) = 0) = False := eq_false hz
    simp only [false_and, and_false, true_or, or_true, false_or, or_false, true_and, and_true, true_implies, false_implies, implies_true, not_true_eq_false, not_false_eq_true, and_self, List.length_cons, List.length_nil, mNoCut_, mCat_n, mCat_I, mCat_L, mCat_R, mIsL_n, mIsL_I, mIsL_R, mIsL_L, Nat.reduceAdd, Nat.reduceSub, Nat.reduceLeDiff, Nat.reduceLT, Nat.reduceEqDiff, Nat.zero_le, Int.reduceEq, Int.reduceLT, Int.reduceLE, Int.reduceNeg, Int.reduceAdd, if_true, if_false, reduceIte, reduceCtorEq, Bool.false_eq_true, ne_eq, qCmp_0, qCmp_1, qCmp_2, qCmp_3, qCmp_4, qCmp_5, ib_0, ib_1, ib_2, lb_0, lb_1, lb_2, dv_0, dv_1, wl_ic, wl_lc, wl_ld_i, wl_ld_a, wl_st_i, wl_ib, wl_if, mrg_0_, wl_goto, wl_ald, wl_ret1, wl_eqI, wl_eqL, ldR1, ldR0, ldI4, mrg_1_, ldR3, wl_callS5_4, SL_body_29, stI5, ldR2, wl_callV4_0, SL_body_172, stI6, wl_callV1_0, SL_body_104, ldI5, ldI6, mPut_s, mPut_I0, mPut_R0, mPut_L0, mPut_I1, mPut_R1, mPut_L1, mGoL_n, mGoL_c, mMask_t, mMask_f, mMask_n, cutL_body_2439, sfxL_body_2439, cutL_body_2440, sfxL_body_2440, cutL_body_2472, sfxL_body_2472, cutL_body_2473, sfxL_body_2473, cutL_body_2489, sfxL_body_2489, cutL_body_2506, sfxL_body_2506, cutL_body_2507, sfxL_body_2507, cutL_body_2513, sfxL_body_2513, cutL_body_3066, kL_body_2413, kL_body_2439, kL_body_2440, kL_body_2472, kL_body_2473, kL_body_2489, kL_body_2506, kL_body_2507, kL_body_2513, sk_0, al_0, sk_200, al_200, sk_230, al_230, sn_230, ald_r2, ald_230, shqR_, spX11_thrown, Option.some.injEq, ncast, b1, b2, b3, b4, b5, c1, c2, c3, c4, c5, m1, m2, m3, m4, m5, z]
    refine ⟨_, P_ends H (hf _) (hf _) (by unfold mrg; omega), fun o I1 hq => ?_⟩
    obtain ⟨k, rfl, hk, hq⟩ := hq
    simp only [false_and, and_false, true_or, or_true, false_or, or_false, true_and, and_true, true_implies, false_implies, implies_true, not_true_eq_false, not_false_eq_true, and_self, List.length_cons, List.length_nil, mNoCut_, mCat_n, mCat_I, mCat_L, mCat_R, mIsL_n, mIsL_I, mIsL_R, mIsL_L, Nat.reduceAdd, Nat.reduceSub, Nat.reduceLeDiff, Nat.reduceLT, Nat.reduceEqDiff, Nat.zero_le, Int.reduceEq, Int.reduceLT, Int.reduceLE, Int.reduceNeg, Int.reduceAdd, if_true, if_false, reduceIte, reduceCtorEq, Bool.false_eq_true, ne_eq, qCmp_0, qCmp_1, qCmp_2, qCmp_3, qCmp_4, qCmp_5, ib_0, ib_1, ib_2, lb_0, lb_1, lb_2, dv_0, dv_1, wl_ic, wl_lc, wl_ld_i, wl_ld_a, wl_st_i, wl_ib, wl_if, mrg_0_, wl_goto, wl_ald, wl_ret1, wl_eqI, wl_eqL, ldR1, ldR0, ldI4, mrg_1_, ldR3, wl_callS5_4, SL_body_29, stI5, ldR2, wl_callV4_0, SL_body_172, stI6, wl_callV1_0, SL_body_104, ldI5, ldI6, mPut_s, mPut_I0, mPut_R0, mPut_L0, mPut_I1, mPut_R1, mPut_L1, mGoL_n, mGoL_c, mMask_t, mMask_f, mMask_n, cutL_body_2439, sfxL_body_2439, cutL_body_2440, sfxL_body_2440, cutL_body_2472, sfxL_body_2472, cutL_body_2473, sfxL_body_2473, cutL_body_2489, sfxL_body_2489, cutL_body_2506, sfxL_body_2506, cutL_body_2507, sfxL_body_2507, cutL_body_2513, sfxL_body_2513, cutL_body_3066, kL_body_2413, kL_body_2439, kL_body_2440, kL_body_2472, kL_body_2473, kL_body_2489, kL_body_2506, kL_body_2507, kL_body_2513, sk_0, al_0, sk_200, al_200, sk_230, al_230, sn_230, ald_r2, ald_230, shqR_, spX11_thrown, Option.some.injEq, ncast, b1, b2, b3, b4, b5, c1, c2, c3, c4, c5, m1, m2, m3, m4, m5, z]
    refine ⟨_, hq, fun o2 I2 h2 => ?_⟩
    obtain ⟨b, rfl, h3, ⟨hv, h0⟩, hI2⟩ := h2
    simp only [false_and, and_false, true_or, or_true, false_or, or_false, true_and, and_true, true_implies, false_implies, implies_true, not_true_eq_false, not_false_eq_true, and_self, List.length_cons, List.length_nil, mNoCut_, mCat_n, mCat_I, mCat_L, mCat_R, mIsL_n, mIsL_I, mIsL_R, mIsL_L, Nat.reduceAdd, Nat.reduceSub, Nat.reduceLeDiff, Nat.reduceLT, Nat.reduceEqDiff, Nat.zero_le, Int.reduceEq, Int.reduceLT, Int.reduceLE, Int.reduceNeg, Int.reduceAdd, if_true, if_false, reduceIte, reduceCtorEq, Bool.false_eq_true, ne_eq, qCmp_0, qCmp_1, qCmp_2, qCmp_3, qCmp_4, qCmp_5, ib_0, ib_1, ib_2, lb_0, lb_1, lb_2, dv_0, dv_1, wl_ic, wl_lc, wl_ld_i, wl_ld_a, wl_st_i, wl_ib, wl_if, mrg_0_, wl_goto, wl_ald, wl_ret1, wl_eqI, wl_eqL, ldR1, ldR0, ldI4, mrg_1_, ldR3, wl_callS5_4, SL_body_29, stI5, ldR2, wl_callV4_0, SL_body_172, stI6, wl_callV1_0, SL_body_104, ldI5, ldI6, mPut_s, mPut_I0, mPut_R0, mPut_L0, mPut_I1, mPut_R1, mPut_L1, mGoL_n, mGoL_c, mMask_t, mMask_f, mMask_n, cutL_body_2439, sfxL_body_2439, cutL_body_2440, sfxL_body_2440, cutL_body_2472, sfxL_body_2472, cutL_body_2473, sfxL_body_2473, cutL_body_2489, sfxL_body_2489, cutL_body_2506, sfxL_body_2506, cutL_body_2507, sfxL_body_2507, cutL_body_2513, sfxL_body_2513, cutL_body_3066, kL_body_2413, kL_body_2439, kL_body_2440, kL_body_2472, kL_body_2473, kL_body_2489, kL_body_2506, kL_body_2507, kL_body_2513, sk_0, al_0, sk_200, al_200, sk_230, al_230, sn_230, ald_r2, ald_230, shqR_, spX11_thrown, Option.some.injEq, ncast, b1, b2, b3, b4, b5, c1, c2, c3, c4, c5, m1, m2, m3, m4, m5, z]
    have hC : CL i fl L I 3066 (lvL i) [] I2 := ⟨rfl, rfl, Or.inl ⟨rfl, hI2⟩⟩
    repeat' (first | exact hC | exact h3 | apply And.intro | intro _)
    all_goals first | exact h3 | (unfold mrg; omega) | omega
set_option maxRecDepth 100000 in
theorem W_36 {fl : Nat → Bool} {I : mM} {f : Int → Int} {L : Nat} {i : Int} (H : LI fl I) (hi : 0 ≤ i) (hL : i + 6 ≤ (L : Int)) (hf : ∀ q : Int, mrg (f q)) : wlP fl L f i I kL_body_2516 I := by
  unfold wlP
  have b1 : (0 ≤ i + 1) = True := eq_true (by omega)
  have c1 : (i + 1 < (L : Int)) = True := eq_true (by omega)
  have m1 : mrg (f (i + 1)) = True := eq_true (hf _)
  have b2 : (0 ≤ i + 2) = True := eq_true (by omega)
  have c2 : (i + 2 < (L : Int)) = True := eq_true (by omega)
  have m2 : mrg (f (i + 2)) = True := eq_true (hf _)
  have b3 : (0 ≤ i + 3) = True := eq_true (by omega)
  have c3 : (i + 3 < (L : Int)) = True := eq_true (by omega)
  have m3 : mrg (f (i + 3)) = True := eq_true (hf _)
  have b4 : (0 ≤ i + 4) = True := eq_true (by omega)
  have c4 : (i + 4 < (L : Int)) = True := eq_true (by omega)
  have m4 : mrg (f (i + 4)) = True := eq_true (hf _)
  have b5 : (0 ≤ i + 5) = True := eq_true (by omega)
  have c5 : (i + 5 < (L : Int)) = True := eq_true (by omega)
  have m5 : mrg (f (i + 5)) = True := eq_true (hf _)
  simp only [false_and, and_false, true_or, or_true, false_or, or_false, true_and, and_true, true_implies, false_implies, implies_true, not_true_eq_false, not_false_eq_true, and_self, List.length_cons, List.length_nil, mNoCut_, mCat_n, mCat_I, mCat_L, mCat_R, mIsL_n, mIsL_I, mIsL_R, mIsL_L, Nat.reduceAdd, Nat.reduceSub, Nat.reduceLeDiff, Nat.reduceLT, Nat.reduceEqDiff, Nat.zero_le, Int.reduceEq, Int.reduceLT, Int.reduceLE, Int.reduceNeg, Int.reduceAdd, if_true, if_false, reduceIte, reduceCtorEq, Bool.false_eq_true, ne_eq, qCmp_0, qCmp_1, qCmp_2, qCmp_3, qCmp_4, qCmp_5, ib_0, ib_1, ib_2, lb_0, lb_1, lb_2, dv_0, dv_1, wl_ic, wl_ld_i, wl_ld_a, wl_st_i, wl_ib, wl_if, mrg_0_, wl_goto, wl_ald, wl_ret1, wl_eqI, wl_eqL, wl_i2x, ldR1, ldR0, ldI4, mrg_1_, ldR3, wl_callS5_4, SL_body_30, stI5, ldR2, wl_callV4_0, SL_body_174, stI6, wl_callV1_0, SL_body_104, ldI5, ldI6, mPut_s, mPut_I0, mPut_R0, mPut_L0, mPut_I1, mPut_R1, mPut_L1, mGoL_n, mGoL_c, mMask_t, mMask_f, mMask_n, cutL_body_2576, sfxL_body_2576, cutL_body_2593, sfxL_body_2593, cutL_body_3066, kL_body_2516, kL_body_2576, kL_body_2593, sk_0, al_0, sk_200, al_200, sk_230, al_230, sn_230, ald_r2, ald_230, shqR_, spX11_thrown, Option.some.injEq, ncast, b1, b2, b3, b4, b5, c1, c2, c3, c4, c5, m1, m2, m3, m4, m5]
  refine ⟨_, P_enough H (hf _) (hf _) (hf _), fun o I1 hq => ?_⟩
  obtain ⟨k, rfl, hk, hq⟩ := hq
  simp only [false_and, and_false, true_or, or_true, false_or, or_false, true_and, and_true, true_implies, false_implies, implies_true, not_true_eq_false, not_false_eq_true, and_self, List.length_cons, List.length_nil, mNoCut_, mCat_n, mCat_I, mCat_L, mCat_R, mIsL_n, mIsL_I, mIsL_R, mIsL_L, Nat.reduceAdd, Nat.reduceSub, Nat.reduceLeDiff, Nat.reduceLT, Nat.reduceEqDiff, Nat.zero_le, Int.reduceEq, Int.reduceLT, Int.reduceLE, Int.reduceNeg, Int.reduceAdd, if_true, if_false, reduceIte, reduceCtorEq, Bool.false_eq_true, ne_eq, qCmp_0, qCmp_1, qCmp_2, qCmp_3, qCmp_4, qCmp_5, ib_0, ib_1, ib_2, lb_0, lb_1, lb_2, dv_0, dv_1, wl_ic, wl_ld_i, wl_ld_a, wl_st_i, wl_ib, wl_if, mrg_0_, wl_goto, wl_ald, wl_ret1, wl_eqI, wl_eqL, wl_i2x, ldR1, ldR0, ldI4, mrg_1_, ldR3, wl_callS5_4, SL_body_30, stI5, ldR2, wl_callV4_0, SL_body_174, stI6, wl_callV1_0, SL_body_104, ldI5, ldI6, mPut_s, mPut_I0, mPut_R0, mPut_L0, mPut_I1, mPut_R1, mPut_L1, mGoL_n, mGoL_c, mMask_t, mMask_f, mMask_n, cutL_body_2576, sfxL_body_2576, cutL_body_2593, sfxL_body_2593, cutL_body_3066, kL_body_2516, kL_body_2576, kL_body_2593, sk_0, al_0, sk_200, al_200, sk_230, al_230, sn_230, ald_r2, ald_230, shqR_, spX11_thrown, Option.some.injEq, ncast, b1, b2, b3, b4, b5, c1, c2, c3, c4, c5, m1, m2, m3, m4, m5]
  refine ⟨_, hq, fun o2 I2 h2 => ?_⟩
  obtain ⟨b, rfl, h3, h0, hI2⟩ := h2
  simp only [false_and, and_false, true_or, or_true, false_or, or_false, true_and, and_true, true_implies, false_implies, implies_true, not_true_eq_false, not_false_eq_true, and_self, List.length_cons, List.length_nil, mNoCut_, mCat_n, mCat_I, mCat_L, mCat_R, mIsL_n, mIsL_I, mIsL_R, mIsL_L, Nat.reduceAdd, Nat.reduceSub, Nat.reduceLeDiff, Nat.reduceLT, Nat.reduceEqDiff, Nat.zero_le, Int.reduceEq, Int.reduceLT, Int.reduceLE, Int.reduceNeg, Int.reduceAdd, if_true, if_false, reduceIte, reduceCtorEq, Bool.false_eq_true, ne_eq, qCmp_0, qCmp_1, qCmp_2, qCmp_3, qCmp_4, qCmp_5, ib_0, ib_1, ib_2, lb_0, lb_1, lb_2, dv_0, dv_1, wl_ic, wl_ld_i, wl_ld_a, wl_st_i, wl_ib, wl_if, mrg_0_, wl_goto, wl_ald, wl_ret1, wl_eqI, wl_eqL, wl_i2x, ldR1, ldR0, ldI4, mrg_1_, ldR3, wl_callS5_4, SL_body_30, stI5, ldR2, wl_callV4_0, SL_body_174, stI6, wl_callV1_0, SL_body_104, ldI5, ldI6, mPut_s, mPut_I0, mPut_R0, mPut_L0, mPut_I1, mPut_R1, mPut_L1, mGoL_n, mGoL_c, mMask_t, mMask_f, mMask_n, cutL_body_2576, sfxL_body_2576, cutL_body_2593, sfxL_body_2593, cutL_body_3066, kL_body_2516, kL_body_2576, kL_body_2593, sk_0, al_0, sk_200, al_200, sk_230, al_230, sn_230, ald_r2, ald_230, shqR_, spX11_thrown, Option.some.injEq, ncast, b1, b2, b3, b4, b5, c1, c2, c3, c4, c5, m1, m2, m3, m4, m5]
  have hC : CL i fl L I 3066 (lvL i) [] I2 := ⟨rfl, rfl, Or.inl ⟨rfl, hI2⟩⟩
  repeat' (first | exact hC | exact h3 | apply And.intro | intro _)
  all_goals first | exact h3 | (unfold mrg; omega) | omega
set_option maxRecDepth 100000 in
theorem W_37 {fl : Nat → Bool} {I : mM} {f : Int → Int} {L : Nat} {i : Int} (H : LI fl I) (hi : 0 ≤ i) (hL : i + 6 ≤ (L : Int)) (hf : ∀ q : Int, mrg (f q)) : wlP fl L f i I kL_body_2596 I := by
  unfold wlP
  have b1 : (0 ≤ i + 1) = True := eq_true (by omega)
  have c1 : (i + 1 < (L : Int)) = True := eq_true (by omega)
  have m1 : mrg (f (i + 1)) = True := eq_true (hf _)
  have b2 : (0 ≤ i + 2) = True := eq_true (by omega)
  have c2 : (i + 2 < (L : Int)) = True := eq_true (by omega)
  have m2 : mrg (f (i + 2)) = True := eq_true (hf _)
  have b3 : (0 ≤ i + 3) = True := eq_true (by omega)
  have c3 : (i + 3 < (L : Int)) = True := eq_true (by omega)
  have m3 : mrg (f (i + 3)) = True := eq_true (hf _)
  have b4 : (0 ≤ i + 4) = True := eq_true (by omega)
  have c4 : (i + 4 < (L : Int)) = True := eq_true (by omega)
  have m4 : mrg (f (i + 4)) = True := eq_true (hf _)
  have b5 : (0 ≤ i + 5) = True := eq_true (by omega)
  have c5 : (i + 5 < (L : Int)) = True := eq_true (by omega)
  have m5 : mrg (f (i + 5)) = True := eq_true (hf _)
  by_cases hz : f (i + 1) = 0
  · have z : (f (i + 1) = 0) = True := eq_true hz
    simp only [false_and, and_false, true_or, or_true, false_or, or_false, true_and, and_true, true_implies, false_implies, implies_true, not_true_eq_false, not_false_eq_true, and_self, List.length_cons, List.length_nil, mNoCut_, mCat_n, mCat_I, mCat_L, mCat_R, mIsL_n, mIsL_I, mIsL_R, mIsL_L, Nat.reduceAdd, Nat.reduceSub, Nat.reduceLeDiff, Nat.reduceLT, Nat.reduceEqDiff, Nat.zero_le, Int.reduceEq, Int.reduceLT, Int.reduceLE, Int.reduceNeg, Int.reduceAdd, if_true, if_false, reduceIte, reduceCtorEq, Bool.false_eq_true, ne_eq, qCmp_0, qCmp_1, qCmp_2, qCmp_3, qCmp_4, qCmp_5, ib_0, ib_1, ib_2, lb_0, lb_1, lb_2, dv_0, dv_1, wl_ic, wl_ld_i, wl_ld_a, wl_ib, wl_if, mrg_0_, wl_goto, wl_ald, wl_ret1, wl_eqI, ldR1, ldR0, ldI4, mrg_1_, wl_callV2_0, SL_body_175, ldR2, SL_body_176, mPut_s, mPut_I0, mPut_R0, mPut_L0, mPut_I1, mPut_R1, mPut_L1, mGoL_n, mGoL_c, mMask_t, mMask_f, mMask_n, cutL_body_2610, sfxL_body_2610, cutL_body_2611, sfxL_body_2611, cutL_body_2628, sfxL_body_2628, cutL_body_2629, sfxL_body_2629, cutL_body_3066, kL_body_2596, kL_body_2610, kL_body_2611, kL_body_2628, kL_body_2629, sk_0, al_0, sk_200, al_200, sk_230, al_230, sn_230, ald_r2, ald_230, shqR_, spX11_thrown, Option.some.injEq, ncast, b1, b2, b3, b4, b5, c1, c2, c3, c4, c5, m1, m2, m3, m4, m5, z]
    refine ⟨_, P_chase H (Or.inl rfl), fun o I1 hq => ?_⟩
    obtain ⟨a, rfl, hq⟩ := hq
    simp only [false_and, and_false, true_or, or_true, false_or, or_false, true_and, and_true, true_implies, false_implies, implies_true, not_true_eq_false, not_false_eq_true, and_self, List.length_cons, List.length_nil, mNoCut_, mCat_n, mCat_I, mCat_L, mCat_R, mIsL_n, mIsL_I, mIsL_R, mIsL_L, Nat.reduceAdd, Nat.reduceSub, Nat.reduceLeDiff, Nat.reduceLT, Nat.reduceEqDiff, Nat.zero_le, Int.reduceEq, Int.reduceLT, Int.reduceLE, Int.reduceNeg, Int.reduceAdd, if_true, if_false, reduceIte, reduceCtorEq, Bool.false_eq_true, ne_eq, qCmp_0, qCmp_1, qCmp_2, qCmp_3, qCmp_4, qCmp_5, ib_0, ib_1, ib_2, lb_0, lb_1, lb_2, dv_0, dv_1, wl_ic, wl_ld_i, wl_ld_a, wl_ib, wl_if, mrg_0_, wl_goto, wl_ald, wl_ret1, wl_eqI, ldR1, ldR0, ldI4, mrg_1_, wl_callV2_0, SL_body_175, ldR2, SL_body_176, mPut_s, mPut_I0, mPut_R0, mPut_L0, mPut_I1, mPut_R1, mPut_L1, mGoL_n, mGoL_c, mMask_t, mMask_f, mMask_n, cutL_body_2610, sfxL_body_2610, cutL_body_2611, sfxL_body_2611, cutL_body_2628, sfxL_body_2628, cutL_body_2629, sfxL_body_2629, cutL_body_3066, kL_body_2596, kL_body_2610, kL_body_2611, kL_body_2628, kL_body_2629, sk_0, al_0, sk_200, al_200, sk_230, al_230, sn_230, ald_r2, ald_230, shqR_, spX11_thrown, Option.some.injEq, ncast, b1, b2, b3, b4, b5, c1, c2, c3, c4, c5, m1, m2, m3, m4, m5, z]
    refine ⟨_, hq, fun o2 I2 h2 => ?_⟩
    obtain ⟨b, rfl, h3, hI2⟩ := h2
    simp only [false_and, and_false, true_or, or_true, false_or, or_false, true_and, and_true, true_implies, false_implies, implies_true, not_true_eq_false, not_false_eq_true, and_self, List.length_cons, List.length_nil, mNoCut_, mCat_n, mCat_I, mCat_L, mCat_R, mIsL_n, mIsL_I, mIsL_R, mIsL_L, Nat.reduceAdd, Nat.reduceSub, Nat.reduceLeDiff, Nat.reduceLT, Nat.reduceEqDiff, Nat.zero_le, Int.reduceEq, Int.reduceLT, Int.reduceLE, Int.reduceNeg, Int.reduceAdd, if_true, if_false, reduceIte, reduceCtorEq, Bool.false_eq_true, ne_eq, qCmp_0, qCmp_1, qCmp_2, qCmp_3, qCmp_4, qCmp_5, ib_0, ib_1, ib_2, lb_0, lb_1, lb_2, dv_0, dv_1, wl_ic, wl_ld_i, wl_ld_a, wl_ib, wl_if, mrg_0_, wl_goto, wl_ald, wl_ret1, wl_eqI, ldR1, ldR0, ldI4, mrg_1_, wl_callV2_0, SL_body_175, ldR2, SL_body_176, mPut_s, mPut_I0, mPut_R0, mPut_L0, mPut_I1, mPut_R1, mPut_L1, mGoL_n, mGoL_c, mMask_t, mMask_f, mMask_n, cutL_body_2610, sfxL_body_2610, cutL_body_2611, sfxL_body_2611, cutL_body_2628, sfxL_body_2628, cutL_body_2629, sfxL_body_2629, cutL_body_3066, kL_body_2596, kL_body_2610, kL_body_2611, kL_body_2628, kL_body_2629, sk_0, al_0, sk_200, al_200, sk_230, al_230, sn_230, ald_r2, ald_230, shqR_, spX11_thrown, Option.some.injEq, ncast, b1, b2, b3, b4, b5, c1, c2, c3, c4, c5, m1, m2, m3, m4, m5, z]
    have hC : CL i fl L I 3066 (lvL i) [] I2 := ⟨rfl, rfl, Or.inl ⟨rfl, hI2⟩⟩
    repeat' (first | exact hC | exact h3 | apply And.intro | intro _)
    all_goals first | exact h3 | (unfold mrg; omega) | omega
  · have z : (f (i + 1) = 0) = False := eq_false hz
    simp only [false_and, and_false, true_or, or_true, false_or, or_false, true_and, and_true, true_implies, false_implies, implies_true, not_true_eq_false, not_false_eq_true, and_self, List.length_cons, List.length_nil, mNoCut_, mCat_n, mCat_I, mCat_L, mCat_R, mIsL_n, mIsL_I, mIsL_R, mIsL_L, Nat.reduceAdd, Nat.reduceSub, Nat.reduceLeDiff, Nat.reduceLT, Nat.reduceEqDiff, Nat.zero_le, Int.reduceEq, Int.reduceLT, Int.reduceLE, Int.reduceNeg, Int.reduceAdd, if_true, if_false, reduceIte, reduceCtorEq, Bool.false_eq_true, ne_eq, qCmp_0, qCmp_1, qCmp_2, qCmp_3, qCmp_4, qCmp_5, ib_0, ib_1, ib_2, lb_0, lb_1, lb_2, dv_0, dv_1, wl_ic, wl_ld_i, wl_ld_a, wl_ib, wl_if, mrg_0_, wl_goto, wl_ald, wl_ret1, wl_eqI, ldR1, ldR0, ldI4, mrg_1_, wl_callV2_0, SL_body_175, ldR2, SL_body_176, mPut_s, mPut_I0, mPut_R0, mPut_L0, mPut_I1, mPut_R1, mPut_L1, mGoL_n, mGoL_c, mMask_t, mMask_f, mMask_n, cutL_body_2610, sfxL_body_2610, cutL_body_2611, sfxL_body_2611, cutL_body_2628, sfxL_body_2628, cutL_body_2629, sfxL_body_2629, cutL_body_3066, kL_body_2596, kL_body_2610, kL_body_2611, kL_body_2628, kL_body_2629, sk_0, al_0, sk_200, al_200, sk_230, al_230, sn_230, ald_r2, ald_230, shqR_, spX11_thrown, Option.some.injEq, ncast, b1, b2, b3, b4, b5, c1, c2, c3, c4, c5, m1, m2, m3, m4, m5, z]
    refine ⟨_, P_chase H (Or.inr rfl), fun o I1 hq => ?_⟩
    obtain ⟨a, rfl, hq⟩ := hq
    simp only [false_and, and_false, true_or, or_true, false_or, or_false, true_and, and_true, true_implies, false_implies, implies_true, not_true_eq_false, not_false_eq_true, and_self, List.length_cons, List.length_nil, mNoCut_, mCat_n, mCat_I, mCat_L, mCat_R, mIsL_n, mIsL_I, mIsL_R, mIsL_L, Nat.reduceAdd, Nat.reduceSub, Nat.reduceLeDiff, Nat.reduceLT, Nat.reduceEqDiff, Nat.zero_le, Int.reduceEq, Int.reduceLT, Int.reduceLE, Int.reduceNeg, Int.reduceAdd, if_true, if_false, reduceIte, reduceCtorEq, Bool.false_eq_true, ne_eq, qCmp_0, qCmp_1, qCmp_2, qCmp_3, qCmp_4, qCmp_5, ib_0, ib_1, ib_2, lb_0, lb_1, lb_2, dv_0, dv_1, wl_ic, wl_ld_i, wl_ld_a, wl_ib, wl_if, mrg_0_, wl_goto, wl_ald, wl_ret1, wl_eqI, ldR1, ldR0, ldI4, mrg_1_, wl_callV2_0, SL_body_175, ldR2, SL_body_176, mPut_s, mPut_I0, mPut_R0, mPut_L0, mPut_I1, mPut_R1, mPut_L1, mGoL_n, mGoL_c, mMask_t, mMask_f, mMask_n, cutL_body_2610, sfxL_body_2610, cutL_body_2611, sfxL_body_2611, cutL_body_2628, sfxL_body_2628, cutL_body_2629, sfxL_body_2629, cutL_body_3066, kL_body_2596, kL_body_2610, kL_body_2611, kL_body_2628, kL_body_2629, sk_0, al_0, sk_200, al_200, sk_230, al_230, sn_230, ald_r2, ald_230, shqR_, spX11_thrown, Option.some.injEq, ncast, b1, b2, b3, b4, b5, c1, c2, c3, c4, c5, m1, m2, m3, m4, m5, z]
    refine ⟨_, hq, fun o2 I2 h2 => ?_⟩
    obtain ⟨b, rfl, h3, hI2⟩ := h2
    simp only [false_and, and_false, true_or, or_true, false_or, or_false, true_and, and_true, true_implies, false_implies, implies_true, not_true_eq_false, not_false_eq_true, and_self, List.length_cons, List.length_nil, mNoCut_, mCat_n, mCat_I, mCat_L, mCat_R, mIsL_n, mIsL_I, mIsL_R, mIsL_L, Nat.reduceAdd, Nat.reduceSub, Nat.reduceLeDiff, Nat.reduceLT, Nat.reduceEqDiff, Nat.zero_le, Int.reduceEq, Int.reduceLT, Int.reduceLE, Int.reduceNeg, Int.reduceAdd, if_true, if_false, reduceIte, reduceCtorEq, Bool.false_eq_true, ne_eq, qCmp_0, qCmp_1, qCmp_2, qCmp_3, qCmp_4, qCmp_5, ib_0, ib_1, ib_2, lb_0, lb_1, lb_2, dv_0, dv_1, wl_ic, wl_ld_i, wl_ld_a, wl_ib, wl_if, mrg_0_, wl_goto, wl_ald, wl_ret1, wl_eqI, ldR1, ldR0, ldI4, mrg_1_, wl_callV2_0, SL_body_175, ldR2, SL_body_176, mPut_s, mPut_I0, mPut_R0, mPut_L0, mPut_I1, mPut_R1, mPut_L1, mGoL_n, mGoL_c, mMask_t, mMask_f, mMask_n, cutL_body_2610, sfxL_body_2610, cutL_body_2611, sfxL_body_2611, cutL_body_2628, sfxL_body_2628, cutL_body_2629, sfxL_body_2629, cutL_body_3066, kL_body_2596, kL_body_2610, kL_body_2611, kL_body_2628, kL_body_2629, sk_0, al_0, sk_200, al_200, sk_230, al_230, sn_230, ald_r2, ald_230, shqR_, spX11_thrown, Option.some.injEq, ncast, b1, b2, b3, b4, b5, c1, c2, c3, c4, c5, m1, m2, m3, m4, m5, z]
    have hC : CL i fl L I 3066 (lvL i) [] I2 := ⟨rfl, rfl, Or.inl ⟨rfl, hI2⟩⟩
    repeat' (first | exact hC | exact h3 | apply And.intro | intro _)
    all_goals first | exact h3 | (unfold mrg; omega) | omega
set_option maxRecDepth 100000 in
theorem W_38 {fl : Nat → Bool} {I : mM} {f : Int → Int} {L : Nat} {i : Int} (H : LI fl I) (hi : 0 ≤ i) (hL : i + 6 ≤ (L : Int)) (hf : ∀ q : Int, mrg (f q)) : wlP fl L f i I kL_body_2637 I := by
  unfold wlP
  have b1 : (0 ≤ i + 1) = True := eq_true (by omega)
  have c1 : (i + 1 < (L : Int)) = True := eq_true (by omega)
  have m1 : mrg (f (i + 1)) = True := eq_true (hf _)
  have b2 : (0 ≤ i + 2) = True := eq_true (by omega)
  have c2 : (i + 2 < (L : Int)) = True := eq_true (by omega)
  have m2 : mrg (f (i + 2)) = True := eq_true (hf _)
  have b3 : (0 ≤ i + 3) = True := eq_true (by omega)
  have c3 : (i + 3 < (L : Int)) = True := eq_true (by omega)
  have m3 : mrg (f (i + 3)) = True := eq_true (hf _)
  have b4 : (0 ≤ i + 4) = True := eq_true (by omega)
  have c4 : (i + 4 < (L : Int)) = True := eq_true (by omega)
  have m4 : mrg (f (i + 4)) = True := eq_true (hf _)
  have b5 : (0 ≤ i + 5) = True := eq_true (by omega)
  have c5 : (i + 5 < (L : Int)) = True := eq_true (by omega)
  have m5 : mrg (f (i + 5)) = True := eq_true (hf _)
  simp only [false_and, and_false, true_or, or_true, false_or, or_false, true_and, and_true, true_implies, false_implies, implies_true, not_true_eq_false, not_false_eq_true, and_self, List.length_cons, List.length_nil, mNoCut_, mCat_n, mCat_I, mCat_L, mCat_R, mIsL_n, mIsL_I, mIsL_R, mIsL_L, Nat.reduceAdd, Nat.reduceSub, Nat.reduceLeDiff, Nat.reduceLT, Nat.reduceEqDiff, Nat.zero_le, Int.reduceEq, Int.reduceLT, Int.reduceLE, Int.reduceNeg, Int.reduceAdd, if_true, if_false, reduceIte, reduceCtorEq, Bool.false_eq_true, ne_eq, qCmp_0, qCmp_1, qCmp_2, qCmp_3, qCmp_4, qCmp_5, ib_0, ib_1, ib_2, lb_0, lb_1, lb_2, dv_0, dv_1, wl_ic, wl_ld_i, wl_ld_a, wl_st_i, wl_ib, wl_if, mrg_0_, wl_goto, wl_ald, wl_ret1, wl_eqI, wl_eqL, wl_i2x, ldR1, ldR0, ldI4, mrg_1_, ldR3, wl_callS5_4, SL_body_31, stI5, ldR2, wl_callV4_0, SL_body_178, stI6, wl_callV1_0, SL_body_104, ldI5, ldI6, mPut_s, mPut_I0, mPut_R0, mPut_L0, mPut_I1, mPut_R1, mPut_L1, mGoL_n, mGoL_c, mMask_t, mMask_f, mMask_n, cutL_body_2697, sfxL_body_2697, cutL_body_2714, sfxL_body_2714, cutL_body_3066, kL_body_2637, kL_body_2697, kL_body_2714, sk_0, al_0, sk_200, al_200, sk_230, al_230, sn_230, ald_r2, ald_230, shqR_, spX11_thrown, Option.some.injEq, ncast, b1, b2, b3, b4, b5, c1, c2, c3, c4, c5, m1, m2, m3, m4, m5]
  refine ⟨_, P_play H (hf _) (hf _) (hf _), fun o I1 hq => ?_⟩
  obtain ⟨k, rfl, hk, hq⟩ := hq
  simp only [false_and, and_false, true_or, or_true, false_or, or_false, true_and, and_true, true_implies, false_implies, implies_true, not_true_eq_false, not_false_eq_true, and_self, List.length_cons, List.length_nil, mNoCut_, mCat_n, mCat_I, mCat_L, mCat_R, mIsL_n, mIsL_I, mIsL_R, mIsL_L, Nat.reduceAdd, Nat.reduceSub, Nat.reduceLeDiff, Nat.reduceLT, Nat.reduceEqDiff, Nat.zero_le, Int.reduceEq, Int.reduceLT, Int.reduceLE, Int.reduceNeg, Int.reduceAdd, if_true, if_false, reduceIte, reduceCtorEq, Bool.false_eq_true, ne_eq, qCmp_0, qCmp_1, qCmp_2, qCmp_3, qCmp_4, qCmp_5, ib_0, ib_1, ib_2, lb_0, lb_1, lb_2, dv_0, dv_1, wl_ic, wl_ld_i, wl_ld_a, wl_st_i, wl_ib, wl_if, mrg_0_, wl_goto, wl_ald, wl_ret1, wl_eqI, wl_eqL, wl_i2x, ldR1, ldR0, ldI4, mrg_1_, ldR3, wl_callS5_4, SL_body_31, stI5, ldR2, wl_callV4_0, SL_body_178, stI6, wl_callV1_0, SL_body_104, ldI5, ldI6, mPut_s, mPut_I0, mPut_R0, mPut_L0, mPut_I1, mPut_R1, mPut_L1, mGoL_n, mGoL_c, mMask_t, mMask_f, mMask_n, cutL_body_2697, sfxL_body_2697, cutL_body_2714, sfxL_body_2714, cutL_body_3066, kL_body_2637, kL_body_2697, kL_body_2714, sk_0, al_0, sk_200, al_200, sk_230, al_230, sn_230, ald_r2, ald_230, shqR_, spX11_thrown, Option.some.injEq, ncast, b1, b2, b3, b4, b5, c1, c2, c3, c4, c5, m1, m2, m3, m4, m5]
  refine ⟨_, hq, fun o2 I2 h2 => ?_⟩
  obtain ⟨b, rfl, h3, h0, hI2⟩ := h2
  simp only [false_and, and_false, true_or, or_true, false_or, or_false, true_and, and_true, true_implies, false_implies, implies_true, not_true_eq_false, not_false_eq_true, and_self, List.length_cons, List.length_nil, mNoCut_, mCat_n, mCat_I, mCat_L, mCat_R, mIsL_n, mIsL_I, mIsL_R, mIsL_L, Nat.reduceAdd, Nat.reduceSub, Nat.reduceLeDiff, Nat.reduceLT, Nat.reduceEqDiff, Nat.zero_le, Int.reduceEq, Int.reduceLT, Int.reduceLE, Int.reduceNeg, Int.reduceAdd, if_true, if_false, reduceIte, reduceCtorEq, Bool.false_eq_true, ne_eq, qCmp_0, qCmp_1, qCmp_2, qCmp_3, qCmp_4, qCmp_5, ib_0, ib_1, ib_2, lb_0, lb_1, lb_2, dv_0, dv_1, wl_ic, wl_ld_i, wl_ld_a, wl_st_i, wl_ib, wl_if, mrg_0_, wl_goto, wl_ald, wl_ret1, wl_eqI, wl_eqL, wl_i2x, ldR1, ldR0, ldI4, mrg_1_, ldR3, wl_callS5_4, SL_body_31, stI5, ldR2, wl_callV4_0, SL_body_178, stI6, wl_callV1_0, SL_body_104, ldI5, ldI6, mPut_s, mPut_I0, mPut_R0, mPut_L0, mPut_I1, mPut_R1, mPut_L1, mGoL_n, mGoL_c, mMask_t, mMask_f, mMask_n, cutL_body_2697, sfxL_body_2697, cutL_body_2714, sfxL_body_2714, cutL_body_3066, kL_body_2637, kL_body_2697, kL_body_2714, sk_0, al_0, sk_200, al_200, sk_230, al_230, sn_230, ald_r2, ald_230, shqR_, spX11_thrown, Option.some.injEq, ncast, b1, b2, b3, b4, b5, c1, c2, c3, c4, c5, m1, m2, m3, m4, m5]
  have hC : CL i fl L I 3066 (lvL i) [] I2 := ⟨rfl, rfl, Or.inl ⟨rfl, hI2⟩⟩
  repeat' (first | exact hC | exact h3 | apply And.intro | intro _)
  all_goals first | exact h3 | (unfold mrg; omega) | omega
set_option maxRecDepth 100000 in
theorem W_39 {fl : Nat → Bool} {I : mM} {f : Int → Int} {L : Nat} {i : Int} (H : LI fl I) (hi : 0 ≤ i) (hL : i + 6 ≤ (L : Int)) (hf : ∀ q : Int, mrg (f q)) : wlP fl L f i I kL_body_2717 I := by
  unfold wlP
  have b1 : (0 ≤ i + 1) = True := eq_true (by omega)
  have c1 : (i + 1 < (L : Int)) = True := eq_true (by omega)
  have m1 : mrg (f (i + 1)) = True := eq_true (hf _)
  have b2 : (0 ≤ i + 2) = True := eq_true (by omega)
  have c2 : (i + 2 < (L : Int)) = True := eq_true (by omega)
  have m2 : mrg (f (i + 2)) = True := eq_true (hf _)
  have b3 : (0 ≤ i + 3) = True := eq_true (by omega)
  have c3 : (i + 3 < (L : Int)) = True := eq_true (by omega)
  have m3 : mrg (f (i + 3)) = True := eq_true (hf _)
  have b4 : (0 ≤ i + 4) = True := eq_true (by omega)
  have c4 : (i + 4 < (L : Int)) = True := eq_true (by omega)
  have m4 : mrg (f (i + 4)) = True := eq_true (hf _)
  have b5 : (0 ≤ i + 5) = True := eq_true (by omega)
  have c5 : (i + 5 < (L : Int)) = True := eq_true (by omega)
  have m5 : mrg (f (i + 5)) = True := eq_true (hf _)
  simp only [false_and, and_false, true_or, or_true, false_or, or_false, true_and, and_true, true_implies, false_implies, implies_true, not_true_eq_false, not_false_eq_true, and_self, List.length_cons, List.length_nil, mNoCut_, mCat_n, mCat_I, mCat_L, mCat_R, mIsL_n, mIsL_I, mIsL_R, mIsL_L, Nat.reduceAdd, Nat.reduceSub, Nat.reduceLeDiff, Nat.reduceLT, Nat.reduceEqDiff, Nat.zero_le, Int.reduceEq, Int.reduceLT, Int.reduceLE, Int.reduceNeg, Int.reduceAdd, if_true, if_false, reduceIte, reduceCtorEq, Bool.false_eq_true, ne_eq, qCmp_0, qCmp_1, qCmp_2, qCmp_3, qCmp_4, qCmp_5, ib_0, ib_1, ib_2, lb_0, lb_1, lb_2, dv_0, dv_1, wl_ic, wl_ld_i, wl_ld_a, wl_ib, wl_ald, wl_ret1, wl_eqI, ldR1, ldR0, ldI4, mrg_1_, wl_callV2_0, SL_body_179, ldR2, SL_body_180, mrg_0_, mPut_s, mPut_I0, mPut_R0, mPut_L0, mPut_I1, mPut_R1, mPut_L1, mGoL_n, mGoL_c, mMask_t, mMask_f, mMask_n, cutL_body_3066, kL_body_2717, sk_0, al_0, sk_200, al_200, sk_230, al_230, sn_230, ald_r2, ald_230, shqR_, spX11_thrown, Option.some.injEq, ncast, b1, b2, b3, b4, b5, c1, c2, c3, c4, c5, m1, m2, m3, m4, m5]
  refine ⟨_, P_score H (hf _), fun o I1 hq => ?_⟩
  obtain ⟨a, rfl, hq⟩ := hq
  simp only [false_and, and_false, true_or, or_true, false_or, or_false, true_and, and_true, true_implies, false_implies, implies_true, not_true_eq_false, not_false_eq_true, and_self, List.length_cons, List.length_nil, mNoCut_, mCat_n, mCat_I, mCat_L, mCat_R, mIsL_n, mIsL_I, mIsL_R, mIsL_L, Nat.reduceAdd, Nat.reduceSub, Nat.reduceLeDiff, Nat.reduceLT, Nat.reduceEqDiff, Nat.zero_le, Int.reduceEq, Int.reduceLT, Int.reduceLE, Int.reduceNeg, Int.reduceAdd, if_true, if_false, reduceIte, reduceCtorEq, Bool.false_eq_true, ne_eq, qCmp_0, qCmp_1, qCmp_2, qCmp_3, qCmp_4, qCmp_5, ib_0, ib_1, ib_2, lb_0, lb_1, lb_2, dv_0, dv_1, wl_ic, wl_ld_i, wl_ld_a, wl_ib, wl_ald, wl_ret1, wl_eqI, ldR1, ldR0, ldI4, mrg_1_, wl_callV2_0, SL_body_179, ldR2, SL_body_180, mrg_0_, mPut_s, mPut_I0, mPut_R0, mPut_L0, mPut_I1, mPut_R1, mPut_L1, mGoL_n, mGoL_c, mMask_t, mMask_f, mMask_n, cutL_body_3066, kL_body_2717, sk_0, al_0, sk_200, al_200, sk_230, al_230, sn_230, ald_r2, ald_230, shqR_, spX11_thrown, Option.some.injEq, ncast, b1, b2, b3, b4, b5, c1, c2, c3, c4, c5, m1, m2, m3, m4, m5]
  refine ⟨_, hq, fun o2 I2 h2 => ?_⟩
  obtain ⟨b, rfl, h3, hI2⟩ := h2
  simp only [false_and, and_false, true_or, or_true, false_or, or_false, true_and, and_true, true_implies, false_implies, implies_true, not_true_eq_false, not_false_eq_true, and_self, List.length_cons, List.length_nil, mNoCut_, mCat_n, mCat_I, mCat_L, mCat_R, mIsL_n, mIsL_I, mIsL_R, mIsL_L, Nat.reduceAdd, Nat.reduceSub, Nat.reduceLeDiff, Nat.reduceLT, Nat.reduceEqDiff, Nat.zero_le, Int.reduceEq, Int.reduceLT, Int.reduceLE, Int.reduceNeg, Int.reduceAdd, if_true, if_false, reduceIte, reduceCtorEq, Bool.false_eq_true, ne_eq, qCmp_0, qCmp_1, qCmp_2, qCmp_3, qCmp_4, qCmp_5, ib_0, ib_1, ib_2, lb_0, lb_1, lb_2, dv_0, dv_1, wl_ic, wl_ld_i, wl_ld_a, wl_ib, wl_ald, wl_ret1, wl_eqI, ldR1, ldR0, ldI4, mrg_1_, wl_callV2_0, SL_body_179, ldR2, SL_body_180, mrg_0_, mPut_s, mPut_I0, mPut_R0, mPut_L0, mPut_I1, mPut_R1, mPut_L1, mGoL_n, mGoL_c, mMask_t, mMask_f, mMask_n, cutL_body_3066, kL_body_2717, sk_0, al_0, sk_200, al_200, sk_230, al_230, sn_230, ald_r2, ald_230, shqR_, spX11_thrown, Option.some.injEq, ncast, b1, b2, b3, b4, b5, c1, c2, c3, c4, c5, m1, m2, m3, m4, m5]
  have hC : CL i fl L I 3066 (lvL i) [] I2 := ⟨rfl, rfl, Or.inl ⟨rfl, hI2⟩⟩
  repeat' (first | exact hC | exact h3 | apply And.intro | intro _)
  all_goals first | exact h3 | (unfold mrg; omega) | omega
set_option maxRecDepth 100000 in
theorem W_41 {fl : Nat → Bool} {I : mM} {f : Int → Int} {L : Nat} {i : Int} (H : LI fl I) (hi : 0 ≤ i) (hL : i + 6 ≤ (L : Int)) (hf : ∀ q : Int, mrg (f q)) : wlP fl L f i I kL_body_2802 I := by
  unfold wlP
  have b1 : (0 ≤ i + 1) = True := eq_true (by omega)
  have c1 : (i + 1 < (L : Int)) = True := eq_true (by omega)
  have m1 : mrg (f (i + 1)) = True := eq_true (hf _)
  have b2 : (0 ≤ i + 2) = True := eq_true (by omega)
  have c2 : (i + 2 < (L : Int)) = True := eq_true (by omega)
  have m2 : mrg (f (i + 2)) = True := eq_true (hf _)
  have b3 : (0 ≤ i + 3) = True := eq_true (by omega)
  have c3 : (i + 3 < (L : Int)) = True := eq_true (by omega)
  have m3 : mrg (f (i + 3)) = True := eq_true (hf _)
  have b4 : (0 ≤ i + 4) = True := eq_true (by omega)
  have c4 : (i + 4 < (L : Int)) = True := eq_true (by omega)
  have m4 : mrg (f (i + 4)) = True := eq_true (hf _)
  have b5 : (0 ≤ i + 5) = True := eq_true (by omega)
  have c5 : (i + 5 < (L : Int)) = True := eq_true (by omega)
  have m5 : mrg (f (i + 5)) = True := eq_true (hf _)
  simp only [false_and, and_false, true_or, or_true, false_or, or_false, true_and, and_true, true_implies, false_implies, implies_true, not_true_eq_false, not_false_eq_true, and_self, List.length_cons, List.length_nil, mNoCut_, mCat_n, mCat_I, mCat_L, mCat_R, mIsL_n, mIsL_I, mIsL_R, mIsL_L, Nat.reduceAdd, Nat.reduceSub, Nat.reduceLeDiff, Nat.reduceLT, Nat.reduceEqDiff, Nat.zero_le, Int.reduceEq, Int.reduceLT, Int.reduceLE, Int.reduceNeg, Int.reduceAdd, if_true, if_false, reduceIte, reduceCtorEq, Bool.false_eq_true, ne_eq, qCmp_0, qCmp_1, qCmp_2, qCmp_3, qCmp_4, qCmp_5, ib_0, ib_1, ib_2, lb_0, lb_1, lb_2, dv_0, dv_1, wl_ic, wl_lc, wl_ld_i, wl_ld_l, wl_ld_a, wl_st_i, wl_st_l, wl_ib, wl_lb, wl_i2l, wl_lsh, wl_if, mrg_0_, wl_goto, wl_ald, wl_ret1, wl_eqI, wl_eqL, ldR1, ldR0, ldI4, mrg_1_, ldR3, wl_callS5_4, SL_body_33, stI5, ldR2, wl_callV4_0, SL_body_182, stL6, wl_callV1_0, SL_body_104, ldI5, ldL6, mPut_s, mPut_I0, mPut_R0, mPut_L0, mPut_I1, mPut_R1, mPut_L1, mGoL_n, mGoL_c, mMask_t, mMask_f, mMask_n, cutL_body_2894, sfxL_body_2894, cutL_body_2910, sfxL_body_2910, cutL_body_3066, kL_body_2802, kL_body_2894, kL_body_2910, sk_0, al_0, sk_200, al_200, sk_230, al_230, sn_230, ald_r2, ald_230, shqR_, spX11_thrown, Option.some.injEq, ncast, b1, b2, b3, b4, b5, c1, c2, c3, c4, c5, m1, m2, m3, m4, m5]
  refine ⟨_, P_write H (hf _) (hf _) (mrl_lb4 _ _), fun o I1 hq => ?_⟩
  obtain ⟨k, rfl, hk, hq⟩ := hq
  simp only [false_and, and_false, true_or, or_true, false_or, or_false, true_and, and_true, true_implies, false_implies, implies_true, not_true_eq_false, not_false_eq_true, and_self, List.length_cons, List.length_nil, mNoCut_, mCat_n, mCat_I, mCat_L, mCat_R, mIsL_n, mIsL_I, mIsL_R, mIsL_L, Nat.reduceAdd, Nat.reduceSub, Nat.reduceLeDiff, Nat.reduceLT, Nat.reduceEqDiff, Nat.zero_le, Int.reduceEq, Int.reduceLT, Int.reduceLE, Int.reduceNeg, Int.reduceAdd, if_true, if_false, reduceIte, reduceCtorEq, Bool.false_eq_true, ne_eq, qCmp_0, qCmp_1, qCmp_2, qCmp_3, qCmp_4, qCmp_5, ib_0, ib_1, ib_2, lb_0, lb_1, lb_2, dv_0, dv_1, wl_ic, wl_lc, wl_ld_i, wl_ld_l, wl_ld_a, wl_st_i, wl_st_l, wl_ib, wl_lb, wl_i2l, wl_lsh, wl_if, mrg_0_, wl_goto, wl_ald, wl_ret1, wl_eqI, wl_eqL, ldR1, ldR0, ldI4, mrg_1_, ldR3, wl_callS5_4, SL_body_33, stI5, ldR2, wl_callV4_0, SL_body_182, stL6, wl_callV1_0, SL_body_104, ldI5, ldL6, mPut_s, mPut_I0, mPut_R0, mPut_L0, mPut_I1, mPut_R1, mPut_L1, mGoL_n, mGoL_c, mMask_t, mMask_f, mMask_n, cutL_body_2894, sfxL_body_2894, cutL_body_2910, sfxL_body_2910, cutL_body_3066, kL_body_2802, kL_body_2894, kL_body_2910, sk_0, al_0, sk_200, al_200, sk_230, al_230, sn_230, ald_r2, ald_230, shqR_, spX11_thrown, Option.some.injEq, ncast, b1, b2, b3, b4, b5, c1, c2, c3, c4, c5, m1, m2, m3, m4, m5]
  refine ⟨_, hq, fun o2 I2 h2 => ?_⟩
  obtain ⟨b, rfl, h3, h0, hI2⟩ := h2
  simp only [false_and, and_false, true_or, or_true, false_or, or_false, true_and, and_true, true_implies, false_implies, implies_true, not_true_eq_false, not_false_eq_true, and_self, List.length_cons, List.length_nil, mNoCut_, mCat_n, mCat_I, mCat_L, mCat_R, mIsL_n, mIsL_I, mIsL_R, mIsL_L, Nat.reduceAdd, Nat.reduceSub, Nat.reduceLeDiff, Nat.reduceLT, Nat.reduceEqDiff, Nat.zero_le, Int.reduceEq, Int.reduceLT, Int.reduceLE, Int.reduceNeg, Int.reduceAdd, if_true, if_false, reduceIte, reduceCtorEq, Bool.false_eq_true, ne_eq, qCmp_0, qCmp_1, qCmp_2, qCmp_3, qCmp_4, qCmp_5, ib_0, ib_1, ib_2, lb_0, lb_1, lb_2, dv_0, dv_1, wl_ic, wl_lc, wl_ld_i, wl_ld_l, wl_ld_a, wl_st_i, wl_st_l, wl_ib, wl_lb, wl_i2l, wl_lsh, wl_if, mrg_0_, wl_goto, wl_ald, wl_ret1, wl_eqI, wl_eqL, ldR1, ldR0, ldI4, mrg_1_, ldR3, wl_callS5_4, SL_body_33, stI5, ldR2, wl_callV4_0, SL_body_182, stL6, wl_callV1_0, SL_body_104, ldI5, ldL6, mPut_s, mPut_I0, mPut_R0, mPut_L0, mPut_I1, mPut_R1, mPut_L1, mGoL_n, mGoL_c, mMask_t, mMask_f, mMask_n, cutL_body_2894, sfxL_body_2894, cutL_body_2910, sfxL_body_2910, cutL_body_3066, kL_body_2802, kL_body_2894, kL_body_2910, sk_0, al_0, sk_200, al_200, sk_230, al_230, sn_230, ald_r2, ald_230, shqR_, spX11_thrown, Option.some.injEq, ncast, b1, b2, b3, b4, b5, c1, c2, c3, c4, c5, m1, m2, m3, m4, m5]
  have hC : CL i fl L I 3066 (lvL i) [] I2 := ⟨rfl, rfl, Or.inl ⟨rfl, hI2⟩⟩
  repeat' (first | exact hC | exact h3 | apply And.intro | intro _)
  all_goals first | exact h3 | (unfold mrg; omega) | omega
set_option maxRecDepth 100000 in
theorem W_42 {fl : Nat → Bool} {I : mM} {f : Int → Int} {L : Nat} {i : Int} (H : LI fl I) (hi : 0 ≤ i) (hL : i + 6 ≤ (L : Int)) (hf : ∀ q : Int, mrg (f q)) : wlP fl L f i I kL_body_2913 I := by
  unfold wlP
  have b1 : (0 ≤ i + 1) = True := eq_true (by omega)
  have c1 : (i + 1 < (L : Int)) = True := eq_true (by omega)
  have m1 : mrg (f (i + 1)) = True := eq_true (hf _)
  have b2 : (0 ≤ i + 2) = True := eq_true (by omega)
  have c2 : (i + 2 < (L : Int)) = True := eq_true (by omega)
  have m2 : mrg (f (i + 2)) = True := eq_true (hf _)
  have b3 : (0 ≤ i + 3) = True := eq_true (by omega)
  have c3 : (i + 3 < (L : Int)) = True := eq_true (by omega)
  have m3 : mrg (f (i + 3)) = True := eq_true (hf _)
  have b4 : (0 ≤ i + 4) = True := eq_true (by omega)
  have c4 : (i + 4 < (L : Int)) = True := eq_true (by omega)
  have m4 : mrg (f (i + 4)) = True := eq_true (hf _)
  have b5 : (0 ≤ i + 5) = True := eq_true (by omega)
  have c5 : (i + 5 < (L : Int)) = True := eq_true (by omega)
  have m5 : mrg (f (i + 5)) = True := eq_true (hf _)
  simp only [false_and, and_false, true_or, or_true, false_or, or_false, true_and, and_true, true_implies, false_implies, implies_true, not_true_eq_false, not_false_eq_true, and_self, List.length_cons, List.length_nil, mNoCut_, mCat_n, mCat_I, mCat_L, mCat_R, mIsL_n, mIsL_I, mIsL_R, mIsL_L, Nat.reduceAdd, Nat.reduceSub, Nat.reduceLeDiff, Nat.reduceLT, Nat.reduceEqDiff, Nat.zero_le, Int.reduceEq, Int.reduceLT, Int.reduceLE, Int.reduceNeg, Int.reduceAdd, if_true, if_false, reduceIte, reduceCtorEq, Bool.false_eq_true, ne_eq, qCmp_0, qCmp_1, qCmp_2, qCmp_3, qCmp_4, qCmp_5, ib_0, ib_1, ib_2, lb_0, lb_1, lb_2, dv_0, dv_1, wl_ic, wl_ld_i, wl_ld_a, wl_st_i, wl_ib, wl_if, mrg_0_, wl_goto, wl_ald, wl_ret1, wl_eqI, wl_eqL, wl_i2x, ldR1, ldR0, ldI4, mrg_1_, ldR3, wl_callS3_4, SL_body_34, stI5, ldR2, wl_callV2_0, SL_body_184, stI6, wl_callV1_0, SL_body_104, ldI5, ldI6, mPut_s, mPut_I0, mPut_R0, mPut_L0, mPut_I1, mPut_R1, mPut_L1, mGoL_n, mGoL_c, mMask_t, mMask_f, mMask_n, cutL_body_2949, sfxL_body_2949, cutL_body_2966, sfxL_body_2966, cutL_body_3066, kL_body_2913, kL_body_2949, kL_body_2966, sk_0, al_0, sk_200, al_200, sk_230, al_230, sn_230, ald_r2, ald_230, shqR_, spX11_thrown, Option.some.injEq, ncast, b1, b2, b3, b4, b5, c1, c2, c3, c4, c5, m1, m2, m3, m4, m5]
  refine ⟨_, P_pour H (hf _), fun o I1 hq => ?_⟩
  obtain ⟨k, rfl, hk, hq⟩ := hq
  simp only [false_and, and_false, true_or, or_true, false_or, or_false, true_and, and_true, true_implies, false_implies, implies_true, not_true_eq_false, not_false_eq_true, and_self, List.length_cons, List.length_nil, mNoCut_, mCat_n, mCat_I, mCat_L, mCat_R, mIsL_n, mIsL_I, mIsL_R, mIsL_L, Nat.reduceAdd, Nat.reduceSub, Nat.reduceLeDiff, Nat.reduceLT, Nat.reduceEqDiff, Nat.zero_le, Int.reduceEq, Int.reduceLT, Int.reduceLE, Int.reduceNeg, Int.reduceAdd, if_true, if_false, reduceIte, reduceCtorEq, Bool.false_eq_true, ne_eq, qCmp_0, qCmp_1, qCmp_2, qCmp_3, qCmp_4, qCmp_5, ib_0, ib_1, ib_2, lb_0, lb_1, lb_2, dv_0, dv_1, wl_ic, wl_ld_i, wl_ld_a, wl_st_i, wl_ib, wl_if, mrg_0_, wl_goto, wl_ald, wl_ret1, wl_eqI, wl_eqL, wl_i2x, ldR1, ldR0, ldI4, mrg_1_, ldR3, wl_callS3_4, SL_body_34, stI5, ldR2, wl_callV2_0, SL_body_184, stI6, wl_callV1_0, SL_body_104, ldI5, ldI6, mPut_s, mPut_I0, mPut_R0, mPut_L0, mPut_I1, mPut_R1, mPut_L1, mGoL_n, mGoL_c, mMask_t, mMask_f, mMask_n, cutL_body_2949, sfxL_body_2949, cutL_body_2966, sfxL_body_2966, cutL_body_3066, kL_body_2913, kL_body_2949, kL_body_2966, sk_0, al_0, sk_200, al_200, sk_230, al_230, sn_230, ald_r2, ald_230, shqR_, spX11_thrown, Option.some.injEq, ncast, b1, b2, b3, b4, b5, c1, c2, c3, c4, c5, m1, m2, m3, m4, m5]
  refine ⟨_, hq, fun o2 I2 h2 => ?_⟩
  obtain ⟨b, rfl, h3, h0, hI2⟩ := h2
  simp only [false_and, and_false, true_or, or_true, false_or, or_false, true_and, and_true, true_implies, false_implies, implies_true, not_true_eq_false, not_false_eq_true, and_self, List.length_cons, List.length_nil, mNoCut_, mCat_n, mCat_I, mCat_L, mCat_R, mIsL_n, mIsL_I, mIsL_R, mIsL_L, Nat.reduceAdd, Nat.reduceSub, Nat.reduceLeDiff, Nat.reduceLT, Nat.reduceEqDiff, Nat.zero_le, Int.reduceEq, Int.reduceLT, Int.reduceLE, Int.reduceNeg, Int.reduceAdd, if_true, if_false, reduceIte, reduceCtorEq, Bool.false_eq_true, ne_eq, qCmp_0, qCmp_1, qCmp_2, qCmp_3, qCmp_4, qCmp_5, ib_0, ib_1, ib_2, lb_0, lb_1, lb_2, dv_0, dv_1, wl_ic, wl_ld_i, wl_ld_a, wl_st_i, wl_ib, wl_if, mrg_0_, wl_goto, wl_ald, wl_ret1, wl_eqI, wl_eqL, wl_i2x, ldR1, ldR0, ldI4, mrg_1_, ldR3, wl_callS3_4, SL_body_34, stI5, ldR2, wl_callV2_0, SL_body_184, stI6, wl_callV1_0, SL_body_104, ldI5, ldI6, mPut_s, mPut_I0, mPut_R0, mPut_L0, mPut_I1, mPut_R1, mPut_L1, mGoL_n, mGoL_c, mMask_t, mMask_f, mMask_n, cutL_body_2949, sfxL_body_2949, cutL_body_2966, sfxL_body_2966, cutL_body_3066, kL_body_2913, kL_body_2949, kL_body_2966, sk_0, al_0, sk_200, al_200, sk_230, al_230, sn_230, ald_r2, ald_230, shqR_, spX11_thrown, Option.some.injEq, ncast, b1, b2, b3, b4, b5, c1, c2, c3, c4, c5, m1, m2, m3, m4, m5]
  have hC : CL i fl L I 3066 (lvL i) [] I2 := ⟨rfl, rfl, Or.inl ⟨rfl, hI2⟩⟩
  repeat' (first | exact hC | exact h3 | apply And.intro | intro _)
  all_goals first | exact h3 | (unfold mrg; omega) | omega
set_option maxRecDepth 100000 in
theorem W_44 {fl : Nat → Bool} {I : mM} {f : Int → Int} {L : Nat} {i : Int} (H : LI fl I) (hi : 0 ≤ i) (hL : i + 6 ≤ (L : Int)) (hf : ∀ q : Int, mrg (f q)) : wlP fl L f i I kL_body_3005 I := by
  unfold wlP
  have b1 : (0 ≤ i + 1) = True := eq_true (by omega)
  have c1 : (i + 1 < (L : Int)) = True := eq_true (by omega)
  have m1 : mrg (f (i + 1)) = True := eq_true (hf _)
  have b2 : (0 ≤ i + 2) = True := eq_true (by omega)
  have c2 : (i + 2 < (L : Int)) = True := eq_true (by omega)
  have m2 : mrg (f (i + 2)) = True := eq_true (hf _)
  have b3 : (0 ≤ i + 3) = True := eq_true (by omega)
  have c3 : (i + 3 < (L : Int)) = True := eq_true (by omega)
  have m3 : mrg (f (i + 3)) = True := eq_true (hf _)
  have b4 : (0 ≤ i + 4) = True := eq_true (by omega)
  have c4 : (i + 4 < (L : Int)) = True := eq_true (by omega)
  have m4 : mrg (f (i + 4)) = True := eq_true (hf _)
  have b5 : (0 ≤ i + 5) = True := eq_true (by omega)
  have c5 : (i + 5 < (L : Int)) = True := eq_true (by omega)
  have m5 : mrg (f (i + 5)) = True := eq_true (hf _)
  simp only [false_and, and_false, true_or, or_true, false_or, or_false, true_and, and_true, true_implies, false_implies, implies_true, not_true_eq_false, not_false_eq_true, and_self, List.length_cons, List.length_nil, mNoCut_, mCat_n, mCat_I, mCat_L, mCat_R, mIsL_n, mIsL_I, mIsL_R, mIsL_L, Nat.reduceAdd, Nat.reduceSub, Nat.reduceLeDiff, Nat.reduceLT, Nat.reduceEqDiff, Nat.zero_le, Int.reduceEq, Int.reduceLT, Int.reduceLE, Int.reduceNeg, Int.reduceAdd, if_true, if_false, reduceIte, reduceCtorEq, Bool.false_eq_true, ne_eq, qCmp_0, qCmp_1, qCmp_2, qCmp_3, qCmp_4, qCmp_5, ib_0, ib_1, ib_2, lb_0, lb_1, lb_2, dv_0, dv_1, wl_ic, wl_ld_i, wl_ld_a, wl_st_i, wl_ib, wl_goto, wl_ald, wl_ret1, wl_eqI, ldR1, ldR0, ldI4, mrg_1_, wl_callS2_4, SL_body_36, stI5, ldR2, wl_callV2_0, SL_body_186, wl_callV1_0, SL_body_104, ldI5, mrg_0_, mPut_s, mPut_I0, mPut_R0, mPut_L0, mPut_I1, mPut_R1, mPut_L1, mGoL_n, mGoL_c, mMask_t, mMask_f, mMask_n, cutL_body_3038, sfxL_body_3038, cutL_body_3066, kL_body_3005, kL_body_3038, sk_0, al_0, sk_200, al_200, sk_230, al_230, sn_230, ald_r2, ald_230, shqR_, spX11_thrown, Option.some.injEq, ncast, b1, b2, b3, b4, b5, c1, c2, c3, c4, c5, m1, m2, m3, m4, m5]
  refine ⟨_, P_restore H (hf _), fun o I1 hq => ?_⟩
  obtain ⟨k, rfl, hk, hq⟩ := hq
  simp only [false_and, and_false, true_or, or_true, false_or, or_false, true_and, and_true, true_implies, false_implies, implies_true, not_true_eq_false, not_false_eq_true, and_self, List.length_cons, List.length_nil, mNoCut_, mCat_n, mCat_I, mCat_L, mCat_R, mIsL_n, mIsL_I, mIsL_R, mIsL_L, Nat.reduceAdd, Nat.reduceSub, Nat.reduceLeDiff, Nat.reduceLT, Nat.reduceEqDiff, Nat.zero_le, Int.reduceEq, Int.reduceLT, Int.reduceLE, Int.reduceNeg, Int.reduceAdd, if_true, if_false, reduceIte, reduceCtorEq, Bool.false_eq_true, ne_eq, qCmp_0, qCmp_1, qCmp_2, qCmp_3, qCmp_4, qCmp_5, ib_0, ib_1, ib_2, lb_0, lb_1, lb_2, dv_0, dv_1, wl_ic, wl_ld_i, wl_ld_a, wl_st_i, wl_ib, wl_goto, wl_ald, wl_ret1, wl_eqI, ldR1, ldR0, ldI4, mrg_1_, wl_callS2_4, SL_body_36, stI5, ldR2, wl_callV2_0, SL_body_186, wl_callV1_0, SL_body_104, ldI5, mrg_0_, mPut_s, mPut_I0, mPut_R0, mPut_L0, mPut_I1, mPut_R1, mPut_L1, mGoL_n, mGoL_c, mMask_t, mMask_f, mMask_n, cutL_body_3038, sfxL_body_3038, cutL_body_3066, kL_body_3005, kL_body_3038, sk_0, al_0, sk_200, al_200, sk_230, al_230, sn_230, ald_r2, ald_230, shqR_, spX11_thrown, Option.some.injEq, ncast, b1, b2, b3, b4, b5, c1, c2, c3, c4, c5, m1, m2, m3, m4, m5]
  refine ⟨_, hq, fun o2 I2 h2 => ?_⟩
  obtain ⟨rfl, h3, hI2⟩ := h2
  simp only [false_and, and_false, true_or, or_true, false_or, or_false, true_and, and_true, true_implies, false_implies, implies_true, not_true_eq_false, not_false_eq_true, and_self, List.length_cons, List.length_nil, mNoCut_, mCat_n, mCat_I, mCat_L, mCat_R, mIsL_n, mIsL_I, mIsL_R, mIsL_L, Nat.reduceAdd, Nat.reduceSub, Nat.reduceLeDiff, Nat.reduceLT, Nat.reduceEqDiff, Nat.zero_le, Int.reduceEq, Int.reduceLT, Int.reduceLE, Int.reduceNeg, Int.reduceAdd, if_true, if_false, reduceIte, reduceCtorEq, Bool.false_eq_true, ne_eq, qCmp_0, qCmp_1, qCmp_2, qCmp_3, qCmp_4, qCmp_5, ib_0, ib_1, ib_2, lb_0, lb_1, lb_2, dv_0, dv_1, wl_ic, wl_ld_i, wl_ld_a, wl_st_i, wl_ib, wl_goto, wl_ald, wl_ret1, wl_eqI, ldR1, ldR0, ldI4, mrg_1_, wl_callS2_4, SL_body_36, stI5, ldR2, wl_callV2_0, SL_body_186, wl_callV1_0, SL_body_104, ldI5, mrg_0_, mPut_s, mPut_I0, mPut_R0, mPut_L0, mPut_I1, mPut_R1, mPut_L1, mGoL_n, mGoL_c, mMask_t, mMask_f, mMask_n, cutL_body_3038, sfxL_body_3038, cutL_body_3066, kL_body_3005, kL_body_3038, sk_0, al_0, sk_200, al_200, sk_230, al_230, sn_230, ald_r2, ald_230, shqR_, spX11_thrown, Option.some.injEq, ncast, b1, b2, b3, b4, b5, c1, c2, c3, c4, c5, m1, m2, m3, m4, m5]
  have hC : CL i fl L I 3066 (lvL i) [] I2 := ⟨rfl, rfl, Or.inl ⟨rfl, hI2⟩⟩
  repeat' (first | exact hC | exact h3 | apply And.intro | intro _)
  all_goals first | exact h3 | (unfold mrg; omega) | omega
set_option maxRecDepth 100000 in
theorem W_45 {fl : Nat → Bool} {I : mM} {f : Int → Int} {L : Nat} {i : Int} (H : LI fl I) (hi : 0 ≤ i) (hL : i + 6 ≤ (L : Int)) (hf : ∀ q : Int, mrg (f q)) : wlP fl L f i I kL_body_3041 I := by
  unfold wlP
  have b1 : (0 ≤ i + 1) = True := eq_true (by omega)
  have c1 : (i + 1 < (L : Int)) = True := eq_true (by omega)
  have m1 : mrg (f (i + 1)) = True := eq_true (hf _)
  have b2 : (0 ≤ i + 2) = True := eq_true (by omega)
  have c2 : (i + 2 < (L : Int)) = True := eq_true (by omega)
  have m2 : mrg (f (i + 2)) = True := eq_true (hf _)
  have b3 : (0 ≤ i + 3) = True := eq_true (by omega)
  have c3 : (i + 3 < (L : Int)) = True := eq_true (by omega)
  have m3 : mrg (f (i + 3)) = True := eq_true (hf _)
  have b4 : (0 ≤ i + 4) = True := eq_true (by omega)
  have c4 : (i + 4 < (L : Int)) = True := eq_true (by omega)
  have m4 : mrg (f (i + 4)) = True := eq_true (hf _)
  have b5 : (0 ≤ i + 5) = True := eq_true (by omega)
  have c5 : (i + 5 < (L : Int)) = True := eq_true (by omega)
  have m5 : mrg (f (i + 5)) = True := eq_true (hf _)
  simp only [false_and, and_false, true_or, or_true, false_or, or_false, true_and, and_true, true_implies, false_implies, implies_true, not_true_eq_false, not_false_eq_true, and_self, List.length_cons, List.length_nil, mNoCut_, mCat_n, mCat_I, mCat_L, mCat_R, mIsL_n, mIsL_I, mIsL_R, mIsL_L, Nat.reduceAdd, Nat.reduceSub, Nat.reduceLeDiff, Nat.reduceLT, Nat.reduceEqDiff, Nat.zero_le, Int.reduceEq, Int.reduceLT, Int.reduceLE, Int.reduceNeg, Int.reduceAdd, if_true, if_false, reduceIte, reduceCtorEq, Bool.false_eq_true, ne_eq, qCmp_0, qCmp_1, qCmp_2, qCmp_3, qCmp_4, qCmp_5, ib_0, ib_1, ib_2, lb_0, lb_1, lb_2, dv_0, dv_1, wl_ic, wl_ld_i, wl_ld_a, wl_ib, wl_ald, wl_ret1, wl_eqI, ldR1, ldR0, ldI4, mrg_1_, wl_callV2_0, SL_body_187, ldR2, SL_body_188, mrg_0_, mPut_s, mPut_I0, mPut_R0, mPut_L0, mPut_I1, mPut_R1, mPut_L1, mGoL_n, mGoL_c, mMask_t, mMask_f, mMask_n, cutL_body_3066, kL_body_3041, sk_0, al_0, sk_200, al_200, sk_230, al_230, sn_230, ald_r2, ald_230, shqR_, spX11_thrown, Option.some.injEq, ncast, b1, b2, b3, b4, b5, c1, c2, c3, c4, c5, m1, m2, m3, m4, m5]
  refine ⟨_, P_count H (hf _), fun o I1 hq => ?_⟩
  obtain ⟨a, rfl, hq⟩ := hq
  simp only [false_and, and_false, true_or, or_true, false_or, or_false, true_and, and_true, true_implies, false_implies, implies_true, not_true_eq_false, not_false_eq_true, and_self, List.length_cons, List.length_nil, mNoCut_, mCat_n, mCat_I, mCat_L, mCat_R, mIsL_n, mIsL_I, mIsL_R, mIsL_L, Nat.reduceAdd, Nat.reduceSub, Nat.reduceLeDiff, Nat.reduceLT, Nat.reduceEqDiff, Nat.zero_le, Int.reduceEq, Int.reduceLT, Int.reduceLE, Int.reduceNeg, Int.reduceAdd, if_true, if_false, reduceIte, reduceCtorEq, Bool.false_eq_true, ne_eq, qCmp_0, qCmp_1, qCmp_2, qCmp_3, qCmp_4, qCmp_5, ib_0, ib_1, ib_2, lb_0, lb_1, lb_2, dv_0, dv_1, wl_ic, wl_ld_i, wl_ld_a, wl_ib, wl_ald, wl_ret1, wl_eqI, ldR1, ldR0, ldI4, mrg_1_, wl_callV2_0, SL_body_187, ldR2, SL_body_188, mrg_0_, mPut_s, mPut_I0, mPut_R0, mPut_L0, mPut_I1, mPut_R1, mPut_L1, mGoL_n, mGoL_c, mMask_t, mMask_f, mMask_n, cutL_body_3066, kL_body_3041, sk_0, al_0, sk_200, al_200, sk_230, al_230, sn_230, ald_r2, ald_230, shqR_, spX11_thrown, Option.some.injEq, ncast, b1, b2, b3, b4, b5, c1, c2, c3, c4, c5, m1, m2, m3, m4, m5]
  refine ⟨_, hq, fun o2 I2 h2 => ?_⟩
  obtain ⟨b, rfl, h3, hI2⟩ := h2
  simp only [false_and, and_false, true_or, or_true, false_or, or_false, true_and, and_true, true_implies, false_implies, implies_true, not_true_eq_false, not_false_eq_true, and_self, List.length_cons, List.length_nil, mNoCut_, mCat_n, mCat_I, mCat_L, mCat_R, mIsL_n, mIsL_I, mIsL_R, mIsL_L, Nat.reduceAdd, Nat.reduceSub, Nat.reduceLeDiff, Nat.reduceLT, Nat.reduceEqDiff, Nat.zero_le, Int.reduceEq, Int.reduceLT, Int.reduceLE, Int.reduceNeg, Int.reduceAdd, if_true, if_false, reduceIte, reduceCtorEq, Bool.false_eq_true, ne_eq, qCmp_0, qCmp_1, qCmp_2, qCmp_3, qCmp_4, qCmp_5, ib_0, ib_1, ib_2, lb_0, lb_1, lb_2, dv_0, dv_1, wl_ic, wl_ld_i, wl_ld_a, wl_ib, wl_ald, wl_ret1, wl_eqI, ldR1, ldR0, ldI4, mrg_1_, wl_callV2_0, SL_body_187, ldR2, SL_body_188, mrg_0_, mPut_s, mPut_I0, mPut_R0, mPut_L0, mPut_I1, mPut_R1, mPut_L1, mGoL_n, mGoL_c, mMask_t, mMask_f, mMask_n, cutL_body_3066, kL_body_3041, sk_0, al_0, sk_200, al_200, sk_230, al_230, sn_230, ald_r2, ald_230, shqR_, spX11_thrown, Option.some.injEq, ncast, b1, b2, b3, b4, b5, c1, c2, c3, c4, c5, m1, m2, m3, m4, m5]
  have hC : CL i fl L I 3066 (lvL i) [] I2 := ⟨rfl, rfl, Or.inl ⟨rfl, hI2⟩⟩
  repeat' (first | exact hC | exact h3 | apply And.intro | intro _)
  all_goals first | exact h3 | (unfold mrg; omega) | omega
set_option maxRecDepth 100000 in
theorem W_all {fl : Nat → Bool} {I : mM} {f : Int → Int} {L : Nat} {i : Int} (H : LI fl I) (hi : 0 ≤ i) (hL : (L : Int) ≤ 3072) (hi2 : i ≤ 3072) (hf : ∀ q : Int, mrg (f q)) : mWpL SL_body (mGoL SL_body (fun _ _ => False) (fun _ _ _ => False) fl (roL L f) kL_body cutL_body (CL i fl L I) 60) (fun _ _ => False) (fun _ _ _ => False) fl (roL L f) kL_body_23 (lvL i) [] I := by
  have m0 : mrg (f i) = True := eq_true (hf _)
  have r1 : mrg i = True := eq_true (by unfold mrg; omega)
  have r2 : mrg ((L : Int) - 6) = True := eq_true (by unfold mrg; omega)
  have r3 : mrg (ib 3 (f i) 63) = True := eq_true (mrg_and _ _)
  by_cases h : i + 6 ≤ (L : Int)
  · have z : ((L : Int) - 6 < i) = False := eq_false (by omega)
    have b0 : (0 ≤ i) = True := eq_true hi
    have c0 : (i < (L : Int)) = True := eq_true (by omega)
    simp only [false_and, and_false, true_or, or_true, false_or, or_false, true_and, and_true, true_implies, false_implies, implies_true, not_true_eq_false, not_false_eq_true, and_self, List.length_cons, List.length_nil, mNoCut_, mCat_n, mCat_I, mCat_L, mCat_R, mIsL_n, mIsL_I, mIsL_R, mIsL_L, Nat.reduceAdd, Nat.reduceSub, Nat.reduceLeDiff, Nat.reduceLT, Nat.reduceEqDiff, Nat.zero_le, Int.reduceEq, Int.reduceLT, Int.reduceLE, Int.reduceNeg, Int.reduceAdd, if_true, if_false, reduceIte, reduceCtorEq, Bool.false_eq_true, ne_eq, qCmp_0, qCmp_1, qCmp_2, qCmp_3, qCmp_4, qCmp_5, ib_0, ib_1, ib_2, lb_0, lb_1, lb_2, dv_0, dv_1, wl_ic, wl_ld_i, wl_ld_a, wl_ib, wl_icmp, wl_ald, wl_len, wl_sw, wqsw_n, wqsw_c, ldI4, ldR0, mGoL_n, mGoL_c, mMask_t, mMask_f, mMask_n, ald_r2, len_r2, ncast, kL_body_23, cutL_body_240, sfxL_body_240, cutL_body_313, sfxL_body_313, cutL_body_369, sfxL_body_369, cutL_body_394, sfxL_body_394, cutL_body_450, sfxL_body_450, cutL_body_530, sfxL_body_530, cutL_body_610, sfxL_body_610, cutL_body_694, sfxL_body_694, cutL_body_762, sfxL_body_762, cutL_body_830, sfxL_body_830, cutL_body_843, sfxL_body_843, cutL_body_891, sfxL_body_891, cutL_body_959, sfxL_body_959, cutL_body_1027, sfxL_body_1027, cutL_body_1095, sfxL_body_1095, cutL_body_1163, sfxL_body_1163, cutL_body_1231, sfxL_body_1231, cutL_body_1299, sfxL_body_1299, cutL_body_1362, sfxL_body_1362, cutL_body_1376, sfxL_body_1376, cutL_body_1390, sfxL_body_1390, cutL_body_1458, sfxL_body_1458, cutL_body_1526, sfxL_body_1526, cutL_body_1589, sfxL_body_1589, cutL_body_1652, sfxL_body_1652, cutL_body_1700, sfxL_body_1700, cutL_body_1799, sfxL_body_1799, cutL_body_1867, sfxL_body_1867, cutL_body_1935, sfxL_body_1935, cutL_body_1948, sfxL_body_1948, cutL_body_2040, sfxL_body_2040, cutL_body_2115, sfxL_body_2115, cutL_body_2202, sfxL_body_2202, cutL_body_2277, sfxL_body_2277, cutL_body_2357, sfxL_body_2357, cutL_body_2413, sfxL_body_2413, cutL_body_2516, sfxL_body_2516, cutL_body_2596, sfxL_body_2596, cutL_body_2637, sfxL_body_2637, cutL_body_2717, sfxL_body_2717, cutL_body_2742, cutL_body_2802, sfxL_body_2802, cutL_body_2913, sfxL_body_2913, cutL_body_2969, cutL_body_3005, sfxL_body_3005, cutL_body_3041, sfxL_body_3041, cutL_body_3066, cutL_body_3072, m0, r1, r2, r3, z, b0, c0]
    exact (⟨fun _ => W_0 H hi h hf, fun _ => (⟨fun _ => W_1 H hi h hf, fun _ => (⟨fun _ => W_2 H hi h hf, fun _ => (⟨fun _ => W_3 H hi h hf, fun _ => (⟨fun _ => W_4 H hi h hf, fun _ => (⟨fun _ => W_5 H hi h hf, fun _ => (⟨fun _ => W_6 H hi h hf, fun _ => (⟨fun _ => W_7 H hi h hf, fun _ => (⟨fun _ => W_8 H hi h hf, fun _ => (⟨fun _ => W_9 H hi h hf, fun _ => (⟨fun _ => W_10 H hi h hf, fun _ => (⟨fun _ => W_11 H hi h hf, fun _ => (⟨fun _ => W_12 H hi h hf, fun _ => (⟨fun _ => W_13 H hi h hf, fun _ => (⟨fun _ => W_14 H hi h hf, fun _ => (⟨fun _ => W_15 H hi h hf, fun _ => (⟨fun _ => W_16 H hi h hf, fun _ => (⟨fun _ => W_17 H hi h hf, fun _ => (⟨fun _ => W_18 H hi h hf, fun _ => (⟨fun _ => W_19 H hi h hf, fun _ => (⟨fun _ => W_20 H hi h hf, fun _ => (⟨fun _ => W_21 H hi h hf, fun _ => (⟨fun _ => W_22 H hi h hf, fun _ => (⟨fun _ => W_23 H hi h hf, fun _ => (⟨fun _ => W_24 H hi h hf, fun _ => (⟨fun _ => W_25 H hi h hf, fun _ => (⟨fun _ => W_26 H hi h hf, fun _ => (⟨fun _ => W_27 H hi h hf, fun _ => (⟨fun _ => W_28 H hi h hf, fun _ => (⟨fun _ => W_29 H hi h hf, fun _ => (⟨fun _ => W_30 H hi h hf, fun _ => (⟨fun _ => W_31 H hi h hf, fun _ => (⟨fun _ => W_32 H hi h hf, fun _ => (⟨fun _ => W_33 H hi h hf, fun _ => (⟨fun _ => W_34 H hi h hf, fun _ => (⟨fun _ => W_35 H hi h hf, fun _ => (⟨fun _ => W_36 H hi h hf, fun _ => (⟨fun _ => W_37 H hi h hf, fun _ => (⟨fun _ => W_38 H hi h hf, fun _ => (⟨fun _ => W_39 H hi h hf, fun _ => (⟨fun _ => ⟨rfl, rfl, Or.inr (Or.inl ⟨Or.inl rfl, rfl, h⟩)⟩, fun _ => (⟨fun _ => W_41 H hi h hf, fun _ => (⟨fun _ => W_42 H hi h hf, fun _ => (⟨fun _ => ⟨rfl, rfl, Or.inr (Or.inl ⟨Or.inr rfl, rfl, h⟩)⟩, fun _ => (⟨fun _ => W_44 H hi h hf, fun _ => (⟨fun _ => W_45 H hi h hf, (fun _ => ⟨rfl, rfl, Or.inl ⟨rfl, H⟩⟩)⟩)⟩)⟩)⟩)⟩)⟩)⟩)⟩)⟩)⟩)⟩)⟩)⟩)⟩)⟩)⟩)⟩)⟩)⟩)⟩)⟩)⟩)⟩)⟩)⟩)⟩)⟩)⟩)⟩)⟩)⟩)⟩)⟩)⟩)⟩)⟩)⟩)⟩)⟩)⟩)⟩)⟩)⟩)⟩)⟩)⟩)
  · have z : ((L : Int) - 6 < i) = True := eq_true (by omega)
    simp only [false_and, and_false, true_or, or_true, false_or, or_false, true_and, and_true, true_implies, false_implies, implies_true, not_true_eq_false, not_false_eq_true, and_self, List.length_cons, List.length_nil, mNoCut_, mCat_n, mCat_I, mCat_L, mCat_R, mIsL_n, mIsL_I, mIsL_R, mIsL_L, Nat.reduceAdd, Nat.reduceSub, Nat.reduceLeDiff, Nat.reduceLT, Nat.reduceEqDiff, Nat.zero_le, Int.reduceEq, Int.reduceLT, Int.reduceLE, Int.reduceNeg, Int.reduceAdd, if_true, if_false, reduceIte, reduceCtorEq, Bool.false_eq_true, ne_eq, qCmp_0, qCmp_1, qCmp_2, qCmp_3, qCmp_4, qCmp_5, ib_0, ib_1, ib_2, lb_0, lb_1, lb_2, dv_0, dv_1, wl_ic, wl_ld_i, wl_ld_a, wl_ib, wl_icmp, wl_ald, wl_len, wl_sw, wqsw_n, wqsw_c, ldI4, ldR0, mGoL_n, mGoL_c, mMask_t, mMask_f, mMask_n, ald_r2, len_r2, ncast, kL_body_23, cutL_body_240, sfxL_body_240, cutL_body_313, sfxL_body_313, cutL_body_369, sfxL_body_369, cutL_body_394, sfxL_body_394, cutL_body_450, sfxL_body_450, cutL_body_530, sfxL_body_530, cutL_body_610, sfxL_body_610, cutL_body_694, sfxL_body_694, cutL_body_762, sfxL_body_762, cutL_body_830, sfxL_body_830, cutL_body_843, sfxL_body_843, cutL_body_891, sfxL_body_891, cutL_body_959, sfxL_body_959, cutL_body_1027, sfxL_body_1027, cutL_body_1095, sfxL_body_1095, cutL_body_1163, sfxL_body_1163, cutL_body_1231, sfxL_body_1231, cutL_body_1299, sfxL_body_1299, cutL_body_1362, sfxL_body_1362, cutL_body_1376, sfxL_body_1376, cutL_body_1390, sfxL_body_1390, cutL_body_1458, sfxL_body_1458, cutL_body_1526, sfxL_body_1526, cutL_body_1589, sfxL_body_1589, cutL_body_1652, sfxL_body_1652, cutL_body_1700, sfxL_body_1700, cutL_body_1799, sfxL_body_1799, cutL_body_1867, sfxL_body_1867, cutL_body_1935, sfxL_body_1935, cutL_body_1948, sfxL_body_1948, cutL_body_2040, sfxL_body_2040, cutL_body_2115, sfxL_body_2115, cutL_body_2202, sfxL_body_2202, cutL_body_2277, sfxL_body_2277, cutL_body_2357, sfxL_body_2357, cutL_body_2413, sfxL_body_2413, cutL_body_2516, sfxL_body_2516, cutL_body_2596, sfxL_body_2596, cutL_body_2637, sfxL_body_2637, cutL_body_2717, sfxL_body_2717, cutL_body_2742, cutL_body_2802, sfxL_body_2802, cutL_body_2913, sfxL_body_2913, cutL_body_2969, cutL_body_3005, sfxL_body_3005, cutL_body_3041, sfxL_body_3041, cutL_body_3066, cutL_body_3072, r1, r2, z]
    exact ⟨rfl, rfl, Or.inr (Or.inr ⟨rfl, rfl, by omega⟩)⟩
end LWALK
