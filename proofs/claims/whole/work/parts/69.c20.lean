section SPC20
theorem raGo_fst (t : Int → Int) (b h f : Int) : ∀ (m : Nat) (k : Int), raGo t b h f m k = fstN (fun k => decide (lfN t (cellT t b h k) 289 ≠ -1 ∧ lfN t (cellT t b h k) 289 * pcT t f ≤ tickT t b h k)) (ruT t b h f) (unT t b h) m k
  | 0, _ => rfl
  | m + 1, k => by
    simp only [raGo, fstN]
    rw [raGo_fst t b h f m (k + 1)]
    have e : Lf t b h k = lfN t (cellT t b h k) 289 := rfl
    rw [e]
    by_cases z : lfN t (cellT t b h k) 289 ≠ -1 ∧ lfN t (cellT t b h k) 289 * pcT t f ≤ tickT t b h k
    · rw [if_pos z, if_pos (decide_eq_true z)]
      rfl
    · rw [if_neg z, if_neg (fun w => z (of_decide_eq_true w))]
theorem bm_best {t s : Int → Int} (H : WFt t) {b h : Int} (hb : 0 ≤ b ∧ b < 6) (hh : 0 ≤ h ∧ h < 8) (hs : ∀ f : Int, 0 ≤ f → f < 9 → s f = stT t f) : ∀ n : Nat, n ≤ 9 → bmN t s b h n = bestOut t b h n ∧ (0 ≤ (bestOut t b h n).1 ∧ (bestOut t b h n).2 ≤ unT t b h)
  | 0, _ => ⟨rfl, by simp [bestOut], by simp only [bestOut]; unfold unT; omega⟩
  | n + 1, hn => by
    obtain ⟨h1, h2⟩ := bm_best H hb hh hs n (by omega)
    have hn9 := hs n (by omega) (by omega)
    simp only [bmN, bestOut]
    rw [hn9, h1]
    by_cases z : stT t n = -1
    · rw [if_pos z, if_pos z]
      exact ⟨rfl, h2⟩
    · rw [if_neg z, if_neg z]
      have bi := best_in H (f := n) hb hh ⟨by omega, by omega⟩ h2 289 (by omega)
      have e1 : chAl t b h n = gaT t b h n (lfN t (cellT t b h (airT t b h)) 289) := rfl
      have e2 := raGo_fst t b h n (stepsT t b h - airT t b h).toNat (airT t b h + 1)
      have e3 : raAl t b h n = raGo t b h n (stepsT t b h - airT t b h).toNat (airT t b h + 1) := rfl
      rw [← e1] at bi
      rw [← e2, ← e3] at bi
      refine ⟨?_, ?_, ?_⟩
      · rw [← bi.1, ← bi.2]
      · rw [bi.1]
        omega
      · rw [bi.2]
        omega
def bdS (t s : Int → Int) (b : Int) : Nat → Int
  | 0 => 0
  | n + 1 => bdS t s b n + rawT t b n 3 * priceT (t 3) (bmN t s b n 9).1 (bmN t s b n 9).2
theorem bdS_eq {t s : Int → Int} (H : WFt t) {b : Int} (hb : 0 ≤ b ∧ b < 6) (hs : ∀ f : Int, 0 ≤ f → f < 9 → s f = stT t f) : ∀ n : Nat, n ≤ 8 → bdS t s b n = boundN t b n
  | 0, _ => rfl
  | n + 1, hn => by
    have e := (bm_best H hb (h := n) ⟨by omega, by omega⟩ hs 9 (by omega)).1
    have e2 : bestT t b n = bestOut t b n 9 := rfl
    simp only [bdS, boundN]
    rw [bdS_eq H hb hs n (by omega), e, e2]
theorem fr_fr2 (J J' I : mM) : fr 150 150 J' (fr 150 150 J I) = fr 150 150 J' I := fr_fr 150 150 J J' I
def spX2_boundTop : mSp := shR (fun _ i I Q => i = some 140 ∧ stB (I 20) ∧ ∃ t b, ctxU I t b ∧ ∀ J : mM, Q (.inl (some (mL (100 * bdS t (I 20) b (t (13 + b)).toNat)))) (fr 150 150 J I))
def SX2_boundTop : Nat → mSp := fun a => match a with
  | 0 => spX2_boundCost
  | _ => fun _ _ _ _ => False
theorem SX2_boundTop_0 : SX2_boundTop 0 = spX2_boundCost := Eq.trans rfl rfl
theorem cutsX2_boundTop {t : Nat} {bs : List Bool} (h : cutX2_boundTop t = some bs) : (t = 4 ∧ bs = [true, true, false, true]) := by
  unfold cutX2_boundTop at h
  simp only [mLk] at h
  by_cases h0 : 4 = t
  · subst h0
    simp at h
    exact ⟨rfl, h.symm⟩
  rw [if_neg h0] at h
  cases h
set_option maxRecDepth 100000 in
set_option maxHeartbeats 1000000 in
theorem vcX2_boundTop (fl : Nat → Bool) (avs : List mV) (I : mM) (Q : mO → mM → Prop) (hsp : spX2_boundTop fl avs I Q) : mVC SX2_boundTop fl Q kX2_boundTop cutX2_boundTop 4 avs I := by
  obtain ⟨i, rfl, h0⟩ := shR_inv hsp
  obtain ⟨rfl, hB, t, b, H, h⟩ := h0
  have hn := H.1.2.1 b H.2.1.1 H.2.1.2
  have e0 : I 120 0 = t (13 + b) := H.2.2.1.1
  refine ⟨rfl, (fun m pc lv st I1 => st = [] ∧ ∃ (j : Nat) (J : mM), I1 = fr 150 150 J I ∧ lv = [some (mR (some 140)), some (mL (bdS t (I 20) b j)), none, some (mI j)] ∧ j ≤ (t (13 + b)).toNat ∧ m = 8 - j), ?_, ?_⟩
  · intro n t bs hbs lv st I1 hc
    rcases cutsX2_boundTop hbs with ⟨rfl, rfl⟩
    rw [sfxX2_boundTop_4]
    obtain ⟨rfl, j, J, rfl, rfl, hj, hm⟩ := hc
    rcases Nat.lt_or_ge j (t (13 + b)).toNat with z | z
    · have lh := H.lh (h := j) (by omega) (by omega)
      have e24 : I 124 j = rawT t b j 3 := lh.2.2.2.1
      have fb := forT_bd H.1 H.2.1 (h := j) ⟨by omega, by omega⟩
      have bd := bmN_bd H.1 (I 20) H.2.1 (h := j) ⟨by omega, by omega⟩ 9 (by omega)
      have pb := price_bd H.1.1.2.2.2.1 bd.1 bd.2
      have hC : ctxU (fr 150 150 J I) t b := by
        rw [ctxU_fr (by decide)]
        exact H
      clear h
      simp only [false_and, and_false, true_or, or_true, false_or, or_false, true_and, and_true, true_implies, false_implies, implies_true, not_true_eq_false, not_false_eq_true, and_self, List.length_cons, List.length_nil, mNoCut_, mCat_n, mCat_I, mCat_L, mCat_R, mIsL_n, mIsL_I, mIsL_R, mIsL_L, Nat.reduceAdd, Nat.reduceSub, Nat.reduceLeDiff, Nat.reduceLT, Nat.reduceEqDiff, Nat.zero_le, Int.reduceEq, Int.reduceLT, Int.reduceLE, Int.reduceNeg, Int.reduceAdd, if_true, if_false, reduceIte, reduceCtorEq, Bool.false_eq_true, ne_eq, qCmp_0, qCmp_1, qCmp_2, qCmp_3, qCmp_4, qCmp_5, ib_0, ib_1, ib_2, lb_0, lb_1, lb_2, dv_0, dv_1, wq_ic, wq_lc, wq_ld_i, wq_ld_l, wq_ld_a, wq_st_i, wq_st_l, wq_iinc, wq_lb, wq_i2l, wq_icmp, wq_goto, wq_get, mGet_0, mGet_1, mGet_2, mGet_3, wq_ald, wq_ret0, wq_ret1, wq_ret2, wq_ret3, wq_ret4, stL1, mrg_0_, stI3, ldI3, ldR0, fk_2_2, fk_0_0, ldL1, fk_0_6, wq_callV2_0, wqinc3, mPut_s, mPut_I0, mPut_R0, mPut_L0, mPut_I1, mPut_R1, mPut_L1, mGo_n, sfxX2_boundTop_4, cutX2_boundTop_4, sfxX2_boundTop_41, cutX2_boundTop_41, wq_cut, mGo_c, mMask_t, mMask_f, mMask_n, kX2_boundTop_41, kX2_boundTop_4, kX2_boundTop_0, sk_120, al_120, rf_120_6, sk_124, al_124, sn_124, sk_140, al_140, rf_140_2, ald_n, ro0_n, al_ro, SX2_boundTop_0, shqRI_, spX2_boundCost, mrg, mrl, mSet_ap, ncast, Option.some.injEq, fr_ne, e0, e24]
      refine ⟨⟨⟨by omega, by omega⟩, by omega, by omega⟩, fun w => by omega, fun _ => ⟨⟨by omega, by omega⟩, ⟨by omega, by omega⟩, hB, t, b, hC, ⟨by omega, by omega⟩, fun J2 => ⟨⟨by omega, by omega⟩, 8 - (j + 1), by omega, j + 1, J2, fr_fr2 _ _ _, rfl, by omega, rfl⟩⟩⟩
    · have h2 := h J
      have e : j = (t (13 + b)).toNat := by omega
      rw [← e] at h2
      clear h
      simp only [false_and, and_false, true_or, or_true, false_or, or_false, true_and, and_true, true_implies, false_implies, implies_true, not_true_eq_false, not_false_eq_true, and_self, List.length_cons, List.length_nil, mNoCut_, mCat_n, mCat_I, mCat_L, mCat_R, mIsL_n, mIsL_I, mIsL_R, mIsL_L, Nat.reduceAdd, Nat.reduceSub, Nat.reduceLeDiff, Nat.reduceLT, Nat.reduceEqDiff, Nat.zero_le, Int.reduceEq, Int.reduceLT, Int.reduceLE, Int.reduceNeg, Int.reduceAdd, if_true, if_false, reduceIte, reduceCtorEq, Bool.false_eq_true, ne_eq, qCmp_0, qCmp_1, qCmp_2, qCmp_3, qCmp_4, qCmp_5, ib_0, ib_1, ib_2, lb_0, lb_1, lb_2, dv_0, dv_1, wq_ic, wq_lc, wq_ld_i, wq_ld_l, wq_ld_a, wq_st_i, wq_st_l, wq_iinc, wq_lb, wq_i2l, wq_icmp, wq_goto, wq_get, mGet_0, mGet_1, mGet_2, mGet_3, wq_ald, wq_ret0, wq_ret1, wq_ret2, wq_ret3, wq_ret4, stL1, mrg_0_, stI3, ldI3, ldR0, fk_2_2, fk_0_0, ldL1, fk_0_6, wq_callV2_0, wqinc3, mPut_s, mPut_I0, mPut_R0, mPut_L0, mPut_I1, mPut_R1, mPut_L1, mGo_n, sfxX2_boundTop_4, cutX2_boundTop_4, sfxX2_boundTop_41, cutX2_boundTop_41, wq_cut, mGo_c, mMask_t, mMask_f, mMask_n, kX2_boundTop_41, kX2_boundTop_4, kX2_boundTop_0, sk_120, al_120, rf_120_6, sk_124, al_124, sn_124, sk_140, al_140, rf_140_2, ald_n, ro0_n, al_ro, SX2_boundTop_0, shqRI_, spX2_boundCost, mrg, mrl, mSet_ap, ncast, Option.some.injEq, fr_ne, e0]
      (try simp only [mrg, mrl] at *) <;> repeat' (first | (with_reducible assumption) | (with_reducible apply And.intro) | intro _)
      all_goals first | omega | exact h2 | skip
  · show mWp _ _ _ _ _ _ kX2_boundTop_0 [some (mR (some 140)), none, none, none] [] I
    simp only [false_and, and_false, true_or, or_true, false_or, or_false, true_and, and_true, true_implies, false_implies, implies_true, not_true_eq_false, not_false_eq_true, and_self, List.length_cons, List.length_nil, mNoCut_, mCat_n, mCat_I, mCat_L, mCat_R, mIsL_n, mIsL_I, mIsL_R, mIsL_L, Nat.reduceAdd, Nat.reduceSub, Nat.reduceLeDiff, Nat.reduceLT, Nat.reduceEqDiff, Nat.zero_le, Int.reduceEq, Int.reduceLT, Int.reduceLE, Int.reduceNeg, Int.reduceAdd, if_true, if_false, reduceIte, reduceCtorEq, Bool.false_eq_true, ne_eq, qCmp_0, qCmp_1, qCmp_2, qCmp_3, qCmp_4, qCmp_5, ib_0, ib_1, ib_2, lb_0, lb_1, lb_2, dv_0, dv_1, wq_ic, wq_lc, wq_ld_i, wq_ld_l, wq_ld_a, wq_st_i, wq_st_l, wq_iinc, wq_lb, wq_i2l, wq_icmp, wq_goto, wq_get, mGet_0, mGet_1, mGet_2, mGet_3, wq_ald, wq_ret0, wq_ret1, wq_ret2, wq_ret3, wq_ret4, stL1, mrg_0_, stI3, ldI3, ldR0, fk_2_2, fk_0_0, ldL1, fk_0_6, wq_callV2_0, wqinc3, mPut_s, mPut_I0, mPut_R0, mPut_L0, mPut_I1, mPut_R1, mPut_L1, mGo_n, sfxX2_boundTop_4, cutX2_boundTop_4, sfxX2_boundTop_41, cutX2_boundTop_41, wq_cut, mGo_c, mMask_t, mMask_f, mMask_n, kX2_boundTop_41, kX2_boundTop_4, kX2_boundTop_0, sk_120, al_120, rf_120_6, sk_124, al_124, sn_124, sk_140, al_140, rf_140_2, ald_n, ro0_n, al_ro, SX2_boundTop_0, shqRI_, spX2_boundCost, mrg, mrl, mSet_ap, ncast, Option.some.injEq]
    exact ⟨8, 0, I, (fr_self _ _ _).symm, rfl, by omega, rfl⟩
theorem ctrX2_boundTop {l : Launch} (hst : l.stackTraces = false) (hT : mTxM l) : mCtr l calX2_boundTop spX2_boundTop :=
  mMet (T := TX2_boundTop) (S := SX2_boundTop) hst hT cutX2_boundTop (by decide) okX2_boundTop ⟨_, _, rfl, rfl⟩ trivial (fun t bs h => by rcases cutsX2_boundTop h with ⟨-, rfl⟩ <;> rfl) (fun a => match a with
    | 0 => ctrX2_boundCost hst hT
    | _ + 1 => mCtr_no) vcX2_boundTop

theorem frac_mul {a b : Int} (k : Nat) (hk : 0 < k) : upT (k * a) (k * b) = upT a b ∧ loT (k * a) (k * b) = loT a b := by
  have e1 : (((k : Int) * a).natAbs).gcd (((k : Int) * b).natAbs) = k * (a.natAbs.gcd b.natAbs) := by
    rw [Int.natAbs_mul, Int.natAbs_mul, Int.natAbs_natCast, Nat.gcd_mul_left]
  unfold upT loT
  rw [e1, Int.natCast_mul]
  exact ⟨Int.mul_tdiv_mul_of_pos a _ (by omega), Int.mul_tdiv_mul_of_pos b _ (by omega)⟩
def spX10_bound : mSp := shRI (fun _ i b I Q => i = some 0 ∧ clsI I ∧ mrg b ∧ (¬ ballP b → Q (.inr (mEx 0)) I) ∧ (ballP b → allT (I 201) b = 0 → ∀ I', cPost I I' 0 0 → Q (.inl (some (mI 0))) I') ∧ (ballP b → ¬ allT (I 201) b = 0 → ∀ I', cPost I I' (upT (boundT (I 201) b) (100 * allT (I 201) b)) (loT (boundT (I 201) b) (100 * allT (I 201) b)) → Q (.inl (some (mI 1))) I'))
def SX10_bound : Nat → mSp := fun a => match a with
  | 0 => spX10_needBall
  | 1 => spX10_lay
  | 2 => spX2_boundTop
  | 3 => spX0_meanBase
  | 4 => spX10_tell
  | _ => fun _ _ _ _ => False
theorem SX10_bound_0 : SX10_bound 0 = spX10_needBall := Eq.trans rfl rfl
theorem SX10_bound_1 : SX10_bound 1 = spX10_lay := Eq.trans rfl rfl
theorem SX10_bound_2 : SX10_bound 2 = spX2_boundTop := Eq.trans rfl rfl
theorem SX10_bound_3 : SX10_bound 3 = spX0_meanBase := Eq.trans rfl rfl
theorem SX10_bound_4 : SX10_bound 4 = spX10_tell := Eq.trans rfl rfl
set_option maxRecDepth 100000 in
set_option maxHeartbeats 1000000 in
theorem vcX10_bound (fl : Nat → Bool) (avs : List mV) (I : mM) (Q : mO → mM → Prop) (hsp : spX10_bound fl avs I Q) : mVC0 SX10_bound fl Q kX10_bound 2 avs I := by
  obtain ⟨i, b, rfl, h0⟩ := shRI_inv hsp
  refine ⟨rfl, ?_⟩
  show mWp _ _ _ _ _ _ kX10_bound_0 [some (mR i), some (mI b)] [] I
  obtain ⟨rfl, H, hb, h1, h2, h3⟩ := h0
  simp only [false_and, and_false, true_or, or_true, false_or, or_false, true_and, and_true, true_implies, false_implies, implies_true, not_true_eq_false, not_false_eq_true, and_self, List.length_cons, List.length_nil, mNoCut_, mCat_n, mCat_I, mCat_L, mCat_R, mIsL_n, mIsL_I, mIsL_R, mIsL_L, Nat.reduceAdd, Nat.reduceSub, Nat.reduceLeDiff, Nat.reduceLT, Nat.reduceEqDiff, Nat.zero_le, Int.reduceEq, Int.reduceLT, Int.reduceLE, Int.reduceNeg, Int.reduceAdd, if_true, if_false, reduceIte, reduceCtorEq, Bool.false_eq_true, ne_eq, qCmp_0, qCmp_1, qCmp_2, qCmp_3, qCmp_4, qCmp_5, ib_0, ib_1, ib_2, lb_0, lb_1, lb_2, dv_0, dv_1, wq_ld_i, wq_ld_a, wq_get, mGet_0, mGet_1, mGet_2, mGet_3, wq_ret0, wq_ret1, wq_ret2, wq_ret3, wq_ret4, ldI1, wq_callS1_1, ldR0, wq_callV2_0, fk_10_6, wq_callV1_0, fk_10_4, wq_callV3_0, kX10_bound_0, sk_0, al_0, rf_0_6, sk_140, al_140, rf_0_4, sk_120, al_120, SX10_bound_0, SX10_bound_1, SX10_bound_2, SX10_bound_3, SX10_bound_4, shqI_, shqRI_, shqR_, shqRLL_, spX10_needBall, spX10_lay, spX2_boundTop, spX0_meanBase, spX10_tell, mrg, mrl, mSet_ap, ncast, Option.some.injEq, fr_ne]
  refine ⟨hb, fun z => ⟨H, z, fun J hJ => ⟨H.b20, I 201, b, H.ctx z hJ, fun J2 => ?_⟩⟩, h1⟩
  have hn := H.1.2.1 b z.1 z.2
  have e1 : fr 120 127 J I 120 1 = allT (I 201) b := hJ.2.1
  have eb : bdS (I 201) (I 20) b (I 201 (13 + b)).toNat = boundT (I 201) b := bdS_eq H.1 z H.s20e _ (by omega)
  have bb := boundN_bd H.1 z (I 201 (13 + b)).toNat (by omega)
  have eB : boundT (I 201) b = boundN (I 201) b (I 201 (13 + b)).toNat := rfl
  rw [← eB] at bb
  have ab := allT_bd H.1 z
  have fm := frac_mul (a := boundT (I 201) b) (b := 100 * allT (I 201) b) 100 (by decide)
  rw [show ((100 : Nat) : Int) * (100 * allT (I 201) b) = 10000 * allT (I 201) b by omega] at fm
  have cp := ((cPost.rfl I).fr (J := J) (lo := 120) (hi := 127) (by decide) (by decide)).fr (J := J2) (lo := 150) (hi := 150) (by decide) (by decide)
  have h2 := fun w => h2 z w _ (cp.frac 0 0)
  have h3 := fun w => h3 z w _ (cp.frac _ _)
  rw [← fm.1, ← fm.2] at h3
  clear h1
  simp only [e1, eb]
  (try simp only [mrg, mrl] at *) <;> repeat' (first | (with_reducible assumption) | (with_reducible apply And.intro) | intro _)
  all_goals first | omega | exact h2 (by omega) | exact h3 (by omega) | skip
theorem ctrX10_bound {l : Launch} (hst : l.stackTraces = false) (hT : mTxM l) : mCtr l calX10_bound spX10_bound :=
  mMet0 (T := TX10_bound) (S := SX10_bound) hst hT (by decide) okX10_bound ⟨_, _, rfl, rfl⟩ (fun a => match a with
    | 0 => ctrX10_needBall hst hT
    | 1 => ctrX10_lay hst hT
    | 2 => ctrX2_boundTop hst hT
    | 3 => ctrX0_meanBase hst hT
    | 4 => ctrX10_tell hst hT
    | _ + 5 => mCtr_no) vcX10_bound

def spX10_gap : mSp := shRI (fun _ i b I Q => i = some 0 ∧ clsI I ∧ mrg b ∧ (¬ ballP b → Q (.inr (mEx 0)) I) ∧ (ballP b → allT (I 201) b = 0 → ∀ I', cPost I I' 0 0 → Q (.inl (some (mI 0))) I') ∧ (ballP b → ¬ allT (I 201) b = 0 → ∀ I', cPost I I' (upT (meanT (I 201) b - 100 * boundT (I 201) b) (10000 * allT (I 201) b)) (loT (meanT (I 201) b - 100 * boundT (I 201) b) (10000 * allT (I 201) b)) → Q (.inl (some (mI 1))) I'))
def SX10_gap : Nat → mSp := fun a => match a with
  | 0 => spX10_needBall
  | 1 => spX10_lay
  | 2 => spX9_meanTop
  | 3 => spX2_boundTop
  | 4 => spX0_meanBase
  | 5 => spX10_tell
  | _ => fun _ _ _ _ => False
theorem SX10_gap_0 : SX10_gap 0 = spX10_needBall := Eq.trans rfl rfl
theorem SX10_gap_1 : SX10_gap 1 = spX10_lay := Eq.trans rfl rfl
theorem SX10_gap_2 : SX10_gap 2 = spX9_meanTop := Eq.trans rfl rfl
theorem SX10_gap_3 : SX10_gap 3 = spX2_boundTop := Eq.trans rfl rfl
theorem SX10_gap_4 : SX10_gap 4 = spX0_meanBase := Eq.trans rfl rfl
theorem SX10_gap_5 : SX10_gap 5 = spX10_tell := Eq.trans rfl rfl
set_option maxRecDepth 100000 in
set_option maxHeartbeats 1000000 in
theorem vcX10_gap (fl : Nat → Bool) (avs : List mV) (I : mM) (Q : mO → mM → Prop) (hsp : spX10_gap fl avs I Q) : mVC0 SX10_gap fl Q kX10_gap 2 avs I := by
  obtain ⟨i, b, rfl, h0⟩ := shRI_inv hsp
  refine ⟨rfl, ?_⟩
  show mWp _ _ _ _ _ _ kX10_gap_0 [some (mR i), some (mI b)] [] I
  obtain ⟨rfl, H, hb, h1, h2, h3⟩ := h0
  simp only [false_and, and_false, true_or, or_true, false_or, or_false, true_and, and_true, true_implies, false_implies, implies_true, not_true_eq_false, not_false_eq_true, and_self, List.length_cons, List.length_nil, mNoCut_, mCat_n, mCat_I, mCat_L, mCat_R, mIsL_n, mIsL_I, mIsL_R, mIsL_L, Nat.reduceAdd, Nat.reduceSub, Nat.reduceLeDiff, Nat.reduceLT, Nat.reduceEqDiff, Nat.zero_le, Int.reduceEq, Int.reduceLT, Int.reduceLE, Int.reduceNeg, Int.reduceAdd, if_true, if_false, reduceIte, reduceCtorEq, Bool.false_eq_true, ne_eq, qCmp_0, qCmp_1, qCmp_2, qCmp_3, qCmp_4, qCmp_5, ib_0, ib_1, ib_2, lb_0, lb_1, lb_2, dv_0, dv_1, wq_ld_i, wq_ld_a, wq_lb, wq_get, mGet_0, mGet_1, mGet_2, mGet_3, wq_ret0, wq_ret1, wq_ret2, wq_ret3, wq_ret4, ldI1, wq_callS1_1, ldR0, wq_callV2_0, fk_10_5, fk_10_0, fk_7_1, fk_6_0, fk_10_6, wq_callV1_0, fk_10_4, wq_callV3_0, kX10_gap_0, sk_0, al_0, rf_0_5, sk_130, al_130, rf_0_0, sk_10, al_10, rf_0_6, sk_140, al_140, rf_0_4, sk_120, al_120, sk_12, al_12, rf_12_0, sk_20, al_20, sn_20, rf_10_1, SX10_gap_0, SX10_gap_1, SX10_gap_2, SX10_gap_3, SX10_gap_4, SX10_gap_5, shqI_, shqRI_, shqRR_, shqR_, shqRLL_, spX10_needBall, spX10_lay, spX9_meanTop, spX2_boundTop, spX0_meanBase, spX10_tell, mrg, mrl, mSet_ap, ncast, Option.some.injEq, fr_ne, Option.getD_some]
  refine ⟨hb, fun z => ⟨H, z, fun J hJ => ⟨Or.inr (Or.inl rfl), H.b20, I 201, b, H.ctx z hJ, fun J2 => ⟨H.b20, I 201, b, by rw [ctxU_fr (by decide)]; exact H.ctx z hJ, fun J3 => ?_⟩⟩⟩, h1⟩
  have hn := H.1.2.1 b z.1 z.2
  have e1 : fr 120 127 J I 120 1 = allT (I 201) b := hJ.2.1
  have eb : bdS (I 201) (I 20) b (I 201 (13 + b)).toNat = boundT (I 201) b := bdS_eq H.1 z H.s20e _ (by omega)
  have bb := boundN_bd H.1 z (I 201 (13 + b)).toNat (by omega)
  have eB : boundT (I 201) b = boundN (I 201) b (I 201 (13 + b)).toNat := rfl
  rw [← eB] at bb
  have ab := allT_bd H.1 z
  have mb := meanT_bd H.1 z
  have e20 := H.s20
  have cp := (((cPost.rfl I).fr (J := J) (lo := 120) (hi := 127) (by decide) (by decide)).fr (J := J2) (lo := 130) (hi := 130) (by decide) (by decide)).fr (J := J3) (lo := 150) (hi := 150) (by decide) (by decide)
  have h2 := fun w => h2 z w _ (cp.frac 0 0)
  have h3 := fun w => h3 z w _ (cp.frac _ _)
  clear h1
  simp only [e1, eb, e20]
  (try simp only [mrg, mrl] at *) <;> repeat' (first | (with_reducible assumption) | (with_reducible apply And.intro) | intro _)
  all_goals first | omega | exact h2 (by omega) | exact h3 (by omega) | skip
theorem ctrX10_gap {l : Launch} (hst : l.stackTraces = false) (hT : mTxM l) : mCtr l calX10_gap spX10_gap :=
  mMet0 (T := TX10_gap) (S := SX10_gap) hst hT (by decide) okX10_gap ⟨_, _, rfl, rfl⟩ (fun a => match a with
    | 0 => ctrX10_needBall hst hT
    | 1 => ctrX10_lay hst hT
    | 2 => ctrX9_meanTop hst hT
    | 3 => ctrX2_boundTop hst hT
    | 4 => ctrX0_meanBase hst hT
    | 5 => ctrX10_tell hst hT
    | _ + 6 => mCtr_no) vcX10_gap

end SPC20
