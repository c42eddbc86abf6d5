section SPC10
def spX10_learn : mSp := shRI (fun _ i b I Q => i = some 0 ∧ clsI I ∧ mrg b ∧ (¬ ballP b → Q (.inr (mEx 0)) I) ∧ (ballP b → ∀ I' : mM, (∀ i, i ≠ 19 → I' i = I i) → (∀ h : Int, 0 ≤ h → h < I 201 (13 + b) → I' 19 (8 * b + h) = min 99 (max 1 (rawT (I 201) b h 4))) → (∀ q : Int, ¬ (8 * b ≤ q ∧ q < 8 * b + I 201 (13 + b)) → I' 19 q = I 19 q) → Q (.inl (some (mI (seenT (I 201) b)))) I'))
def SX10_learn : Nat → mSp := fun a => match a with
  | 0 => spX10_needBall
  | 1 => spX3_hitsOf
  | 2 => spX10_seenOf
  | _ => fun _ _ _ _ => False
theorem SX10_learn_0 : SX10_learn 0 = spX10_needBall := Eq.trans rfl rfl
theorem SX10_learn_1 : SX10_learn 1 = spX3_hitsOf := Eq.trans rfl rfl
theorem SX10_learn_2 : SX10_learn 2 = spX10_seenOf := Eq.trans rfl rfl
theorem cutsX10_learn {t : Nat} {bs : List Bool} (h : cutX10_learn t = some bs) : (t = 18 ∧ bs = [true, true, true, true, false]) := by
  unfold cutX10_learn at h
  simp only [mLk] at h
  by_cases h0 : 18 = t
  · subst h0
    simp at h
    exact ⟨rfl, h.symm⟩
  rw [if_neg h0] at h
  cases h
set_option maxRecDepth 100000 in
set_option maxHeartbeats 1000000 in
theorem vcX10_learn (fl : Nat → Bool) (avs : List mV) (I : mM) (Q : mO → mM → Prop) (hsp : spX10_learn fl avs I Q) : mVC SX10_learn fl Q kX10_learn cutX10_learn 5 avs I := by
  obtain ⟨i, b, rfl, h0⟩ := shRI_inv hsp
  obtain ⟨rfl, H, hb, h1, h2⟩ := h0
  refine ⟨rfl, (fun m pc lv st I1 => st = [] ∧ ballP b ∧ ∃ j : Nat, lv = [some (mR (some 0)), some (mI b), some (mI (I 201 (13 + b))), some (mI j), none] ∧ j ≤ (I 201 (13 + b)).toNat ∧ m = 8 - j ∧ (∀ i, i ≠ 19 → I1 i = I i) ∧ (∀ h : Int, 0 ≤ h → h < j → I1 19 (8 * b + h) = min 99 (max 1 (rawT (I 201) b h 4))) ∧ (∀ q : Int, ¬ (8 * b ≤ q ∧ q < 8 * b + j) → I1 19 q = I 19 q)), ?_, ?_⟩
  · intro n t bs hbs lv st I1 hc
    rcases cutsX10_learn hbs with ⟨rfl, rfl⟩
    rw [sfxX10_learn_18]
    obtain ⟨rfl, kb, j, rfl, hj, hm, f1, f2, f3⟩ := hc
    have hn := H.1.2.1 b kb.1 kb.2
    have es := H.sn kb
    have g15 := f1 15 (by decide)
    have g26 := f1 26 (by decide)
    have es1 := es.1
    have es2 := es.2.2
    rcases Nat.lt_or_ge j (I 201 (13 + b)).toNat with z | z
    · have er := H.se (b := b) (h := j) ⟨kb.1, kb.2, by omega, by omega⟩
      have hr := (H.1.raw (b := b) (h := j) kb ⟨by omega, by omega⟩).2.2.2.2
      have key : ∃ n', n' < n ∧ ballP b ∧ ∃ j_1 : Nat, [some (mR (some 0)), some (mI b), some (mI (I 201 (13 + b))), some (mI ((j : Int) + 1)), none] = [some (mR (some 0)), some (mI b), some (mI (I 201 (13 + b))), some (mI j_1), none] ∧ j_1 ≤ (I 201 (13 + b)).toNat ∧ n' = 8 - j_1 ∧ (∀ i : Nat, ¬ i = 19 → mSet I1 19 (b * 8 + j) (max 1 (min 99 (rawT (I 201) b j 4))) i = I i) ∧ (∀ h : Int, 0 ≤ h → h < j_1 → (if 8 * b + h = b * 8 + j then max 1 (min 99 (rawT (I 201) b j 4)) else I1 19 (8 * b + h)) = min 99 (max 1 (rawT (I 201) b h 4))) ∧ (∀ q : Int, ¬ (8 * b ≤ q ∧ q < 8 * b + j_1) → (if q = b * 8 + j then max 1 (min 99 (rawT (I 201) b j 4)) else I1 19 q) = I 19 q) := by
        refine ⟨8 - (j + 1), by omega, kb, j + 1, rfl, by omega, rfl, fun i q => by rw [set_ne q]; exact f1 i q, fun h k0 k1 => ?_, fun q hq => by rw [if_neg (by omega)]; exact f3 q (by omega)⟩
        by_cases e : h = j
        · rw [if_pos (by omega), e]
          omega
        · rw [if_neg (by omega)]
          exact f2 h k0 (by omega)
      clear h1 h2 f1 f2 f3 es
      simp only [false_and, and_false, true_or, or_true, false_or, or_false, true_and, and_true, true_implies, false_implies, implies_true, not_true_eq_false, not_false_eq_true, and_self, List.length_cons, List.length_nil, mNoCut_, mCat_n, mCat_I, mCat_L, mCat_R, mIsL_n, mIsL_I, mIsL_R, mIsL_L, Nat.reduceAdd, Nat.reduceSub, Nat.reduceLeDiff, Nat.reduceLT, Nat.reduceEqDiff, Nat.zero_le, Int.reduceEq, Int.reduceLT, Int.reduceLE, Int.reduceNeg, Int.reduceAdd, if_true, if_false, reduceIte, reduceCtorEq, Bool.false_eq_true, ne_eq, qCmp_0, qCmp_1, qCmp_2, qCmp_3, qCmp_4, qCmp_5, ib_0, ib_1, ib_2, lb_0, lb_1, lb_2, dv_0, dv_1, wq_ic, wq_ld_i, wq_ld_a, wq_st_i, wq_iinc, wq_ib, wq_icmp, wq_goto, wq_get, mGet_0, mGet_1, mGet_2, mGet_3, wq_ald, wq_astI, wq_astL, wq_ret0, wq_ret1, wq_ret2, wq_ret3, wq_ret4, wq_max, wq_min, wq_abs, wq_lmax, ldI1, wq_callS1_1, ldR0, fk_10_0, fk_7_0, wq_callV2_0, stI2, mrg_0_, stI3, ldI3, ldI2, mrg_8_, stI4, fk_3_11, ldI4, mrg_1_, mrg_99_, fk_7_2, fk_1_3, wqinc3, mPut_s, mPut_I0, mPut_R0, mPut_L0, mPut_I1, mPut_R1, mPut_L1, mGo_n, sfxX10_learn_18, cutX10_learn_18, sfxX10_learn_72, cutX10_learn_72, wq_cut, mGo_c, mMask_t, mMask_f, mMask_n, kX10_learn_72, kX10_learn_18, kX10_learn_0, sk_13, al_13, rf_13_3, sk_26, al_26, sn_26, sk_0, al_0, rf_0_0, sk_10, al_10, sk_11, al_11, rf_11_11, sk_19, al_19, sn_19, sk_102, al_102, rf_102_11, sk_110, al_110, sn_110, rf_10_0, rf_10_2, ald_n, ro0_n, al_ro, SX10_learn_0, SX10_learn_1, SX10_learn_2, shqI_, shqRI_, spX10_needBall, spX3_hitsOf, spX10_seenOf, mrg, mrl, mSet_ap, ncast, Option.some.injEq, g15, g26, er]
      (try simp only [mrg, mrl] at *) <;> repeat' (first | (with_reducible assumption) | (with_reducible apply And.intro) | intro _)
      all_goals first | omega | exact key | skip
    · have e : (j : Int) = I 201 (13 + b) := by omega
      rw [e] at f2 f3
      have h3 := h2 kb I1 f1 f2 f3
      clear h1 h2 f1 f2 f3 es
      simp only [false_and, and_false, true_or, or_true, false_or, or_false, true_and, and_true, true_implies, false_implies, implies_true, not_true_eq_false, not_false_eq_true, and_self, List.length_cons, List.length_nil, mNoCut_, mCat_n, mCat_I, mCat_L, mCat_R, mIsL_n, mIsL_I, mIsL_R, mIsL_L, Nat.reduceAdd, Nat.reduceSub, Nat.reduceLeDiff, Nat.reduceLT, Nat.reduceEqDiff, Nat.zero_le, Int.reduceEq, Int.reduceLT, Int.reduceLE, Int.reduceNeg, Int.reduceAdd, if_true, if_false, reduceIte, reduceCtorEq, Bool.false_eq_true, ne_eq, qCmp_0, qCmp_1, qCmp_2, qCmp_3, qCmp_4, qCmp_5, ib_0, ib_1, ib_2, lb_0, lb_1, lb_2, dv_0, dv_1, wq_ic, wq_ld_i, wq_ld_a, wq_st_i, wq_iinc, wq_ib, wq_icmp, wq_goto, wq_get, mGet_0, mGet_1, mGet_2, mGet_3, wq_ald, wq_astI, wq_astL, wq_ret0, wq_ret1, wq_ret2, wq_ret3, wq_ret4, wq_max, wq_min, wq_abs, wq_lmax, ldI1, wq_callS1_1, ldR0, fk_10_0, fk_7_0, wq_callV2_0, stI2, mrg_0_, stI3, ldI3, ldI2, mrg_8_, stI4, fk_3_11, ldI4, mrg_1_, mrg_99_, fk_7_2, fk_1_3, wqinc3, mPut_s, mPut_I0, mPut_R0, mPut_L0, mPut_I1, mPut_R1, mPut_L1, mGo_n, sfxX10_learn_18, cutX10_learn_18, sfxX10_learn_72, cutX10_learn_72, wq_cut, mGo_c, mMask_t, mMask_f, mMask_n, kX10_learn_72, kX10_learn_18, kX10_learn_0, sk_13, al_13, rf_13_3, sk_26, al_26, sn_26, sk_0, al_0, rf_0_0, sk_10, al_10, sk_11, al_11, rf_11_11, sk_19, al_19, sn_19, sk_102, al_102, rf_102_11, sk_110, al_110, sn_110, rf_10_0, rf_10_2, ald_n, ro0_n, al_ro, SX10_learn_0, SX10_learn_1, SX10_learn_2, shqI_, shqRI_, spX10_needBall, spX3_hitsOf, spX10_seenOf, mrg, mrl, mSet_ap, ncast, Option.some.injEq, g15, g26, es1]
      rw [es1] at es2
      simp only [es2]
      (try simp only [mrg, mrl] at *) <;> repeat' (first | (with_reducible assumption) | (with_reducible apply And.intro) | intro _)
      all_goals first | omega | exact h3 | skip
  · show mWp _ _ _ _ _ _ kX10_learn_0 [some (mR (some 0)), some (mI b), none, none, none] [] I
    have es := fun z : ballP b => (H.sn z).1
    simp only [false_and, and_false, true_or, or_true, false_or, or_false, true_and, and_true, true_implies, false_implies, implies_true, not_true_eq_false, not_false_eq_true, and_self, List.length_cons, List.length_nil, mNoCut_, mCat_n, mCat_I, mCat_L, mCat_R, mIsL_n, mIsL_I, mIsL_R, mIsL_L, Nat.reduceAdd, Nat.reduceSub, Nat.reduceLeDiff, Nat.reduceLT, Nat.reduceEqDiff, Nat.zero_le, Int.reduceEq, Int.reduceLT, Int.reduceLE, Int.reduceNeg, Int.reduceAdd, if_true, if_false, reduceIte, reduceCtorEq, Bool.false_eq_true, ne_eq, qCmp_0, qCmp_1, qCmp_2, qCmp_3, qCmp_4, qCmp_5, ib_0, ib_1, ib_2, lb_0, lb_1, lb_2, dv_0, dv_1, wq_ic, wq_ld_i, wq_ld_a, wq_st_i, wq_iinc, wq_ib, wq_icmp, wq_goto, wq_get, mGet_0, mGet_1, mGet_2, mGet_3, wq_ald, wq_astI, wq_astL, wq_ret0, wq_ret1, wq_ret2, wq_ret3, wq_ret4, wq_max, wq_min, wq_abs, wq_lmax, ldI1, wq_callS1_1, ldR0, fk_10_0, fk_7_0, wq_callV2_0, stI2, mrg_0_, stI3, ldI3, ldI2, mrg_8_, stI4, fk_3_11, ldI4, mrg_1_, mrg_99_, fk_7_2, fk_1_3, wqinc3, mPut_s, mPut_I0, mPut_R0, mPut_L0, mPut_I1, mPut_R1, mPut_L1, mGo_n, sfxX10_learn_18, cutX10_learn_18, sfxX10_learn_72, cutX10_learn_72, wq_cut, mGo_c, mMask_t, mMask_f, mMask_n, kX10_learn_72, kX10_learn_18, kX10_learn_0, sk_13, al_13, rf_13_3, sk_26, al_26, sn_26, sk_0, al_0, rf_0_0, sk_10, al_10, sk_11, al_11, rf_11_11, sk_19, al_19, sn_19, sk_102, al_102, rf_102_11, sk_110, al_110, sn_110, rf_10_0, rf_10_2, ald_n, ro0_n, al_ro, SX10_learn_0, SX10_learn_1, SX10_learn_2, shqI_, shqRI_, spX10_needBall, spX3_hitsOf, spX10_seenOf, mrg, mrl, mSet_ap, ncast, Option.some.injEq, Option.getD_some]
    refine ⟨hb, fun z => ⟨z, 8, z, 0, by rw [es z]; rfl, by omega, rfl, fun h k0 k1 => by omega⟩, h1⟩
theorem ctrX10_learn {l : Launch} (hst : l.stackTraces = false) (hT : mTxM l) : mCtr l calX10_learn spX10_learn :=
  mMet (T := TX10_learn) (S := SX10_learn) hst hT cutX10_learn (by decide) okX10_learn ⟨_, _, rfl, rfl⟩ trivial (fun t bs h => by rcases cutsX10_learn h with ⟨-, rfl⟩ <;> rfl) (fun a => match a with
    | 0 => ctrX10_needBall hst hT
    | 1 => ctrX3_hitsOf hst hT
    | 2 => ctrX10_seenOf hst hT
    | _ + 3 => mCtr_no) vcX10_learn

def spX10_copyRow : mSp := shRR (fun fl x y I Q => x = some (x.getD 0) ∧ y = some (y.getD 0) ∧ (sk (x.getD 0) = 20 ∧ al fl (x.getD 0) = true) ∧ (sk (y.getD 0) = 20 ∧ al fl (y.getD 0) = true) ∧ (sn (x.getD 0) ≤ 1000 ∧ sn (y.getD 0) ≤ 1000) ∧ Q (.inl none) (mCpy I (x.getD 0) (y.getD 0) 0 0 (min (sn (x.getD 0)) (sn (y.getD 0)))))
def SX10_copyRow : Nat → mSp := fun a => match a with
  | _ => fun _ _ _ _ => False
set_option maxRecDepth 100000 in
set_option maxHeartbeats 1000000 in
theorem vcX10_copyRow (fl : Nat → Bool) (avs : List mV) (I : mM) (Q : mO → mM → Prop) (hsp : spX10_copyRow fl avs I Q) : mVC0 SX10_copyRow fl Q kX10_copyRow 2 avs I := by
  obtain ⟨x, y, rfl, h0⟩ := shRR_inv hsp
  obtain ⟨hx, hy, h1, h2, h3, h⟩ := h0
  obtain ⟨a, rfl⟩ : ∃ a, x = some a := ⟨_, hx⟩
  obtain ⟨c, rfl⟩ : ∃ c, y = some c := ⟨_, hy⟩
  simp only [Option.getD_some] at *
  have k1 := h1.1
  have k2 := h1.2
  have k3 := h2.1
  have k4 := h2.2
  have k5 : mRo0 a = none := al_ro h1.2
  have k6 : mRo0 c = none := al_ro h2.2
  refine ⟨rfl, ?_⟩
  show mWp _ _ _ _ _ _ kX10_copyRow_0 [some (mR (some a)), some (mR (some c))] [] I
  simp only [false_and, and_false, true_or, or_true, false_or, or_false, true_and, and_true, true_implies, false_implies, implies_true, not_true_eq_false, not_false_eq_true, and_self, List.length_cons, List.length_nil, mNoCut_, mCat_n, mCat_I, mCat_L, mCat_R, mIsL_n, mIsL_I, mIsL_R, mIsL_L, Nat.reduceAdd, Nat.reduceSub, Nat.reduceLeDiff, Nat.reduceLT, Nat.reduceEqDiff, Nat.zero_le, Int.reduceEq, Int.reduceLT, Int.reduceLE, Int.reduceNeg, Int.reduceAdd, if_true, if_false, reduceIte, reduceCtorEq, Bool.false_eq_true, ne_eq, qCmp_0, qCmp_1, qCmp_2, qCmp_3, qCmp_4, qCmp_5, ib_0, ib_1, ib_2, lb_0, lb_1, lb_2, dv_0, dv_1, wq_ic, wq_ld_a, wq_len, wq_ret0, wq_ret1, wq_ret2, wq_ret3, wq_ret4, wq_max, wq_min, wq_abs, wq_lmax, wq_cpy, ldR0, mrg_0_, ldR1, kX10_copyRow_0, len_n, ro0_n, mrg, mrl, mSet_ap, ncast, Option.some.injEq, k1, k2, k3, k4, k5, k6]
  (try simp only [mrg, mrl] at *) <;> repeat' (first | (with_reducible assumption) | (with_reducible apply And.intro) | intro _)
  all_goals first | omega | exact h | skip
theorem ctrX10_copyRow {l : Launch} (hst : l.stackTraces = false) (hT : mTxM l) : mCtr l calX10_copyRow spX10_copyRow :=
  mMet0 (T := TX10_copyRow) (S := SX10_copyRow) hst hT (by decide) okX10_copyRow ⟨_, _, rfl, rfl⟩ (fun a => mCtr_no) vcX10_copyRow

def spX6_standAs : mSp := shRIR (fun fl i w s I Q => i = some 12 ∧ (0 ≤ w ∧ w < 4) ∧ (s = some 3 ∨ s = some 20) ∧ Q (.inl none) (mCpy I 25 (s.getD 0) (w * 9) 0 9))
def SX6_standAs : Nat → mSp := fun a => match a with
  | _ => fun _ _ _ _ => False
set_option maxRecDepth 100000 in
set_option maxHeartbeats 1000000 in
theorem vcX6_standAs (fl : Nat → Bool) (avs : List mV) (I : mM) (Q : mO → mM → Prop) (hsp : spX6_standAs fl avs I Q) : mVC0 SX6_standAs fl Q kX6_standAs 3 avs I := by
  obtain ⟨i, w, s, rfl, h0⟩ := shRIR_inv hsp
  refine ⟨rfl, ?_⟩
  show mWp _ _ _ _ _ _ kX6_standAs_0 [some (mR i), some (mI w), some (mR s)] [] I
  obtain ⟨rfl, hw, hs, h⟩ := h0
  rcases hs with rfl | rfl
  · simp only [false_and, and_false, true_or, or_true, false_or, or_false, true_and, and_true, true_implies, false_implies, implies_true, not_true_eq_false, not_false_eq_true, and_self, List.length_cons, List.length_nil, mNoCut_, mCat_n, mCat_I, mCat_L, mCat_R, mIsL_n, mIsL_I, mIsL_R, mIsL_L, Nat.reduceAdd, Nat.reduceSub, Nat.reduceLeDiff, Nat.reduceLT, Nat.reduceEqDiff, Nat.zero_le, Int.reduceEq, Int.reduceLT, Int.reduceLE, Int.reduceNeg, Int.reduceAdd, if_true, if_false, reduceIte, reduceCtorEq, Bool.false_eq_true, ne_eq, qCmp_0, qCmp_1, qCmp_2, qCmp_3, qCmp_4, qCmp_5, ib_0, ib_1, ib_2, lb_0, lb_1, lb_2, dv_0, dv_1, wq_ic, wq_ld_i, wq_ld_a, wq_ib, wq_get, mGet_0, mGet_1, mGet_2, mGet_3, wq_ret0, wq_ret1, wq_ret2, wq_ret3, wq_ret4, wq_cpy, ldR0, fk_6_5, ldI1, mrg_9_, ldR2, mrg_0_, kX6_standAs_0, sk_12, al_12, rf_12_5, sk_25, al_25, sn_25, mrg, mrl, mSet_ap, ncast, Option.some.injEq, sk_3, al_3, sn_3, sk_20, al_20, sn_20]
    (try simp only [mrg, mrl] at *) <;> repeat' (first | (with_reducible assumption) | (with_reducible apply And.intro) | intro _)
    all_goals first | omega | exact h | skip
  · simp only [false_and, and_false, true_or, or_true, false_or, or_false, true_and, and_true, true_implies, false_implies, implies_true, not_true_eq_false, not_false_eq_true, and_self, List.length_cons, List.length_nil, mNoCut_, mCat_n, mCat_I, mCat_L, mCat_R, mIsL_n, mIsL_I, mIsL_R, mIsL_L, Nat.reduceAdd, Nat.reduceSub, Nat.reduceLeDiff, Nat.reduceLT, Nat.reduceEqDiff, Nat.zero_le, Int.reduceEq, Int.reduceLT, Int.reduceLE, Int.reduceNeg, Int.reduceAdd, if_true, if_false, reduceIte, reduceCtorEq, Bool.false_eq_true, ne_eq, qCmp_0, qCmp_1, qCmp_2, qCmp_3, qCmp_4, qCmp_5, ib_0, ib_1, ib_2, lb_0, lb_1, lb_2, dv_0, dv_1, wq_ic, wq_ld_i, wq_ld_a, wq_ib, wq_get, mGet_0, mGet_1, mGet_2, mGet_3, wq_ret0, wq_ret1, wq_ret2, wq_ret3, wq_ret4, wq_cpy, ldR0, fk_6_5, ldI1, mrg_9_, ldR2, mrg_0_, kX6_standAs_0, sk_12, al_12, rf_12_5, sk_25, al_25, sn_25, mrg, mrl, mSet_ap, ncast, Option.some.injEq, sk_3, al_3, sn_3, sk_20, al_20, sn_20]
    (try simp only [mrg, mrl] at *) <;> repeat' (first | (with_reducible assumption) | (with_reducible apply And.intro) | intro _)
    all_goals first | omega | exact h | skip
theorem ctrX6_standAs {l : Launch} (hst : l.stackTraces = false) (hT : mTxM l) : mCtr l calX6_standAs spX6_standAs :=
  mMet0 (T := TX6_standAs) (S := SX6_standAs) hst hT (by decide) okX6_standAs ⟨_, _, rfl, rfl⟩ (fun a => mCtr_no) vcX6_standAs

def spX6_keep : mSp := shRI (fun fl i w I Q => i = some 12 ∧ (0 ≤ w ∧ w < 4) ∧ Q (.inl none) (mSet (mCpy I 20 25 0 (w * 9) 9) 12 6 (ib 4 (I 12 6) (ib 6 1 w))))
def SX6_keep : Nat → mSp := fun a => match a with
  | _ => fun _ _ _ _ => False
set_option maxRecDepth 100000 in
set_option maxHeartbeats 1000000 in
theorem vcX6_keep (fl : Nat → Bool) (avs : List mV) (I : mM) (Q : mO → mM → Prop) (hsp : spX6_keep fl avs I Q) : mVC0 SX6_keep fl Q kX6_keep 2 avs I := by
  obtain ⟨i, w, rfl, h0⟩ := shRI_inv hsp
  refine ⟨rfl, ?_⟩
  show mWp _ _ _ _ _ _ kX6_keep_0 [some (mR i), some (mI w)] [] I
  obtain ⟨rfl, hw, h⟩ := h0
  simp only [false_and, and_false, true_or, or_true, false_or, or_false, true_and, and_true, true_implies, false_implies, implies_true, not_true_eq_false, not_false_eq_true, and_self, List.length_cons, List.length_nil, mNoCut_, mCat_n, mCat_I, mCat_L, mCat_R, mIsL_n, mIsL_I, mIsL_R, mIsL_L, Nat.reduceAdd, Nat.reduceSub, Nat.reduceLeDiff, Nat.reduceLT, Nat.reduceEqDiff, Nat.zero_le, Int.reduceEq, Int.reduceLT, Int.reduceLE, Int.reduceNeg, Int.reduceAdd, if_true, if_false, reduceIte, reduceCtorEq, Bool.false_eq_true, ne_eq, qCmp_0, qCmp_1, qCmp_2, qCmp_3, qCmp_4, qCmp_5, ib_0, ib_1, ib_2, lb_0, lb_1, lb_2, dv_0, dv_1, wq_ic, wq_ld_i, wq_ld_a, wq_ib, wq_get, mGet_0, mGet_1, mGet_2, mGet_3, wq_putI, wq_putL, wq_dupI, wq_dupR, dup_I, dup_R, wq_ret0, wq_ret1, wq_ret2, wq_ret3, wq_ret4, wq_cpy, ldR0, fk_6_0, mrg_0_, fk_6_5, ldI1, mrg_9_, fk_6_6, mrg_1_, kX6_keep_0, sk_12, al_12, rf_12_0, sk_20, al_20, sn_20, rf_12_5, sk_25, al_25, sn_25, mrg, mrl, mSet_ap, ncast, Option.some.injEq]
  (try simp only [mrg, mrl] at *) <;> repeat' (first | (with_reducible assumption) | (with_reducible apply And.intro) | intro _)
  all_goals first | omega | exact h | skip
theorem ctrX6_keep {l : Launch} (hst : l.stackTraces = false) (hT : mTxM l) : mCtr l calX6_keep spX6_keep :=
  mMet0 (T := TX6_keep) (S := SX6_keep) hst hT (by decide) okX6_keep ⟨_, _, rfl, rfl⟩ (fun a => mCtr_no) vcX6_keep

def spX10_way : mSp := shRII (fun _ i w m I Q => i = some 0 ∧ clsI I ∧ mrg w ∧ mrg m ∧ (¬ wayP w → Q (.inr (mEx 0)) I) ∧ (wayP w → ¬ (0 ≤ m ∧ m ≤ 1) → Q (.inr (mEx 1)) I) ∧ (wayP w → m = 1 → ¬ keptP (I 201) w → Q (.inr (mEx 2)) I) ∧ (wayP w → m = 1 → keptP (I 201) w → Q (.inl none) (mCpy I 25 20 (w * 9) 0 9)) ∧ (wayP w → m = 0 → Q (.inl none) (mSet (mCpy I 20 25 0 (w * 9) 9) 12 6 (ib 4 (I 12 6) (ib 6 1 w)))))
def SX10_way : Nat → mSp := fun a => match a with
  | 0 => spX10_needWay
  | 1 => spX10_needNumber
  | 2 => spX6_keep
  | 3 => spX10_needKept
  | 4 => spX6_standAs
  | _ => fun _ _ _ _ => False
theorem SX10_way_0 : SX10_way 0 = spX10_needWay := Eq.trans rfl rfl
theorem SX10_way_1 : SX10_way 1 = spX10_needNumber := Eq.trans rfl rfl
theorem SX10_way_2 : SX10_way 2 = spX6_keep := Eq.trans rfl rfl
theorem SX10_way_3 : SX10_way 3 = spX10_needKept := Eq.trans rfl rfl
theorem SX10_way_4 : SX10_way 4 = spX6_standAs := Eq.trans rfl rfl
set_option maxRecDepth 100000 in
set_option maxHeartbeats 1000000 in
theorem vcX10_way (fl : Nat → Bool) (avs : List mV) (I : mM) (Q : mO → mM → Prop) (hsp : spX10_way fl avs I Q) : mVC0 SX10_way fl Q kX10_way 3 avs I := by
  obtain ⟨i, w, m, rfl, h0⟩ := shRII_inv hsp
  refine ⟨rfl, ?_⟩
  show mWp _ _ _ _ _ _ kX10_way_0 [some (mR i), some (mI w), some (mI m)] [] I
  obtain ⟨rfl, H, hw, hm, h1, h2, h3, h4, h5⟩ := h0
  simp only [false_and, and_false, true_or, or_true, false_or, or_false, true_and, and_true, true_implies, false_implies, implies_true, not_true_eq_false, not_false_eq_true, and_self, List.length_cons, List.length_nil, mNoCut_, mCat_n, mCat_I, mCat_L, mCat_R, mIsL_n, mIsL_I, mIsL_R, mIsL_L, Nat.reduceAdd, Nat.reduceSub, Nat.reduceLeDiff, Nat.reduceLT, Nat.reduceEqDiff, Nat.zero_le, Int.reduceEq, Int.reduceLT, Int.reduceLE, Int.reduceNeg, Int.reduceAdd, if_true, if_false, reduceIte, reduceCtorEq, Bool.false_eq_true, ne_eq, qCmp_0, qCmp_1, qCmp_2, qCmp_3, qCmp_4, qCmp_5, ib_0, ib_1, ib_2, lb_0, lb_1, lb_2, dv_0, dv_1, wq_ic, wq_ld_i, wq_ld_a, wq_if, wq_get, mGet_0, mGet_1, mGet_2, mGet_3, wq_ret0, wq_ret1, wq_ret2, wq_ret3, wq_ret4, ldI1, wq_callS1_1, ldI2, mrg_0_, mrg_1_, wq_callS3_1, ldR0, fk_10_0, fk_7_1, wq_callV2_0, fk_6_0, wq_callV3_0, mGo_n, sfxX10_way_26, cutX10_way_26, kX10_way_26, kX10_way_0, sk_0, al_0, rf_0_0, sk_10, al_10, sk_12, al_12, rf_12_0, sk_20, al_20, sn_20, rf_10_1, SX10_way_0, SX10_way_1, SX10_way_2, SX10_way_3, SX10_way_4, shqI_, shqIII_, shqRI_, shqRIR_, spX10_needWay, spX10_needNumber, spX6_keep, spX10_needKept, spX6_standAs, mrg, mrl, mSet_ap, ncast, Option.some.injEq, Option.getD_some]
  (try simp only [mrg, mrl] at *) <;> repeat' (first | (with_reducible assumption) | (with_reducible apply And.intro) | intro _)
  all_goals first | omega | exact H | exact h1 (by omega) | exact h2 (by omega) (by omega) | exact h3 (by omega) (by omega) (by assumption) | exact h4 (by omega) (by omega) (by assumption) | exact h5 (by omega) (by omega) | skip
theorem ctrX10_way {l : Launch} (hst : l.stackTraces = false) (hT : mTxM l) : mCtr l calX10_way spX10_way :=
  mMet0 (T := TX10_way) (S := SX10_way) hst hT (by decide) okX10_way ⟨_, _, rfl, rfl⟩ (fun a => match a with
    | 0 => ctrX10_needWay hst hT
    | 1 => ctrX10_needNumber hst hT
    | 2 => ctrX6_keep hst hT
    | 3 => ctrX10_needKept hst hT
    | 4 => ctrX6_standAs hst hT
    | _ + 5 => mCtr_no) vcX10_way

theorem mCpy_ne (I : mM) {i j k : Nat} (sp dp n : Int) (h : k ≠ j) : mCpy I i j sp dp n k = I k := by
  funext q
  simp only [mCpy]
  exact if_neg (fun z => h z.1)
theorem mCpy_at (I : mM) (i j : Nat) (sp : Int) {dp n q : Int} (h : dp ≤ q ∧ q < dp + n) : mCpy I i j sp dp n j q = I i (sp + (q - dp)) := by
  show (if j = j ∧ dp ≤ q ∧ q < dp + n then _ else _) = _
  exact if_pos ⟨rfl, h⟩
def spX10_changeBy : mSp := shRII (fun _ i f c I Q => i = some 0 ∧ (0 ≤ f ∧ f < 9) ∧ (-1 ≤ c ∧ c ≤ 288) ∧ ∃ t b, ctxU I t b ∧ (∀ f : Int, 0 ≤ f → f < 9 → I 20 f = stT t f) ∧ ∀ I' : mM, (∀ i, i ≠ 3 → i ≠ 130 → I' i = I i) → Q (.inl (some (mL (meanT (putT t f c) b - meanT t b)))) I')
def SX10_changeBy : Nat → mSp := fun a => match a with
  | 0 => spX10_copyRow
  | 1 => spX9_meanTop
  | _ => fun _ _ _ _ => False
theorem SX10_changeBy_0 : SX10_changeBy 0 = spX10_copyRow := Eq.trans rfl rfl
theorem SX10_changeBy_1 : SX10_changeBy 1 = spX9_meanTop := Eq.trans rfl rfl
set_option maxRecDepth 100000 in
set_option maxHeartbeats 1000000 in
theorem vcX10_changeBy (fl : Nat → Bool) (avs : List mV) (I : mM) (Q : mO → mM → Prop) (hsp : spX10_changeBy fl avs I Q) : mVC0 SX10_changeBy fl Q kX10_changeBy 3 avs I := by
  obtain ⟨i, f, c, rfl, h0⟩ := shRII_inv hsp
  refine ⟨rfl, ?_⟩
  show mWp _ _ _ _ _ _ kX10_changeBy_0 [some (mR i), some (mI f), some (mI c)] [] I
  obtain ⟨rfl, hf, hc, t, b, H, h20, h⟩ := h0
  have hB : stB (I 20) := fun g g0 g1 => by
    rw [h20 g g0 g1]
    exact H.1.st g g0 g1
  have e3 : ∀ g : Int, 0 ≤ g → g < 9 → mSet (mCpy I 20 3 0 0 9) 3 f c 3 g = updS (stT t) f c g := fun g g0 g1 => by
    by_cases q : g = f
    · rw [q, set_eq]
      simp [updS]
    · rw [set_nq q, mCpy_at _ _ _ _ ⟨by omega, by omega⟩, show (0 : Int) + (g - 0) = g by omega, h20 g g0 g1]
      simp [updS, q]
  have hB3 : stB (mSet (mCpy I 20 3 0 0 9) 3 f c 3) := fun g g0 g1 => by
    rw [e3 g g0 g1]
    have := H.1.st g g0 g1
    simp only [updS]
    split <;> omega
  have r3 : stR t (mSet (mCpy I 20 3 0 0 9) 3 f c 3) = putT t f c := by
    rw [put_as t c hf]
    exact stR_cong _ e3
  have r20 : stR t (I 20) = t := (stR_cong _ h20).trans (stR_self _)
  have Hc : ctxU (mSet (mCpy I 20 3 0 0 9) 3 f c) t b := by
    rw [ctxU_set (by decide)]
    exact ctxU_of (fun i hi => mCpy_ne _ _ _ _ (by omega)) H
  have n20 : mSet (mCpy I 20 3 0 0 9) 3 f c 20 = I 20 := by
    rw [set_ne (by decide), mCpy_ne _ _ _ _ (by decide)]
  have e9 : min (9 : Int) 9 = 9 := rfl
  simp only [false_and, and_false, true_or, or_true, false_or, or_false, true_and, and_true, true_implies, false_implies, implies_true, not_true_eq_false, not_false_eq_true, and_self, List.length_cons, List.length_nil, mNoCut_, mCat_n, mCat_I, mCat_L, mCat_R, mIsL_n, mIsL_I, mIsL_R, mIsL_L, Nat.reduceAdd, Nat.reduceSub, Nat.reduceLeDiff, Nat.reduceLT, Nat.reduceEqDiff, Nat.zero_le, Int.reduceEq, Int.reduceLT, Int.reduceLE, Int.reduceNeg, Int.reduceAdd, if_true, if_false, reduceIte, reduceCtorEq, Bool.false_eq_true, ne_eq, qCmp_0, qCmp_1, qCmp_2, qCmp_3, qCmp_4, qCmp_5, ib_0, ib_1, ib_2, lb_0, lb_1, lb_2, dv_0, dv_1, wq_ld_i, wq_ld_a, wq_lb, wq_get, mGet_0, mGet_1, mGet_2, mGet_3, wq_astI, wq_astL, wq_ret0, wq_ret1, wq_ret2, wq_ret3, wq_ret4, ldR0, fk_10_0, fk_7_1, fk_6_0, fk_10_8, wq_callS2_1, ldI1, ldI2, fk_10_5, wq_callV2_0, kX10_changeBy_0, sk_0, al_0, rf_0_0, sk_10, al_10, rf_0_8, sk_3, al_3, sn_3, rf_0_5, sk_130, al_130, sk_12, al_12, rf_12_0, sk_20, al_20, sn_20, rf_10_1, SX10_changeBy_0, SX10_changeBy_1, shqRR_, spX10_copyRow, spX9_meanTop, mrg, mrl, mSet_ap, ncast, Option.some.injEq, Option.getD_some, fr_ne, n20, e9]
  refine ⟨hf, Or.inl rfl, hB3, t, b, Hc, fun J => ⟨Or.inr (Or.inl rfl), hB, t, b, by rw [ctxU_fr (by decide)]; exact Hc, fun J2 => ?_⟩⟩
  rw [r3, r20]
  exact h _ (fun i h3 h130 => by rw [fr_ne (by omega), fr_ne (by omega), set_ne h3, mCpy_ne _ _ _ _ h3])
theorem ctrX10_changeBy {l : Launch} (hst : l.stackTraces = false) (hT : mTxM l) : mCtr l calX10_changeBy spX10_changeBy :=
  mMet0 (T := TX10_changeBy) (S := SX10_changeBy) hst hT (by decide) okX10_changeBy ⟨_, _, rfl, rfl⟩ (fun a => match a with
    | 0 => ctrX10_copyRow hst hT
    | 1 => ctrX9_meanTop hst hT
    | _ + 2 => mCtr_no) vcX10_changeBy

theorem cPost.of {I I1 I2 : mM} {u l : Int} (h : cPost I I1 u l) (hf : ∀ i, ¬ ((3 ≤ i ∧ i ≤ 7) ∨ (120 ≤ i ∧ i ≤ 163)) → I2 i = I1 i) : cPost I I2 u l :=
  ⟨fun i h1 h2 => (hf i h2).trans (h.1 i h1 h2), by rw [hf 0 (by decide)]; exact h.2.1, by rw [hf 0 (by decide)]; exact h.2.2⟩
theorem clsI.s20e {I : mM} (H : clsI I) : ∀ f : Int, 0 ≤ f → f < 9 → I 20 f = stT (I 201) f := fun f f0 f1 => (H.2.2.1.1 f f0 f1).1
def spX10_worth : mSp := shRII (fun _ i f b I Q => i = some 0 ∧ clsI I ∧ mrg f ∧ mrg b ∧ (¬ (fldP f ∧ ballP b) → Q (.inr (mEx 0)) I) ∧ (fldP f ∧ ballP b → stT (I 201) f = -1 → Q (.inr (mEx 2)) I) ∧ (fldP f ∧ ballP b → ¬ stT (I 201) f = -1 → allT (I 201) b = 0 → ∀ I', cPost I I' 0 0 → Q (.inl (some (mI 0))) I') ∧ (fldP f ∧ ballP b → ¬ stT (I 201) f = -1 → ¬ allT (I 201) b = 0 → ∀ I', cPost I I' (upT (meanT (putT (I 201) f (-1)) b - meanT (I 201) b) (10000 * allT (I 201) b)) (loT (meanT (putT (I 201) f (-1)) b - meanT (I 201) b) (10000 * allT (I 201) b)) → Q (.inl (some (mI 1))) I'))
def SX10_worth : Nat → mSp := fun a => match a with
  | 0 => spX10_needFielder
  | 1 => spX10_needBall
  | 2 => spX10_needThere
  | 3 => spX10_lay
  | 4 => spX10_changeBy
  | 5 => spX0_meanBase
  | 6 => spX10_tell
  | _ => fun _ _ _ _ => False
theorem SX10_worth_0 : SX10_worth 0 = spX10_needFielder := Eq.trans rfl rfl
theorem SX10_worth_1 : SX10_worth 1 = spX10_needBall := Eq.trans rfl rfl
theorem SX10_worth_2 : SX10_worth 2 = spX10_needThere := Eq.trans rfl rfl
theorem SX10_worth_3 : SX10_worth 3 = spX10_lay := Eq.trans rfl rfl
theorem SX10_worth_4 : SX10_worth 4 = spX10_changeBy := Eq.trans rfl rfl
theorem SX10_worth_5 : SX10_worth 5 = spX0_meanBase := Eq.trans rfl rfl
theorem SX10_worth_6 : SX10_worth 6 = spX10_tell := Eq.trans rfl rfl
set_option maxRecDepth 100000 in
set_option maxHeartbeats 1000000 in
theorem vcX10_worth (fl : Nat → Bool) (avs : List mV) (I : mM) (Q : mO → mM → Prop) (hsp : spX10_worth fl avs I Q) : mVC0 SX10_worth fl Q kX10_worth 3 avs I := by
  obtain ⟨i, f, b, rfl, h0⟩ := shRII_inv hsp
  refine ⟨rfl, ?_⟩
  show mWp _ _ _ _ _ _ kX10_worth_0 [some (mR i), some (mI f), some (mI b)] [] I
  obtain ⟨rfl, H, rf, rb, h1, h2, h3, h4⟩ := h0
  simp only [false_and, and_false, true_or, or_true, false_or, or_false, true_and, and_true, true_implies, false_implies, implies_true, not_true_eq_false, not_false_eq_true, and_self, List.length_cons, List.length_nil, mNoCut_, mCat_n, mCat_I, mCat_L, mCat_R, mIsL_n, mIsL_I, mIsL_R, mIsL_L, Nat.reduceAdd, Nat.reduceSub, Nat.reduceLeDiff, Nat.reduceLT, Nat.reduceEqDiff, Nat.zero_le, Int.reduceEq, Int.reduceLT, Int.reduceLE, Int.reduceNeg, Int.reduceAdd, if_true, if_false, reduceIte, reduceCtorEq, Bool.false_eq_true, ne_eq, qCmp_0, qCmp_1, qCmp_2, qCmp_3, qCmp_4, qCmp_5, ib_0, ib_1, ib_2, lb_0, lb_1, lb_2, dv_0, dv_1, wq_ic, wq_ld_i, wq_ld_a, wq_get, mGet_0, mGet_1, mGet_2, mGet_3, wq_ret0, wq_ret1, wq_ret2, wq_ret3, wq_ret4, ldI1, wq_callS1_1, ldI2, ldR0, wq_callV2_0, mrg_m1_, wq_callV3_0, fk_10_4, wq_callV1_0, kX10_worth_0, sk_0, al_0, rf_0_4, sk_120, al_120, SX10_worth_0, SX10_worth_1, SX10_worth_2, SX10_worth_3, SX10_worth_4, SX10_worth_5, SX10_worth_6, shqI_, shqRI_, shqRII_, shqR_, shqRLL_, spX10_needFielder, spX10_needBall, spX10_needThere, spX10_lay, spX10_changeBy, spX0_meanBase, spX10_tell, mrg, mrl, mSet_ap, ncast, Option.some.injEq]
  refine ⟨rf, fun kf => ⟨rb, fun kb => ⟨H, kf, fun z => ⟨H, kb, fun J hJ => ⟨kf, I 201, b, H.ctx kb hJ, fun g g0 g1 => by rw [fr_ne (by decide)]; exact H.s20e g g0 g1, fun I2 f2 => ?_⟩⟩, fun z => h2 ⟨kf, kb⟩ z⟩, fun z => h1 (fun w => z w.2)⟩, fun z => h1 (fun w => z w.1)⟩
  have e1 : I2 120 1 = allT (I 201) b := by
    rw [f2 120 (by decide) (by decide)]
    exact hJ.2.1
  have mb := meanT_bd H.1 kb
  have m2 := meanT_bd (H.1.put (f := f) (c := -1) kf ⟨by omega, by omega⟩) kb
  have ab := allT_bd H.1 kb
  have cp := (((cPost.rfl I).fr (J := J) (lo := 120) (hi := 127) (by decide) (by decide)).of (I2 := I2) (fun i hi => f2 i (by omega) (by omega)))
  have h3 := fun w => h3 ⟨kf, kb⟩ z w _ (cp.frac 0 0)
  have h4 := fun w => h4 ⟨kf, kb⟩ z w _ (cp.frac _ _)
  clear h1 h2
  simp only [e1]
  (try simp only [mrg, mrl] at *) <;> repeat' (first | (with_reducible assumption) | (with_reducible apply And.intro) | intro _)
  all_goals first | omega | exact h3 (by omega) | exact h4 (by omega) | skip
theorem ctrX10_worth {l : Launch} (hst : l.stackTraces = false) (hT : mTxM l) : mCtr l calX10_worth spX10_worth :=
  mMet0 (T := TX10_worth) (S := SX10_worth) hst hT (by decide) okX10_worth ⟨_, _, rfl, rfl⟩ (fun a => match a with
    | 0 => ctrX10_needFielder hst hT
    | 1 => ctrX10_needBall hst hT
    | 2 => ctrX10_needThere hst hT
    | 3 => ctrX10_lay hst hT
    | 4 => ctrX10_changeBy hst hT
    | 5 => ctrX0_meanBase hst hT
    | 6 => ctrX10_tell hst hT
    | _ + 7 => mCtr_no) vcX10_worth

def spX10_brave : mSp := shRIII (fun _ i f b c I Q => i = some 0 ∧ clsI I ∧ mrg f ∧ mrg b ∧ mrg c ∧ (¬ (fldP f ∧ ballP b) → Q (.inr (mEx 0)) I) ∧ (fldP f ∧ ballP b → stT (I 201) f = -1 → Q (.inr (mEx 2)) I) ∧ (fldP f ∧ ballP b → ¬ stT (I 201) f = -1 → ¬ (0 ≤ c ∧ c ≤ 288) → Q (.inr (mEx 1)) I) ∧ (fldP f ∧ ballP b → ¬ stT (I 201) f = -1 → (0 ≤ c ∧ c ≤ 288) → allT (I 201) b = 0 → ∀ I', cPost I I' 0 0 → Q (.inl (some (mI 0))) I') ∧ (fldP f ∧ ballP b → ¬ stT (I 201) f = -1 → (0 ≤ c ∧ c ≤ 288) → ¬ allT (I 201) b = 0 → ∀ I', cPost I I' (upT (meanT (putT (I 201) f c) b - meanT (I 201) b) (10000 * allT (I 201) b)) (loT (meanT (putT (I 201) f c) b - meanT (I 201) b) (10000 * allT (I 201) b)) → Q (.inl (some (mI 1))) I'))
def SX10_brave : Nat → mSp := fun a => match a with
  | 0 => spX10_needFielder
  | 1 => spX10_needBall
  | 2 => spX10_needThere
  | 3 => spX10_needNumber
  | 4 => spX10_lay
  | 5 => spX10_changeBy
  | 6 => spX0_meanBase
  | 7 => spX10_tell
  | _ => fun _ _ _ _ => False
theorem SX10_brave_0 : SX10_brave 0 = spX10_needFielder := Eq.trans rfl rfl
theorem SX10_brave_1 : SX10_brave 1 = spX10_needBall := Eq.trans rfl rfl
theorem SX10_brave_2 : SX10_brave 2 = spX10_needThere := Eq.trans rfl rfl
theorem SX10_brave_3 : SX10_brave 3 = spX10_needNumber := Eq.trans rfl rfl
theorem SX10_brave_4 : SX10_brave 4 = spX10_lay := Eq.trans rfl rfl
theorem SX10_brave_5 : SX10_brave 5 = spX10_changeBy := Eq.trans rfl rfl
theorem SX10_brave_6 : SX10_brave 6 = spX0_meanBase := Eq.trans rfl rfl
theorem SX10_brave_7 : SX10_brave 7 = spX10_tell := Eq.trans rfl rfl
set_option maxRecDepth 100000 in
set_option maxHeartbeats 1000000 in
theorem vcX10_brave (fl : Nat → Bool) (avs : List mV) (I : mM) (Q : mO → mM → Prop) (hsp : spX10_brave fl avs I Q) : mVC0 SX10_brave fl Q kX10_brave 4 avs I := by
  obtain ⟨i, f, b, c, rfl, h0⟩ := shRIII_inv hsp
  refine ⟨rfl, ?_⟩
  show mWp _ _ _ _ _ _ kX10_brave_0 [some (mR i), some (mI f), some (mI b), some (mI c)] [] I
  obtain ⟨rfl, H, rf, rb, rc, h1, h2, h5, h3, h4⟩ := h0
  simp only [false_and, and_false, true_or, or_true, false_or, or_false, true_and, and_true, true_implies, false_implies, implies_true, not_true_eq_false, not_false_eq_true, and_self, List.length_cons, List.length_nil, mNoCut_, mCat_n, mCat_I, mCat_L, mCat_R, mIsL_n, mIsL_I, mIsL_R, mIsL_L, Nat.reduceAdd, Nat.reduceSub, Nat.reduceLeDiff, Nat.reduceLT, Nat.reduceEqDiff, Nat.zero_le, Int.reduceEq, Int.reduceLT, Int.reduceLE, Int.reduceNeg, Int.reduceAdd, if_true, if_false, reduceIte, reduceCtorEq, Bool.false_eq_true, ne_eq, qCmp_0, qCmp_1, qCmp_2, qCmp_3, qCmp_4, qCmp_5, ib_0, ib_1, ib_2, lb_0, lb_1, lb_2, dv_0, dv_1, wq_ic, wq_ld_i, wq_ld_a, wq_get, mGet_0, mGet_1, mGet_2, mGet_3, wq_ret0, wq_ret1, wq_ret2, wq_ret3, wq_ret4, ldI1, wq_callS1_1, ldI2, ldR0, wq_callV2_0, ldI3, mrg_0_, mrg_288_, wq_callS3_1, wq_callV3_0, fk_10_4, wq_callV1_0, kX10_brave_0, sk_0, al_0, rf_0_4, sk_120, al_120, SX10_brave_0, SX10_brave_1, SX10_brave_2, SX10_brave_3, SX10_brave_4, SX10_brave_5, SX10_brave_6, SX10_brave_7, shqI_, shqRI_, shqIII_, shqRII_, shqR_, shqRLL_, spX10_needFielder, spX10_needBall, spX10_needThere, spX10_needNumber, spX10_lay, spX10_changeBy, spX0_meanBase, spX10_tell, mrg, mrl, mSet_ap, ncast, Option.some.injEq]
  refine ⟨rf, fun kf => ⟨rb, fun kb => ⟨H, kf, fun z => ⟨rc, fun kc => ⟨H, kb, fun J hJ => ⟨kf, ⟨by omega, by omega⟩, I 201, b, H.ctx kb hJ, fun g g0 g1 => by rw [fr_ne (by decide)]; exact H.s20e g g0 g1, fun I2 f2 => ?_⟩⟩, fun w => h5 ⟨kf, kb⟩ z w⟩, fun z => h2 ⟨kf, kb⟩ z⟩, fun z => h1 (fun w => z w.2)⟩, fun z => h1 (fun w => z w.1)⟩
  have e1 : I2 120 1 = allT (I 201) b := by
    rw [f2 120 (by decide) (by decide)]
    exact hJ.2.1
  have mb := meanT_bd H.1 kb
  have m2 := meanT_bd (H.1.put (f := f) (c := c) kf ⟨by omega, by omega⟩) kb
  have ab := allT_bd H.1 kb
  have cp := (((cPost.rfl I).fr (J := J) (lo := 120) (hi := 127) (by decide) (by decide)).of (I2 := I2) (fun i hi => f2 i (by omega) (by omega)))
  have h3 := fun w => h3 ⟨kf, kb⟩ z kc w _ (cp.frac 0 0)
  have h4 := fun w => h4 ⟨kf, kb⟩ z kc w _ (cp.frac _ _)
  clear h1 h2 h5
  simp only [e1]
  (try simp only [mrg, mrl] at *) <;> repeat' (first | (with_reducible assumption) | (with_reducible apply And.intro) | intro _)
  all_goals first | omega | exact h3 (by omega) | exact h4 (by omega) | skip
theorem ctrX10_brave {l : Launch} (hst : l.stackTraces = false) (hT : mTxM l) : mCtr l calX10_brave spX10_brave :=
  mMet0 (T := TX10_brave) (S := SX10_brave) hst hT (by decide) okX10_brave ⟨_, _, rfl, rfl⟩ (fun a => match a with
    | 0 => ctrX10_needFielder hst hT
    | 1 => ctrX10_needBall hst hT
    | 2 => ctrX10_needThere hst hT
    | 3 => ctrX10_needNumber hst hT
    | 4 => ctrX10_lay hst hT
    | 5 => ctrX10_changeBy hst hT
    | 6 => ctrX0_meanBase hst hT
    | 7 => ctrX10_tell hst hT
    | _ + 8 => mCtr_no) vcX10_brave

theorem repG_kind {I : mM} {g : Nat} {t : Int → Int} (k : Int) (h : repG I g t) : repG I g (kindT t k) := by
  have ne : ∀ q, q ≠ 6 → kindT t k q = t q := fun q hq => if_neg hq
  refine ⟨fun q q0 q1 => by rw [ne q (by omega)]; exact h.1 q q0 q1, fun c c0 c1 => by rw [ne _ (by omega)]; exact h.2.1 c c0 c1, fun b b0 b1 => by rw [ne _ (by omega)]; exact h.2.2.1 b b0 b1, fun b i b0 b1 i0 i1 => ?_⟩
  rw [ne _ (by omega)] at i1
  unfold rawT
  rw [ne _ (by omega), ne _ (by omega), ne _ (by omega), ne _ (by omega)]
  exact h.2.2.2 b i b0 b1 i0 i1
theorem repG_of {I J : mM} {g : Nat} {t : Int → Int} (hf : ∀ i, g ≤ i → i ≤ g + 8 → J i = I i) (h : repG I g t) : repG J g t := by
  unfold repG at *
  rw [hf g (by omega) (by omega), hf (g + 3) (by omega) (by omega), hf (g + 4) (by omega) (by omega), hf (g + 5) (by omega) (by omega), hf (g + 6) (by omega) (by omega), hf (g + 7) (by omega) (by omega), hf (g + 8) (by omega) (by omega)]
  exact h
theorem ctx_kind {I J : mM} {b k : Int} (H : clsI I) (hb : 0 ≤ b ∧ b < 6) (hk : 0 ≤ k ∧ k ≤ 4) (hJ : Laid J (kindT (I 201) k) b) : ctxU (fr 120 127 J I) (kindT (I 201) k) b := by
  refine ⟨H.1.kind hk, hb, Laid_of (fun i hi => if_pos hi) hJ, fun f f0 f1 => ?_, fun q q0 q1 => ?_⟩
  · rw [fr_ne (by decide), fr_ne (by decide), fr_ne (by decide), fr_ne (by decide)]
    have e := (H.2.2.1.1 f f0 f1).2
    have e1 : pcT (kindT (I 201) k) f = pcT (I 201) f := if_neg (by omega)
    have e2 : hdT (kindT (I 201) k) f = hdT (I 201) f := if_neg (by omega)
    have e3 : prT (kindT (I 201) k) f = prT (I 201) f := if_neg (by omega)
    have e4 : amT (kindT (I 201) k) f = amT (I 201) f := if_neg (by omega)
    rw [e1, e2, e3, e4]
    exact e
  · rw [fr_ne (by decide)]
    have e1 : kindT (I 201) k q = I 201 q := if_neg (by omega)
    rw [e1]
    exact H.2.1.1 q q0 q1
theorem allN_kind (t : Int → Int) (k b : Int) (hb : 0 ≤ b) : ∀ n : Nat, allN (kindT t k) b n = allN t b n
  | 0 => rfl
  | n + 1 => by
    have e : rawT (kindT t k) b n 3 = rawT t b n 3 := if_neg (by omega)
    simp only [allN]
    rw [allN_kind t k b hb n, e]
theorem allT_kind (t : Int → Int) (k b : Int) (hb : 0 ≤ b) : allT (kindT t k) b = allT t b := by
  have e : kindT t k (13 + b) = t (13 + b) := if_neg (by omega)
  unfold allT
  rw [e]
  exact allN_kind t k b hb _
theorem s20_kind {I : mM} (H : clsI I) (k : Int) : stR (kindT (I 201) k) (I 20) = kindT (I 201) k := by
  refine (stR_cong _ (fun f f0 f1 => ?_)).trans (stR_self _)
  rw [H.s20e f f0 f1]
  exact (if_neg (by omega)).symm
def spX10_both : mSp := shRII (fun _ i b l I Q => i = some 0 ∧ clsI I ∧ mrg b ∧ mrg l ∧ (¬ ballP b → Q (.inr (mEx 0)) I) ∧ (ballP b → ¬ (0 ≤ l ∧ l ≤ 100) → Q (.inr (mEx 1)) I) ∧ (ballP b → (0 ≤ l ∧ l ≤ 100) → allT (I 201) b = 0 → ∀ I', cPost I I' 0 0 → Q (.inl (some (mI 0))) I') ∧ (ballP b → (0 ≤ l ∧ l ≤ 100) → ¬ allT (I 201) b = 0 → ∀ I', cPost I I' (upT (bothT (I 201) b l) (100 * (10000 * allT (I 201) b))) (loT (bothT (I 201) b l) (100 * (10000 * allT (I 201) b))) → Q (.inl (some (mI 1))) I'))
def SX10_both : Nat → mSp := fun a => match a with
  | 0 => spX10_needBall
  | 1 => spX10_needNumber
  | 2 => spX0_lay
  | 3 => spX9_meanTop
  | 4 => spX0_meanBase
  | 5 => spX10_tell
  | _ => fun _ _ _ _ => False
theorem SX10_both_0 : SX10_both 0 = spX10_needBall := Eq.trans rfl rfl
theorem SX10_both_1 : SX10_both 1 = spX10_needNumber := Eq.trans rfl rfl
theorem SX10_both_2 : SX10_both 2 = spX0_lay := Eq.trans rfl rfl
theorem SX10_both_3 : SX10_both 3 = spX9_meanTop := Eq.trans rfl rfl
theorem SX10_both_4 : SX10_both 4 = spX0_meanBase := Eq.trans rfl rfl
theorem SX10_both_5 : SX10_both 5 = spX10_tell := Eq.trans rfl rfl
set_option maxRecDepth 100000 in
set_option maxHeartbeats 1000000 in
theorem vcX10_both (fl : Nat → Bool) (avs : List mV) (I : mM) (Q : mO → mM → Prop) (hsp : spX10_both fl avs I Q) : mVC0 SX10_both fl Q kX10_both 7 avs I := by
  obtain ⟨i, b, l, rfl, h0⟩ := shRII_inv hsp
  refine ⟨rfl, ?_⟩
  show mWp _ _ _ _ _ _ kX10_both_0 [some (mR i), some (mI b), some (mI l), none, none, none, none] [] I
  obtain ⟨rfl, H, rb, rl, h1, h2, h3, h4⟩ := h0
  simp only [false_and, and_false, true_or, or_true, false_or, or_false, true_and, and_true, true_implies, false_implies, implies_true, not_true_eq_false, not_false_eq_true, and_self, List.length_cons, List.length_nil, mNoCut_, mCat_n, mCat_I, mCat_L, mCat_R, mIsL_n, mIsL_I, mIsL_R, mIsL_L, Nat.reduceAdd, Nat.reduceSub, Nat.reduceLeDiff, Nat.reduceLT, Nat.reduceEqDiff, Nat.zero_le, Int.reduceEq, Int.reduceLT, Int.reduceLE, Int.reduceNeg, Int.reduceAdd, if_true, if_false, reduceIte, reduceCtorEq, Bool.false_eq_true, ne_eq, qCmp_0, qCmp_1, qCmp_2, qCmp_3, qCmp_4, qCmp_5, ib_0, ib_1, ib_2, lb_0, lb_1, lb_2, dv_0, dv_1, wq_ic, wq_lc, wq_ld_i, wq_ld_l, wq_ld_a, wq_st_l, wq_ib, wq_lb, wq_i2l, wq_get, mGet_0, mGet_1, mGet_2, mGet_3, wq_ret0, wq_ret1, wq_ret2, wq_ret3, wq_ret4, ldI1, wq_callS1_1, ldI2, mrg_0_, mrg_100_, wq_callS3_1, ldR0, fk_10_4, fk_10_0, fk_7_0, mrg_4_, wq_callV5_0, fk_10_5, fk_7_1, fk_6_0, wq_callV2_0, stL3, stL5, ldL3, ldL5, wq_callV1_0, wq_callV3_0, mPut_s, mPut_I0, mPut_R0, mPut_L0, mPut_I1, mPut_R1, mPut_L1, kX10_both_0, sk_0, al_0, rf_0_4, sk_120, al_120, rf_0_0, sk_10, al_10, rf_0_5, sk_130, al_130, sk_12, al_12, rf_12_0, sk_20, al_20, sn_20, rf_10_0, sk_11, al_11, rf_10_1, SX10_both_0, SX10_both_1, SX10_both_2, SX10_both_3, SX10_both_4, SX10_both_5, shqI_, shqIII_, shqRRIII_, shqRR_, shqR_, shqRLL_, spX10_needBall, spX10_needNumber, spX0_lay, spX9_meanTop, spX0_meanBase, spX10_tell, mrg, mrl, mSet_ap, ncast, Option.some.injEq, Option.getD_some, fr_ne]
  refine ⟨rb, fun kb => ⟨rl, fun kl => ⟨kindT (I 201) 4, H.1.kind (by omega), kb, repG_kind 4 H.2.1, rfl, fun z => absurd z (by unfold kindT; rw [if_pos rfl]; omega), fun J hJ => ⟨Or.inr (Or.inl rfl), H.b20, kindT (I 201) 4, b, ctx_kind H kb (by omega) hJ, fun J2 => ?_⟩⟩, fun z => h2 kb z⟩, h1⟩
  have hg : repG (fr 130 130 J2 (fr 120 127 J I)) 11 (kindT (I 201) 0) := repG_of (fun i h1 h2 => by rw [fr_ne (by omega), fr_ne (by omega)]) (repG_kind 0 H.2.1)
  refine ⟨kindT (I 201) 0, H.1.kind (by omega), kb, hg, rfl, fun z => absurd z (by unfold kindT; rw [if_pos rfl]; omega), fun J3 hJ3 => ⟨Or.inr (Or.inl rfl), H.b20, kindT (I 201) 0, b, ctxU_of (fun i hi => ?_) (ctx_kind H kb (by omega) hJ3), fun J4 => ?_⟩⟩
  · by_cases q : 120 ≤ i ∧ i ≤ 127
    · simp only [fr]
      rw [if_pos q, if_pos q]
    · rw [fr_ne q, fr_ne q, fr_ne (by omega), fr_ne q]
  have e1 : fr 120 127 J3 (fr 130 130 J2 (fr 120 127 J I)) 120 1 = allT (I 201) b := (hJ3.2.1).trans (allT_kind _ _ _ kb.1)
  have m4 := meanT_bd (H.1.kind (k := 4) (by omega)) kb
  have m0 := meanT_bd (H.1.kind (k := 0) (by omega)) kb
  have ab := allT_bd H.1 kb
  have p4 := mul_abs_bd kl m4
  have p0 := mul_abs_bd (x := 100 - l) (a := 100) ⟨by omega, by omega⟩ m0
  have cp := ((((cPost.rfl I).fr (J := J) (lo := 120) (hi := 127) (by decide) (by decide)).fr (J := J2) (lo := 130) (hi := 130) (by decide) (by decide)).fr (J := J3) (lo := 120) (hi := 127) (by decide) (by decide)).fr (J := J4) (lo := 130) (hi := 130) (by decide) (by decide)
  have h3 := fun w => h3 kb kl w _ (cp.frac 0 0)
  have h4 := fun w => h4 kb kl w _ (cp.frac _ _)
  unfold bothT at h4
  clear h1 h2
  simp only [e1, s20_kind H]
  (try simp only [mrg, mrl] at *) <;> repeat' (first | (with_reducible assumption) | (with_reducible apply And.intro) | intro _)
  all_goals first | omega | exact h3 (by omega) | exact h4 (by omega) | skip
theorem ctrX10_both {l : Launch} (hst : l.stackTraces = false) (hT : mTxM l) : mCtr l calX10_both spX10_both :=
  mMet0 (T := TX10_both) (S := SX10_both) hst hT (by decide) okX10_both ⟨_, _, rfl, rfl⟩ (fun a => match a with
    | 0 => ctrX10_needBall hst hT
    | 1 => ctrX10_needNumber hst hT
    | 2 => ctrX0_lay hst hT
    | 3 => ctrX9_meanTop hst hT
    | 4 => ctrX0_meanBase hst hT
    | 5 => ctrX10_tell hst hT
    | _ + 6 => mCtr_no) vcX10_both

end SPC10
