section SPC35
theorem en8 (B : Int → Int) {n a : Int} (h : 0 ≤ a ∧ a ≤ n) : 0 ≤ bgT B n a ∧ bgT B n a ≤ enT B n a ∧ enT B n a ≤ n := by
  have e := en_bd B h.2
  have b := bg_bd B h.2
  omega
def spX5_fail : mSp := shRI (fun _ i k I Q => i = some 100 ∧ mrg (I 100 7) ∧ Q (.inl (some (mI 0))) (mSet (mSet I 100 3 (if I 100 7 = 4 then 1 else k)) 100 4 (I 100 8)))
def SX5_fail : Nat → mSp := fun a => match a with
  | _ => fun _ _ _ _ => False
set_option maxRecDepth 100000 in
set_option maxHeartbeats 1000000 in
theorem vcX5_fail (fl : Nat → Bool) (avs : List mV) (I : mM) (Q : mO → mM → Prop) (hsp : spX5_fail fl avs I Q) : mVC0 SX5_fail fl Q kX5_fail 2 avs I := by
  obtain ⟨i, k, rfl, h0⟩ := shRI_inv hsp
  refine ⟨rfl, ?_⟩
  show mWp _ _ _ _ _ _ kX5_fail_0 [some (mR i), some (mI k)] [] I
  obtain ⟨rfl, h7, h⟩ := h0
  by_cases z : I 100 7 = 4
  · rw [if_pos z] at h
    simp only [false_and, and_false, true_or, or_true, false_or, or_false, true_and, and_true, true_implies, false_implies, implies_true, not_true_eq_false, not_false_eq_true, and_self, List.length_cons, List.length_nil, mNoCut_, mCat_n, mCat_I, mCat_L, mCat_R, mIsL_n, mIsL_I, mIsL_R, mIsL_L, Nat.reduceAdd, Nat.reduceSub, Nat.reduceLeDiff, Nat.reduceLT, Nat.reduceEqDiff, Nat.zero_le, Int.reduceEq, Int.reduceLT, Int.reduceLE, Int.reduceNeg, Int.reduceAdd, if_true, if_false, reduceIte, reduceCtorEq, Bool.false_eq_true, ne_eq, qCmp_0, qCmp_1, qCmp_2, qCmp_3, qCmp_4, qCmp_5, ib_0, ib_1, ib_2, lb_0, lb_1, lb_2, dv_0, dv_1, wq_ic, wq_ld_i, wq_ld_a, wq_icmp, wq_goto, wq_get, mGet_0, mGet_1, mGet_2, mGet_3, wq_putI, wq_putL, wq_ret0, wq_ret1, wq_ret2, wq_ret3, wq_ret4, ldR0, fk_5_7, mrg_4_, mrg_1_, ldI1, fk_5_3, fk_5_8, fk_5_4, mrg_0_, mGo_n, sfxX5_fail_13, cutX5_fail_13, sfxX5_fail_14, cutX5_fail_14, kX5_fail_14, kX5_fail_13, kX5_fail_0, sk_100, al_100, mrg, mrl, mSet_ap, ncast, Option.some.injEq, z]
    (try simp only [mrg, mrl] at *) <;> repeat' (first | (with_reducible assumption) | (with_reducible apply And.intro) | intro _)
    all_goals first | omega | exact h | skip
  · rw [if_neg z] at h
    simp only [false_and, and_false, true_or, or_true, false_or, or_false, true_and, and_true, true_implies, false_implies, implies_true, not_true_eq_false, not_false_eq_true, and_self, List.length_cons, List.length_nil, mNoCut_, mCat_n, mCat_I, mCat_L, mCat_R, mIsL_n, mIsL_I, mIsL_R, mIsL_L, Nat.reduceAdd, Nat.reduceSub, Nat.reduceLeDiff, Nat.reduceLT, Nat.reduceEqDiff, Nat.zero_le, Int.reduceEq, Int.reduceLT, Int.reduceLE, Int.reduceNeg, Int.reduceAdd, if_true, if_false, reduceIte, reduceCtorEq, Bool.false_eq_true, ne_eq, qCmp_0, qCmp_1, qCmp_2, qCmp_3, qCmp_4, qCmp_5, ib_0, ib_1, ib_2, lb_0, lb_1, lb_2, dv_0, dv_1, wq_ic, wq_ld_i, wq_ld_a, wq_icmp, wq_goto, wq_get, mGet_0, mGet_1, mGet_2, mGet_3, wq_putI, wq_putL, wq_ret0, wq_ret1, wq_ret2, wq_ret3, wq_ret4, ldR0, fk_5_7, mrg_4_, mrg_1_, ldI1, fk_5_3, fk_5_8, fk_5_4, mrg_0_, mGo_n, sfxX5_fail_13, cutX5_fail_13, sfxX5_fail_14, cutX5_fail_14, kX5_fail_14, kX5_fail_13, kX5_fail_0, sk_100, al_100, mrg, mrl, mSet_ap, ncast, Option.some.injEq, z]
    (try simp only [mrg, mrl] at *) <;> repeat' (first | (with_reducible assumption) | (with_reducible apply And.intro) | intro _)
    all_goals first | omega | exact h | skip
theorem ctrX5_fail {l : Launch} (hst : l.stackTraces = false) (hT : mTxM l) : mCtr l calX5_fail spX5_fail :=
  mMet0 (T := TX5_fail) (S := SX5_fail) hst hT (by decide) okX5_fail ⟨_, _, rfl, rfl⟩ (fun a => mCtr_no) vcX5_fail

def spX5_isWord : mSp := shRR (fun _ i w I Q => i = some 100 ∧ ∃ W : Nat, w = some (250 + W) ∧ W < mTx.length ∧ mTxLen W ≤ 10 ∧ ∃ B n a, tpC I B n ∧ tkC I B n a ∧ (0 ≤ a ∧ a ≤ n) ∧ (isW B n W a → Q (.inl (some (mI 1))) I) ∧ (¬ isW B n W a → Q (.inl (some (mI 0))) I))
def SX5_isWord : Nat → mSp := fun a => match a with
  | 0 => spX5_signAt
  | _ => fun _ _ _ _ => False
theorem SX5_isWord_0 : SX5_isWord 0 = spX5_signAt := Eq.trans rfl rfl
theorem cutsX5_isWord {t : Nat} {bs : List Bool} (h : cutX5_isWord t = some bs) : (t = 28 ∧ bs = [true, true, true]) := by
  unfold cutX5_isWord at h
  simp only [mLk] at h
  by_cases h0 : 28 = t
  · subst h0
    simp at h
    exact ⟨rfl, h.symm⟩
  rw [if_neg h0] at h
  cases h
set_option maxRecDepth 100000 in
set_option maxHeartbeats 1000000 in
theorem vcX5_isWord (fl : Nat → Bool) (avs : List mV) (I : mM) (Q : mO → mM → Prop) (hsp : spX5_isWord fl avs I Q) : mVC SX5_isWord fl Q kX5_isWord cutX5_isWord 3 avs I := by
  obtain ⟨i, w, rfl, h0⟩ := shRR_inv hsp
  obtain ⟨rfl, W, rfl, hW, hL, B, N, a, hT, hK, han, h1, h2⟩ := h0
  have hWr : 250 ≤ 250 + W ∧ 250 + W < 250 + mTx.length := by omega
  have hWs : 250 + W - 250 = W := by omega
  have eb := en8 B han
  have tkb := tk_bd B N a
  have t2 := hT.2.1
  have t5 := hT.1
  obtain ⟨k6, k8, k7, k9, k10⟩ := hK
  refine ⟨rfl, (fun m pc lv st I1 => st = [] ∧ I1 = I ∧ (tkT B N a = 1 ∧ enT B N a - bgT B N a = mTxLen W) ∧ ∃ k : Nat, lv = [some (mR (some 100)), some (mR (some (250 + W))), some (mI k)] ∧ k ≤ mTxLen W ∧ m = mTxLen W - k ∧ ∀ j : Int, 0 ≤ j → j < k → B (bgT B N a + j) = mTxCh W j), ?_, ?_⟩
  · intro n t bs hbs lv st I1 hc
    rcases cutsX5_isWord hbs with ⟨rfl, rfl⟩
    rw [sfxX5_isWord_28]
    obtain ⟨rfl, rfl, ⟨zt, zl⟩, k, rfl, hk, hm, hj⟩ := hc
    have cb := txc_bd W k
    rcases Nat.lt_or_ge k (mTxLen W) with z | z
    · have bx := hT.2.2 (bgT B N a + k) (by omega) (by omega)
      have sb := sb_bd bx.2
      have ex : I1 101 (bgT B N a + k) = sbT (B (bgT B N a + k)) := bx.1
      have hq : sbT (B (bgT B N a + k)) = mTxCh W k ↔ B (bgT B N a + k) = mTxCh W k := by
        have := bx.2
        unfold sbT
        split <;> omega
      by_cases y : B (bgT B N a + k) = mTxCh W k
      · have y2 := hq.2 y
        have key : ∃ n', n' < n ∧ ∃ k_1 : Nat, [some (mR (some 100)), some (mR (some (250 + W))), some (mI ((k : Int) + 1))] = [some (mR (some 100)), some (mR (some (250 + W))), some (mI k_1)] ∧ k_1 ≤ mTxLen W ∧ n' = mTxLen W - k_1 ∧ ∀ j : Int, 0 ≤ j → j < k_1 → B (bgT B N a + j) = mTxCh W j := by
          refine ⟨mTxLen W - (k + 1), by omega, k + 1, rfl, z, rfl, fun j j0 j1 => ?_⟩
          by_cases e : j = k
          · rw [e]; exact y
          · exact hj j j0 (by omega)
        clear h1 h2 hj
        simp only [false_and, and_false, true_or, or_true, false_or, or_false, true_and, and_true, true_implies, false_implies, implies_true, not_true_eq_false, not_false_eq_true, and_self, List.length_cons, List.length_nil, mNoCut_, mCat_n, mCat_I, mCat_L, mCat_R, mIsL_n, mIsL_I, mIsL_R, mIsL_L, Nat.reduceAdd, Nat.reduceSub, Nat.reduceLeDiff, Nat.reduceLT, Nat.reduceEqDiff, Nat.zero_le, Int.reduceEq, Int.reduceLT, Int.reduceLE, Int.reduceNeg, Int.reduceAdd, if_true, if_false, reduceIte, reduceCtorEq, Bool.false_eq_true, ne_eq, qCmp_0, qCmp_1, qCmp_2, qCmp_3, qCmp_4, qCmp_5, ib_0, ib_1, ib_2, lb_0, lb_1, lb_2, dv_0, dv_1, wq_ic, wq_ld_i, wq_ld_a, wq_st_i, wq_iinc, wq_ib, wq_icmp, wq_goto, wq_get, mGet_0, mGet_1, mGet_2, mGet_3, wq_ret0, wq_ret1, wq_ret2, wq_ret3, wq_ret4, wq_txl, wq_txc, ldR0, fk_5_7, mrg_1_, fk_5_6, fk_5_8, ldR1, mrg_0_, stI2, ldI2, wq_callV2_0, wqinc2, mPut_s, mPut_I0, mPut_R0, mPut_L0, mPut_I1, mPut_R1, mPut_L1, mGo_n, sfxX5_isWord_24, cutX5_isWord_24, sfxX5_isWord_26, cutX5_isWord_26, sfxX5_isWord_28, cutX5_isWord_28, sfxX5_isWord_56, cutX5_isWord_56, sfxX5_isWord_62, cutX5_isWord_62, wq_cut, mGo_c, mMask_t, mMask_f, mMask_n, kX5_isWord_62, kX5_isWord_56, kX5_isWord_28, kX5_isWord_26, kX5_isWord_24, kX5_isWord_0, sk_100, al_100, ↓SX5_isWord_0, ↓shqRI_, ↓spX5_signAt, mrg, mrl, mSet_ap, ncast, Option.some.injEq, hWr, hWs, k8, t5, ex, y2]
        (try simp only [mrg, mrl] at *) <;> repeat' (first | (with_reducible assumption) | (with_reducible apply And.intro) | intro _)
        all_goals first | omega | exact key | (obtain ⟨n1, a1, x1⟩ := key; exact ⟨n1, a1, ⟨zt, zl⟩, x1⟩) | skip
      · have y2 : ¬ sbT (B (bgT B N a + k)) = mTxCh W k := fun w => y (hq.1 w)
        have h := h2 (fun w => y (w.2.2 k (by omega) (by omega)))
        clear h1 h2 hj
        simp only [false_and, and_false, true_or, or_true, false_or, or_false, true_and, and_true, true_implies, false_implies, implies_true, not_true_eq_false, not_false_eq_true, and_self, List.length_cons, List.length_nil, mNoCut_, mCat_n, mCat_I, mCat_L, mCat_R, mIsL_n, mIsL_I, mIsL_R, mIsL_L, Nat.reduceAdd, Nat.reduceSub, Nat.reduceLeDiff, Nat.reduceLT, Nat.reduceEqDiff, Nat.zero_le, Int.reduceEq, Int.reduceLT, Int.reduceLE, Int.reduceNeg, Int.reduceAdd, if_true, if_false, reduceIte, reduceCtorEq, Bool.false_eq_true, ne_eq, qCmp_0, qCmp_1, qCmp_2, qCmp_3, qCmp_4, qCmp_5, ib_0, ib_1, ib_2, lb_0, lb_1, lb_2, dv_0, dv_1, wq_ic, wq_ld_i, wq_ld_a, wq_st_i, wq_iinc, wq_ib, wq_icmp, wq_goto, wq_get, mGet_0, mGet_1, mGet_2, mGet_3, wq_ret0, wq_ret1, wq_ret2, wq_ret3, wq_ret4, wq_txl, wq_txc, ldR0, fk_5_7, mrg_1_, fk_5_6, fk_5_8, ldR1, mrg_0_, stI2, ldI2, wq_callV2_0, wqinc2, mPut_s, mPut_I0, mPut_R0, mPut_L0, mPut_I1, mPut_R1, mPut_L1, mGo_n, sfxX5_isWord_24, cutX5_isWord_24, sfxX5_isWord_26, cutX5_isWord_26, sfxX5_isWord_28, cutX5_isWord_28, sfxX5_isWord_56, cutX5_isWord_56, sfxX5_isWord_62, cutX5_isWord_62, wq_cut, mGo_c, mMask_t, mMask_f, mMask_n, kX5_isWord_62, kX5_isWord_56, kX5_isWord_28, kX5_isWord_26, kX5_isWord_24, kX5_isWord_0, sk_100, al_100, ↓SX5_isWord_0, ↓shqRI_, ↓spX5_signAt, mrg, mrl, mSet_ap, ncast, Option.some.injEq, hWr, hWs, k8, t5, ex, y2]
        (try simp only [mrg, mrl] at *) <;> repeat' (first | (with_reducible assumption) | (with_reducible apply And.intro) | intro _)
        all_goals first | omega | exact h | skip
    · have h := h1 ⟨zt, zl, fun j j0 j1 => hj j j0 (by omega)⟩
      clear h1 h2 hj
      simp only [false_and, and_false, true_or, or_true, false_or, or_false, true_and, and_true, true_implies, false_implies, implies_true, not_true_eq_false, not_false_eq_true, and_self, List.length_cons, List.length_nil, mNoCut_, mCat_n, mCat_I, mCat_L, mCat_R, mIsL_n, mIsL_I, mIsL_R, mIsL_L, Nat.reduceAdd, Nat.reduceSub, Nat.reduceLeDiff, Nat.reduceLT, Nat.reduceEqDiff, Nat.zero_le, Int.reduceEq, Int.reduceLT, Int.reduceLE, Int.reduceNeg, Int.reduceAdd, if_true, if_false, reduceIte, reduceCtorEq, Bool.false_eq_true, ne_eq, qCmp_0, qCmp_1, qCmp_2, qCmp_3, qCmp_4, qCmp_5, ib_0, ib_1, ib_2, lb_0, lb_1, lb_2, dv_0, dv_1, wq_ic, wq_ld_i, wq_ld_a, wq_st_i, wq_iinc, wq_ib, wq_icmp, wq_goto, wq_get, mGet_0, mGet_1, mGet_2, mGet_3, wq_ret0, wq_ret1, wq_ret2, wq_ret3, wq_ret4, wq_txl, wq_txc, ldR0, fk_5_7, mrg_1_, fk_5_6, fk_5_8, ldR1, mrg_0_, stI2, ldI2, wq_callV2_0, wqinc2, mPut_s, mPut_I0, mPut_R0, mPut_L0, mPut_I1, mPut_R1, mPut_L1, mGo_n, sfxX5_isWord_24, cutX5_isWord_24, sfxX5_isWord_26, cutX5_isWord_26, sfxX5_isWord_28, cutX5_isWord_28, sfxX5_isWord_56, cutX5_isWord_56, sfxX5_isWord_62, cutX5_isWord_62, wq_cut, mGo_c, mMask_t, mMask_f, mMask_n, kX5_isWord_62, kX5_isWord_56, kX5_isWord_28, kX5_isWord_26, kX5_isWord_24, kX5_isWord_0, sk_100, al_100, ↓SX5_isWord_0, ↓shqRI_, ↓spX5_signAt, mrg, mrl, mSet_ap, ncast, Option.some.injEq, hWr, hWs, k8]
      (try simp only [mrg, mrl] at *) <;> repeat' (first | (with_reducible assumption) | (with_reducible apply And.intro) | intro _)
      all_goals first | omega | exact h | skip
  · show mWp _ _ _ _ _ _ kX5_isWord_0 [some (mR (some 100)), some (mR (some (250 + W))), none] [] I
    have hno : ∀ _ : Unit, ¬ (tkT B N a = 1 ∧ enT B N a - bgT B N a = mTxLen W) → Q (.inl (some (mI 0))) I := fun _ w => h2 (fun y => w ⟨y.1, y.2.1⟩)
    clear h1 h2
    simp only [false_and, and_false, true_or, or_true, false_or, or_false, true_and, and_true, true_implies, false_implies, implies_true, not_true_eq_false, not_false_eq_true, and_self, List.length_cons, List.length_nil, mNoCut_, mCat_n, mCat_I, mCat_L, mCat_R, mIsL_n, mIsL_I, mIsL_R, mIsL_L, Nat.reduceAdd, Nat.reduceSub, Nat.reduceLeDiff, Nat.reduceLT, Nat.reduceEqDiff, Nat.zero_le, Int.reduceEq, Int.reduceLT, Int.reduceLE, Int.reduceNeg, Int.reduceAdd, if_true, if_false, reduceIte, reduceCtorEq, Bool.false_eq_true, ne_eq, qCmp_0, qCmp_1, qCmp_2, qCmp_3, qCmp_4, qCmp_5, ib_0, ib_1, ib_2, lb_0, lb_1, lb_2, dv_0, dv_1, wq_ic, wq_ld_i, wq_ld_a, wq_st_i, wq_iinc, wq_ib, wq_icmp, wq_goto, wq_get, mGet_0, mGet_1, mGet_2, mGet_3, wq_ret0, wq_ret1, wq_ret2, wq_ret3, wq_ret4, wq_txl, wq_txc, ldR0, fk_5_7, mrg_1_, fk_5_6, fk_5_8, ldR1, mrg_0_, stI2, ldI2, wq_callV2_0, wqinc2, mPut_s, mPut_I0, mPut_R0, mPut_L0, mPut_I1, mPut_R1, mPut_L1, mGo_n, sfxX5_isWord_24, cutX5_isWord_24, sfxX5_isWord_26, cutX5_isWord_26, sfxX5_isWord_28, cutX5_isWord_28, sfxX5_isWord_56, cutX5_isWord_56, sfxX5_isWord_62, cutX5_isWord_62, wq_cut, mGo_c, mMask_t, mMask_f, mMask_n, kX5_isWord_62, kX5_isWord_56, kX5_isWord_28, kX5_isWord_26, kX5_isWord_24, kX5_isWord_0, sk_100, al_100, ↓SX5_isWord_0, ↓shqRI_, ↓spX5_signAt, mrg, mrl, mSet_ap, ncast, Option.some.injEq, hWr, hWs, k6, k7, k8]
    (try simp only [mrg, mrl] at *) <;> repeat' (first | (with_reducible assumption) | (with_reducible apply And.intro) | intro _)
    all_goals first | omega | exact hno () (by omega) | exact ⟨_, ⟨by omega, by omega⟩, 0, rfl, by omega, rfl, fun j j0 j1 => absurd j1 (by show ¬ j < ((0 : Nat) : Int); omega)⟩ | skip
theorem ctrX5_isWord {l : Launch} (hst : l.stackTraces = false) (hT : mTxM l) : mCtr l calX5_isWord spX5_isWord :=
  mMet (T := TX5_isWord) (S := SX5_isWord) hst hT cutX5_isWord (by decide) okX5_isWord ⟨_, _, rfl, rfl⟩ trivial (fun t bs h => by rcases cutsX5_isWord h with ⟨-, rfl⟩ <;> rfl) (fun a => match a with
    | 0 => ctrX5_signAt hst hT
    | _ + 1 => mCtr_no) vcX5_isWord

/-- what a number that is read leaves with the class -/
def rnC (I' I : mM) (B : Int → Int) (n : Int) (r : rdR) : Prop := (∀ i, i ≠ 100 → I' i = I i) ∧ (∀ p : Int, ¬ (3 ≤ p ∧ p ≤ 10) ∨ p = 5 → I' 100 p = I 100 p) ∧ (r.1 ≠ 0 → I' 100 3 = r.1 ∧ I' 100 4 = r.2.1) ∧ (r.1 = 0 → tkC I' B n r.2.2.1 ∧ I' 100 10 = r.2.2.2 ∧ I' 100 3 = I 100 3 ∧ I' 100 4 = I 100 4)
theorem rnC.bad {I : mM} {B : Int → Int} {n a : Int} (h : tkC I B n a) {k : Int} (hk : k ≠ 0) (v : Int) : rnC (mSet (mSet I 100 3 (if I 100 7 = 4 then 1 else k)) 100 4 (I 100 8)) I B n (erT B n k a v) := by
  have ek : (erT B n k a v).1 ≠ 0 := by
    unfold erT
    dsimp only
    split <;> omega
  refine ⟨fun i hi => by rw [set_ne hi, set_ne hi], fun p hp => by rw [set_nq (by omega), set_nq (by omega)], fun _ => ⟨?_, ?_⟩, fun w => absurd w ek⟩
  · rw [set_nq (by decide), set_eq, h.2.2.1]
    rfl
  · rw [set_eq, h.2.1]
    rfl
def spX5_readNumber : mSp := shRII (fun _ i lo hi I Q => i = some 100 ∧ mrg lo ∧ mrg hi ∧ ∃ B n a, tpC I B n ∧ tkC I B n a ∧ (0 ≤ a ∧ a ≤ n) ∧ ∀ I' : mM, rnC I' I B n (numT B n lo hi a) → Q (.inl (some (mI (if (numT B n lo hi a).1 = 0 then 1 else 0)))) I')
def SX5_readNumber : Nat → mSp := fun a => match a with
  | 0 => spX5_fail
  | 1 => spX5_advance
  | _ => fun _ _ _ _ => False
theorem SX5_readNumber_0 : SX5_readNumber 0 = spX5_fail := Eq.trans rfl rfl
theorem SX5_readNumber_1 : SX5_readNumber 1 = spX5_advance := Eq.trans rfl rfl
set_option maxRecDepth 100000 in
set_option maxHeartbeats 1000000 in
theorem vcX5_readNumber (fl : Nat → Bool) (avs : List mV) (I : mM) (Q : mO → mM → Prop) (hsp : spX5_readNumber fl avs I Q) : mVC0 SX5_readNumber fl Q kX5_readNumber 3 avs I := by
  obtain ⟨i, lo, hi, rfl, h0⟩ := shRII_inv hsp
  obtain ⟨rfl, rl, rh, B, N, a, hT, hK, han, h⟩ := h0
  have tkb := tk_bd B N a
  have eb := en8 B han
  obtain ⟨k6, k8, k7, k9, k10⟩ := id hK
  refine ⟨rfl, ?_⟩
  show mWp _ _ _ _ _ _ kX5_readNumber_0 [some (mR (some 100)), some (mI lo), some (mI hi)] [] I
  by_cases z2 : tkT B N a = 2
  · have v := vl_bd z2 han.2
    have k9 := k9 z2
    by_cases z3 : lo ≤ vlT B N a ∧ vlT B N a ≤ hi
    · have e : numT B N lo hi a = (0, 0, enT B N a, vlT B N a) := by
        unfold numT
        rw [if_neg (fun w => w z2), if_neg (fun w => w z3)]
      rw [e, if_pos rfl] at h
      have T1 : tpC (mSet I 100 10 (vlT B N a)) B N := ⟨by rw [set_nq (by decide)]; exact hT.1, hT.2.1, fun j j0 j1 => by rw [set_ne (by decide)]; exact hT.2.2 j j0 j1⟩
      have h3 : ∀ I' : mM, frC I' (mSet I 100 10 (vlT B N a)) → tkC I' B N (enT B N a) → Q (.inl (some (mI 1))) I' := fun I' f k => h I' ⟨fun i hi => by rw [f.1 i hi, set_ne hi], fun p hp => by rw [f.2 p (by omega), set_nq (by omega)], fun w => absurd rfl w, fun _ => ⟨k, by rw [f.2 10 (by decide), set_eq], by rw [f.2 3 (by decide), set_nq (by decide)], by rw [f.2 4 (by decide), set_nq (by decide)]⟩⟩
      clear h
      simp only [false_and, and_false, true_or, or_true, false_or, or_false, true_and, and_true, true_implies, false_implies, implies_true, not_true_eq_false, not_false_eq_true, and_self, List.length_cons, List.length_nil, mNoCut_, mCat_n, mCat_I, mCat_L, mCat_R, mIsL_n, mIsL_I, mIsL_R, mIsL_L, Nat.reduceAdd, Nat.reduceSub, Nat.reduceLeDiff, Nat.reduceLT, Nat.reduceEqDiff, Nat.zero_le, Int.reduceEq, Int.reduceLT, Int.reduceLE, Int.reduceNeg, Int.reduceAdd, if_true, if_false, reduceIte, reduceCtorEq, Bool.false_eq_true, ne_eq, qCmp_0, qCmp_1, qCmp_2, qCmp_3, qCmp_4, qCmp_5, ib_0, ib_1, ib_2, lb_0, lb_1, lb_2, dv_0, dv_1, wq_ic, wq_ld_i, wq_ld_a, wq_icmp, wq_get, mGet_0, mGet_1, mGet_2, mGet_3, wq_putI, wq_putL, wq_ret0, wq_ret1, wq_ret2, wq_ret3, wq_ret4, ldR0, fk_5_7, mrg_2_, wq_callV2_0, fk_5_9, ldI1, ldI2, mrg_3_, fk_5_10, wq_callV1_0, mrg_1_, mGo_n, sfxX5_readNumber_14, cutX5_readNumber_14, sfxX5_readNumber_30, cutX5_readNumber_30, sfxX5_readNumber_36, cutX5_readNumber_36, kX5_readNumber_36, kX5_readNumber_30, kX5_readNumber_14, kX5_readNumber_0, sk_100, al_100, ↓SX5_readNumber_0, ↓SX5_readNumber_1, ↓shqRI_, ↓shqR_, ↓spX5_fail, ↓spX5_advance, mrg, mrl, mSet_ap, ncast, Option.some.injEq, k7, z2, k9]
      exact ⟨⟨⟨by omega, by omega⟩, rl⟩, fun y => by omega, fun _ => ⟨⟨⟨by omega, by omega⟩, rh⟩, fun _ => ⟨B, N, enT B N a, T1, k6, ⟨by omega, by omega⟩, h3⟩, fun y => absurd z3.2 y⟩⟩
    · have e : numT B N lo hi a = erT B N 3 a lo := by
        unfold numT
        rw [if_neg (fun w => w z2), if_pos z3]
      rw [e] at h
      have h3 := h _ (rnC.bad hK (by decide) lo)
      have e3 : erT B N 3 a lo = (3, bgT B N a, a, lo) := by
        unfold erT
        rw [if_neg (by omega)]
      rw [e3, if_neg (show ¬ (3 : Int) = 0 by decide), k7, z2] at h3
      clear h
      simp only [false_and, and_false, true_or, or_true, false_or, or_false, true_and, and_true, true_implies, false_implies, implies_true, not_true_eq_false, not_false_eq_true, and_self, List.length_cons, List.length_nil, mNoCut_, mCat_n, mCat_I, mCat_L, mCat_R, mIsL_n, mIsL_I, mIsL_R, mIsL_L, Nat.reduceAdd, Nat.reduceSub, Nat.reduceLeDiff, Nat.reduceLT, Nat.reduceEqDiff, Nat.zero_le, Int.reduceEq, Int.reduceLT, Int.reduceLE, Int.reduceNeg, Int.reduceAdd, if_true, if_false, reduceIte, reduceCtorEq, Bool.false_eq_true, ne_eq, qCmp_0, qCmp_1, qCmp_2, qCmp_3, qCmp_4, qCmp_5, ib_0, ib_1, ib_2, lb_0, lb_1, lb_2, dv_0, dv_1, wq_ic, wq_ld_i, wq_ld_a, wq_icmp, wq_get, mGet_0, mGet_1, mGet_2, mGet_3, wq_putI, wq_putL, wq_ret0, wq_ret1, wq_ret2, wq_ret3, wq_ret4, ldR0, fk_5_7, mrg_2_, wq_callV2_0, fk_5_9, ldI1, ldI2, mrg_3_, fk_5_10, wq_callV1_0, mrg_1_, mGo_n, sfxX5_readNumber_14, cutX5_readNumber_14, sfxX5_readNumber_30, cutX5_readNumber_30, sfxX5_readNumber_36, cutX5_readNumber_36, kX5_readNumber_36, kX5_readNumber_30, kX5_readNumber_14, kX5_readNumber_0, sk_100, al_100, ↓SX5_readNumber_0, ↓SX5_readNumber_1, ↓shqRI_, ↓shqR_, ↓spX5_fail, ↓spX5_advance, mrg, mrl, mSet_ap, ncast, Option.some.injEq, k7, z2, k9]
      (try simp only [mrg, mrl] at *) <;> repeat' (first | (with_reducible assumption) | (with_reducible apply And.intro) | intro _)
      all_goals first | omega | exact h3 | skip
  · have e : numT B N lo hi a = erT B N 2 a lo := by
      unfold numT
      rw [if_pos z2]
    rw [e] at h
    have h3 := h _ (rnC.bad hK (by decide) lo)
    have e0 : ¬ (erT B N 2 a lo).1 = 0 := by
      unfold erT
      dsimp only
      split <;> omega
    rw [if_neg e0, k7] at h3
    clear h
    simp only [false_and, and_false, true_or, or_true, false_or, or_false, true_and, and_true, true_implies, false_implies, implies_true, not_true_eq_false, not_false_eq_true, and_self, List.length_cons, List.length_nil, mNoCut_, mCat_n, mCat_I, mCat_L, mCat_R, mIsL_n, mIsL_I, mIsL_R, mIsL_L, Nat.reduceAdd, Nat.reduceSub, Nat.reduceLeDiff, Nat.reduceLT, Nat.reduceEqDiff, Nat.zero_le, Int.reduceEq, Int.reduceLT, Int.reduceLE, Int.reduceNeg, Int.reduceAdd, if_true, if_false, reduceIte, reduceCtorEq, Bool.false_eq_true, ne_eq, qCmp_0, qCmp_1, qCmp_2, qCmp_3, qCmp_4, qCmp_5, ib_0, ib_1, ib_2, lb_0, lb_1, lb_2, dv_0, dv_1, wq_ic, wq_ld_i, wq_ld_a, wq_icmp, wq_get, mGet_0, mGet_1, mGet_2, mGet_3, wq_putI, wq_putL, wq_ret0, wq_ret1, wq_ret2, wq_ret3, wq_ret4, ldR0, fk_5_7, mrg_2_, wq_callV2_0, fk_5_9, ldI1, ldI2, mrg_3_, fk_5_10, wq_callV1_0, mrg_1_, mGo_n, sfxX5_readNumber_14, cutX5_readNumber_14, sfxX5_readNumber_30, cutX5_readNumber_30, sfxX5_readNumber_36, cutX5_readNumber_36, kX5_readNumber_36, kX5_readNumber_30, kX5_readNumber_14, kX5_readNumber_0, sk_100, al_100, ↓SX5_readNumber_0, ↓SX5_readNumber_1, ↓shqRI_, ↓shqR_, ↓spX5_fail, ↓spX5_advance, mrg, mrl, mSet_ap, ncast, Option.some.injEq, k7, z2]
    (try simp only [mrg, mrl] at *) <;> repeat' (first | (with_reducible assumption) | (with_reducible apply And.intro) | intro _)
    all_goals first | omega | exact h3 | skip
theorem ctrX5_readNumber {l : Launch} (hst : l.stackTraces = false) (hT : mTxM l) : mCtr l calX5_readNumber spX5_readNumber :=
  mMet0 (T := TX5_readNumber) (S := SX5_readNumber) hst hT (by decide) okX5_readNumber ⟨_, _, rfl, rfl⟩ (fun a => match a with
    | 0 => ctrX5_fail hst hT
    | 1 => ctrX5_advance hst hT
    | _ + 2 => mCtr_no) vcX5_readNumber

/-- the word W, read -/
noncomputable def wdT (B : Int → Int) (n : Int) (w : Nat) (a : Int) : rdR := @ite rdR (isW B n w a) (Classical.propDecidable _) (0, 0, enT B n a, 0) (erT B n 2 a 0)
def sdT (B : Int → Int) (n a : Int) : rdR := if tkT B n a = 3 then (0, 0, enT B n a, 0) else erT B n 2 a 0
def wnC (I' I : mM) (B : Int → Int) (n : Int) (r : rdR) : Prop := (∀ i, i ≠ 100 → I' i = I i) ∧ (∀ p : Int, ¬ (3 ≤ p ∧ p ≤ 9) ∨ p = 5 → I' 100 p = I 100 p) ∧ (r.1 ≠ 0 → I' 100 3 = r.1 ∧ I' 100 4 = r.2.1) ∧ (r.1 = 0 → tkC I' B n r.2.2.1 ∧ I' 100 3 = I 100 3 ∧ I' 100 4 = I 100 4)
theorem wnC.bad {I : mM} {B : Int → Int} {n a : Int} (h : tkC I B n a) : wnC (mSet (mSet I 100 3 (if I 100 7 = 4 then 1 else 2)) 100 4 (I 100 8)) I B n (erT B n 2 a 0) := by
  have q := rnC.bad h (k := 2) (by decide) 0
  have ek : (erT B n 2 a 0).1 ≠ 0 := by
    unfold erT
    dsimp only
    split <;> omega
  exact ⟨q.1, fun p hp => by rw [set_nq (by omega), set_nq (by omega)], q.2.2.1, fun w => absurd w ek⟩
theorem er_ne (B : Int → Int) (n a : Int) : ¬ (erT B n 2 a 0).1 = 0 := by
  unfold erT
  dsimp only
  split <;> omega
def spX5_readWord : mSp := shRR (fun _ i w I Q => i = some 100 ∧ ∃ W : Nat, w = some (250 + W) ∧ W < mTx.length ∧ mTxLen W ≤ 10 ∧ ∃ B n a, tpC I B n ∧ tkC I B n a ∧ (0 ≤ a ∧ a ≤ n) ∧ ∀ I' : mM, wnC I' I B n (wdT B n W a) → Q (.inl (some (mI (if (wdT B n W a).1 = 0 then 1 else 0)))) I')
def SX5_readWord : Nat → mSp := fun a => match a with
  | 0 => spX5_isWord
  | 1 => spX5_fail
  | 2 => spX5_advance
  | _ => fun _ _ _ _ => False
theorem SX5_readWord_0 : SX5_readWord 0 = spX5_isWord := Eq.trans rfl rfl
theorem SX5_readWord_1 : SX5_readWord 1 = spX5_fail := Eq.trans rfl rfl
theorem SX5_readWord_2 : SX5_readWord 2 = spX5_advance := Eq.trans rfl rfl
set_option maxRecDepth 100000 in
set_option maxHeartbeats 1000000 in
theorem vcX5_readWord (fl : Nat → Bool) (avs : List mV) (I : mM) (Q : mO → mM → Prop) (hsp : spX5_readWord fl avs I Q) : mVC0 SX5_readWord fl Q kX5_readWord 2 avs I := by
  obtain ⟨i, w, rfl, h0⟩ := shRR_inv hsp
  obtain ⟨rfl, W, rfl, hW, hL, B, N, a, hT, hK, han, h⟩ := h0
  have tkb := tk_bd B N a
  have eb := en8 B han
  obtain ⟨k6, k8, k7, k9, k10⟩ := id hK
  refine ⟨rfl, ?_⟩
  show mWp _ _ _ _ _ _ kX5_readWord_0 [some (mR (some 100)), some (mR (some (250 + W)))] [] I
  simp only [false_and, and_false, true_or, or_true, false_or, or_false, true_and, and_true, true_implies, false_implies, implies_true, not_true_eq_false, not_false_eq_true, and_self, List.length_cons, List.length_nil, mNoCut_, mCat_n, mCat_I, mCat_L, mCat_R, mIsL_n, mIsL_I, mIsL_R, mIsL_L, Nat.reduceAdd, Nat.reduceSub, Nat.reduceLeDiff, Nat.reduceLT, Nat.reduceEqDiff, Nat.zero_le, Int.reduceEq, Int.reduceLT, Int.reduceLE, Int.reduceNeg, Int.reduceAdd, if_true, if_false, reduceIte, reduceCtorEq, Bool.false_eq_true, ne_eq, qCmp_0, qCmp_1, qCmp_2, qCmp_3, qCmp_4, qCmp_5, ib_0, ib_1, ib_2, lb_0, lb_1, lb_2, dv_0, dv_1, wq_ic, wq_ld_a, wq_if, wq_ret0, wq_ret1, wq_ret2, wq_ret3, wq_ret4, ldR0, ldR1, wq_callV2_0, mrg_2_, wq_callV1_0, mrg_1_, mrg_0_, mGo_n, sfxX5_readWord_14, cutX5_readWord_14, kX5_readWord_14, kX5_readWord_0, sk_100, al_100, ↓SX5_readWord_0, ↓SX5_readWord_1, ↓SX5_readWord_2, ↓shqRR_, ↓shqRI_, ↓shqR_, ↓spX5_isWord, ↓spX5_fail, ↓spX5_advance, mrg, mrl, mSet_ap, ncast, Option.some.injEq]
  refine ⟨W, rfl, hW, hL, B, N, a, hT, hK, han, fun w => ?_, fun w => ?_⟩
  · rw [show wdT B N W a = (0, 0, enT B N a, 0) from if_pos w, if_pos rfl] at h
    exact ⟨B, N, enT B N a, hT, k6, ⟨by omega, by omega⟩, fun I' f k => h I' ⟨f.1, fun p hp => f.2 p (by omega), fun w => absurd rfl w, fun _ => ⟨k, f.2 3 (by decide), f.2 4 (by decide)⟩⟩⟩
  · rw [show wdT B N W a = erT B N 2 a 0 from if_neg w, if_neg (er_ne B N a)] at h
    have h3 := h _ (wnC.bad hK)
    rw [k7] at h3 ⊢
    exact ⟨⟨by omega, by omega⟩, h3⟩
theorem ctrX5_readWord {l : Launch} (hst : l.stackTraces = false) (hT : mTxM l) : mCtr l calX5_readWord spX5_readWord :=
  mMet0 (T := TX5_readWord) (S := SX5_readWord) hst hT (by decide) okX5_readWord ⟨_, _, rfl, rfl⟩ (fun a => match a with
    | 0 => ctrX5_isWord hst hT
    | 1 => ctrX5_fail hst hT
    | 2 => ctrX5_advance hst hT
    | _ + 3 => mCtr_no) vcX5_readWord

def spX5_readSign : mSp := shR (fun _ i I Q => i = some 100 ∧ ∃ B n a, tpC I B n ∧ tkC I B n a ∧ (0 ≤ a ∧ a ≤ n) ∧ ∀ I' : mM, wnC I' I B n (sdT B n a) → Q (.inl (some (mI (if (sdT B n a).1 = 0 then 1 else 0)))) I')
def SX5_readSign : Nat → mSp := fun a => match a with
  | 0 => spX5_fail
  | 1 => spX5_advance
  | _ => fun _ _ _ _ => False
theorem SX5_readSign_0 : SX5_readSign 0 = spX5_fail := Eq.trans rfl rfl
theorem SX5_readSign_1 : SX5_readSign 1 = spX5_advance := Eq.trans rfl rfl
set_option maxRecDepth 100000 in
set_option maxHeartbeats 1000000 in
theorem vcX5_readSign (fl : Nat → Bool) (avs : List mV) (I : mM) (Q : mO → mM → Prop) (hsp : spX5_readSign fl avs I Q) : mVC0 SX5_readSign fl Q kX5_readSign 1 avs I := by
  obtain ⟨i, rfl, h0⟩ := shR_inv hsp
  obtain ⟨rfl, B, N, a, hT, hK, han, h⟩ := h0
  have tkb := tk_bd B N a
  have eb := en8 B han
  obtain ⟨k6, k8, k7, k9, k10⟩ := id hK
  refine ⟨rfl, ?_⟩
  show mWp _ _ _ _ _ _ kX5_readSign_0 [some (mR (some 100))] [] I
  by_cases w : tkT B N a = 3
  · rw [show sdT B N a = (0, 0, enT B N a, 0) from if_pos w, if_pos rfl] at h
    simp only [false_and, and_false, true_or, or_true, false_or, or_false, true_and, and_true, true_implies, false_implies, implies_true, not_true_eq_false, not_false_eq_true, and_self, List.length_cons, List.length_nil, mNoCut_, mCat_n, mCat_I, mCat_L, mCat_R, mIsL_n, mIsL_I, mIsL_R, mIsL_L, Nat.reduceAdd, Nat.reduceSub, Nat.reduceLeDiff, Nat.reduceLT, Nat.reduceEqDiff, Nat.zero_le, Int.reduceEq, Int.reduceLT, Int.reduceLE, Int.reduceNeg, Int.reduceAdd, if_true, if_false, reduceIte, reduceCtorEq, Bool.false_eq_true, ne_eq, qCmp_0, qCmp_1, qCmp_2, qCmp_3, qCmp_4, qCmp_5, ib_0, ib_1, ib_2, lb_0, lb_1, lb_2, dv_0, dv_1, wq_ic, wq_ld_a, wq_icmp, wq_get, mGet_0, mGet_1, mGet_2, mGet_3, wq_ret0, wq_ret1, wq_ret2, wq_ret3, wq_ret4, ldR0, fk_5_7, mrg_3_, mrg_2_, wq_callV2_0, wq_callV1_0, mrg_1_, mGo_n, sfxX5_readSign_14, cutX5_readSign_14, kX5_readSign_14, kX5_readSign_0, sk_100, al_100, ↓SX5_readSign_0, ↓SX5_readSign_1, ↓shqRI_, ↓shqR_, ↓spX5_fail, ↓spX5_advance, mrg, mrl, mSet_ap, ncast, Option.some.injEq, k7, w]
    exact ⟨B, N, enT B N a, hT, k6, ⟨by omega, by omega⟩, fun I' f k => h I' ⟨f.1, fun p hp => f.2 p (by omega), fun w => absurd rfl w, fun _ => ⟨k, f.2 3 (by decide), f.2 4 (by decide)⟩⟩⟩
  · rw [show sdT B N a = erT B N 2 a 0 from if_neg w, if_neg (er_ne B N a)] at h
    have h3 := h _ (wnC.bad hK)
    rw [k7] at h3
    simp only [false_and, and_false, true_or, or_true, false_or, or_false, true_and, and_true, true_implies, false_implies, implies_true, not_true_eq_false, not_false_eq_true, and_self, List.length_cons, List.length_nil, mNoCut_, mCat_n, mCat_I, mCat_L, mCat_R, mIsL_n, mIsL_I, mIsL_R, mIsL_L, Nat.reduceAdd, Nat.reduceSub, Nat.reduceLeDiff, Nat.reduceLT, Nat.reduceEqDiff, Nat.zero_le, Int.reduceEq, Int.reduceLT, Int.reduceLE, Int.reduceNeg, Int.reduceAdd, if_true, if_false, reduceIte, reduceCtorEq, Bool.false_eq_true, ne_eq, qCmp_0, qCmp_1, qCmp_2, qCmp_3, qCmp_4, qCmp_5, ib_0, ib_1, ib_2, lb_0, lb_1, lb_2, dv_0, dv_1, wq_ic, wq_ld_a, wq_icmp, wq_get, mGet_0, mGet_1, mGet_2, mGet_3, wq_ret0, wq_ret1, wq_ret2, wq_ret3, wq_ret4, ldR0, fk_5_7, mrg_3_, mrg_2_, wq_callV2_0, wq_callV1_0, mrg_1_, mGo_n, sfxX5_readSign_14, cutX5_readSign_14, kX5_readSign_14, kX5_readSign_0, sk_100, al_100, ↓SX5_readSign_0, ↓SX5_readSign_1, ↓shqRI_, ↓shqR_, ↓spX5_fail, ↓spX5_advance, mrg, mrl, mSet_ap, ncast, Option.some.injEq, k7, w]
    exact ⟨⟨by omega, by omega⟩, ⟨by omega, by omega⟩, h3⟩
theorem ctrX5_readSign {l : Launch} (hst : l.stackTraces = false) (hT : mTxM l) : mCtr l calX5_readSign spX5_readSign :=
  mMet0 (T := TX5_readSign) (S := SX5_readSign) hst hT (by decide) okX5_readSign ⟨_, _, rfl, rfl⟩ (fun a => match a with
    | 0 => ctrX5_fail hst hT
    | 1 => ctrX5_advance hst hT
    | _ + 2 => mCtr_no) vcX5_readSign

end SPC35
