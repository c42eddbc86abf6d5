section SPC29
theorem oneGo_no {t : Int → Int} {f b w : Int} (h : ∀ c : Int, 0 ≤ c → c < 289 → judgeT (putT t f c) ≠ -1) : ∀ n : Nat, n ≤ 289 → oneGo t f b w n = (-1, w)
  | 0, _ => rfl
  | n + 1, hn => by
    have ih := oneGo_no (b := b) (w := w) h n (by omega)
    have e : oneGo t f b w (n + 1) = if judgeT (putT t f n) = -1 ∧ ((oneGo t f b w n).1 = -1 ∨ meanT (putT t f n) b < (oneGo t f b w n).2) then ((n : Int), meanT (putT t f n) b) else oneGo t f b w n := rfl
    rw [e, if_neg (fun z => h n (by omega) (by omega) z.1), ih]
def spX2_bestCell : mSp := shRI (fun _ i f I Q => i = some 140 ∧ (0 ≤ f ∧ f < 9) ∧ ∃ t b, ctxU I t b ∧ (∀ g : Int, 0 ≤ g → g < 9 → I 20 g = stT t g) ∧ ∀ I' : mM, (∀ i, ¬ (i = 130 ∨ (140 ≤ i ∧ i ≤ 149)) → I' i = I i) → ((oneT t f b 0).1 ≠ -1 → I' 140 15 = (oneT t f b 0).2) → Q (.inl (some (mI (oneT t f b 0).1))) I')
def SX2_bestCell : Nat → mSp := fun a => match a with
  | 0 => spX10_copyRow
  | 1 => spX9_verdict
  | 2 => spX2_weighOthers
  | 3 => spX2_mayGo
  | 4 => spX2_topWith
  | _ => fun _ _ _ _ => False
theorem SX2_bestCell_0 : SX2_bestCell 0 = spX10_copyRow := Eq.trans rfl rfl
theorem SX2_bestCell_1 : SX2_bestCell 1 = spX9_verdict := Eq.trans rfl rfl
theorem SX2_bestCell_2 : SX2_bestCell 2 = spX2_weighOthers := Eq.trans rfl rfl
theorem SX2_bestCell_3 : SX2_bestCell 3 = spX2_mayGo := Eq.trans rfl rfl
theorem SX2_bestCell_4 : SX2_bestCell 4 = spX2_topWith := Eq.trans rfl rfl
theorem cutsX2_bestCell {t : Nat} {bs : List Bool} (h : cutX2_bestCell t = some bs) : (t = 56 ∧ bs = [true, true, true, true, false, false]) := by
  unfold cutX2_bestCell at h
  simp only [mLk] at h
  by_cases h0 : 56 = t
  · subst h0
    simp at h
    exact ⟨rfl, h.symm⟩
  rw [if_neg h0] at h
  cases h
set_option maxRecDepth 100000 in
set_option maxHeartbeats 1000000 in
theorem vcX2_bestCell (fl : Nat → Bool) (avs : List mV) (I : mM) (Q : mO → mM → Prop) (hsp : spX2_bestCell fl avs I Q) : mVC SX2_bestCell fl Q kX2_bestCell cutX2_bestCell 6 avs I := by
  obtain ⟨i, f, rfl, h0⟩ := shRI_inv hsp
  obtain ⟨rfl, hf, t, b, H, h20, h⟩ := h0
  have hn := H.1.2.1 b H.2.1.1 H.2.1.2
  have e0 := H.2.2.1.1
  have g1 := H.2.2.2.2 1 (by omega) (by omega)
  have g4 := H.2.2.2.2 4 (by omega) (by omega)
  have g5 := H.2.2.2.2 5 (by omega) (by omega)
  have h11 := H.1.1
  obtain ⟨O, hOd⟩ : ∃ O, O = mSet (mCpy I 20 141 0 0 9) 141 f (-1) 141 := ⟨_, rfl⟩
  have hO : ∀ g : Int, 0 ≤ g → g < 9 → O g = updS (stT t) f (-1) g := fun g g0 g1 => by
    rw [hOd]
    by_cases q : g = f
    · rw [q, set_eq, updS_eq]
    · rw [set_nq q, mCpy_at _ _ _ _ ⟨by omega, by omega⟩, show (0 : Int) + (g - 0) = g by omega, h20 g g0 g1, updS_ne _ _ q]
  have hOf : O f = -1 := by rw [hO f hf.1 hf.2, updS_eq]
  have hB : stB O := fun g g0 g1 => by
    rw [hO g g0 g1]
    have := H.1.st g g0 g1
    simp only [updS]
    split <;> omega
  have up : ∀ c : Int, stR t (updS O f c) = putT t f c := fun c => by
    rw [put_as t c hf]
    refine stR_cong _ (fun g g0 g1 => ?_)
    by_cases q : g = f
    · rw [q, updS_eq, updS_eq]
    · rw [updS_ne _ _ q, updS_ne _ _ q, hO g g0 g1, updS_ne _ _ q]
  have law : ∀ c : Int, 0 ≤ c → (judgeT (putT t f c) = -1 ↔ (verdU (I 11) O = -1 ∧ mayT (I 11) c ∧ ¬ (c % 17 < 8 ∧ I 11 4 ≤ leftU O 9) ∧ ∀ g : Int, 0 ≤ g → g < 9 → O g ≠ c)) := fun c c0 => by
    rw [← up c, ← verd_eq H.1 H.2.2.2.2]
    exact law_upd (by rw [g4]; omega) hOf c0 hf
  refine ⟨rfl, (fun m pc lv st I1 => st = [] ∧ ∃ j : Nat, lv = [some (mR (some 140)), some (mI f), some (mI (oneGo t f b 0 j).1), some (mI j), none, none] ∧ j ≤ 289 ∧ m = 289 - j ∧ (∀ i, ¬ (i = 130 ∨ (140 ≤ i ∧ i ≤ 149)) → I1 i = I i) ∧ I1 141 = O ∧ (∀ h : Int, hitB t b h → Wd I1 t O b h) ∧ I1 140 14 = leftU O 9 ∧ ((oneGo t f b 0 j).1 ≠ -1 → I1 140 15 = (oneGo t f b 0 j).2) ∧ verdU (I 11) O = -1 ∧ t (13 + b) ≠ 0), ?_, ?_⟩
  · intro n t bs hbs lv st I1 hc
    rcases cutsX2_bestCell hbs with ⟨rfl, rfl⟩
    rw [sfxX2_bestCell_56]
    obtain ⟨rfl, j, rfl, hj, hm, hF, e141, hW, e14, e15, hV, hn0⟩ := hc
    have n11 := hF 11 (by omega)
    have HC : ctxU I1 t b := ctxU_of (fun i hi => hF i (by omega)) H
    have os : oneGo t f b 0 (j + 1) = if judgeT (putT t f j) = -1 ∧ ((oneGo t f b 0 j).1 = -1 ∨ meanT (putT t f j) b < (oneGo t f b 0 j).2) then ((j : Int), meanT (putT t f j) b) else oneGo t f b 0 j := rfl
    have ob := oneGo_bd t f b 0 j
    have om := oneGo_mean t f b 0 j
    rcases Nat.lt_or_ge j 289 with z | z
    · trace_state
      sorry
    · have e : j = 289 := by omega
      subst e
      have oT : oneT t f b 0 = oneGo t f b 0 289 := if_neg hn0
      have h2 := h I1 hF (by rw [oT]; exact e15)
      rw [oT] at h2
      clear h om hW e15
      simp only [false_and, and_false, true_or, or_true, false_or, or_false, true_and, and_true, true_implies, false_implies, implies_true, not_true_eq_false, not_false_eq_true, and_self, List.length_cons, List.length_nil, mNoCut_, mCat_n, mCat_I, mCat_L, mCat_R, mIsL_n, mIsL_I, mIsL_R, mIsL_L, Nat.reduceAdd, Nat.reduceSub, Nat.reduceLeDiff, Nat.reduceLT, Nat.reduceEqDiff, Nat.zero_le, Int.reduceEq, Int.reduceLT, Int.reduceLE, Int.reduceNeg, Int.reduceAdd, if_true, if_false, reduceIte, reduceCtorEq, Bool.false_eq_true, ne_eq, qCmp_0, qCmp_1, qCmp_2, qCmp_3, qCmp_4, qCmp_5, ib_0, ib_1, ib_2, lb_0, lb_1, lb_2, dv_0, dv_1, wq_ic, wq_ld_i, wq_ld_l, wq_ld_a, wq_st_i, wq_st_l, wq_iinc, wq_icmp, wq_if, wq_lcmp, wq_goto, wq_get, mGet_0, mGet_1, mGet_2, mGet_3, wq_putI, wq_putL, wq_astI, wq_astL, wq_ret0, wq_ret1, wq_ret2, wq_ret3, wq_ret4, ldR0, fk_2_1, fk_6_0, fk_2_4, wq_callS2_3, ldI1, mrg_m1_, fk_2_2, fk_0_0, fk_2_3, wq_callV2_0, wq_callV1_0, stI2, mrg_0_, stI3, ldI3, mrg_289_, wq_callV3_0, stL4, ldI2, ldL4, fk_2_15, wqinc3, mPut_s, mPut_I0, mPut_R0, mPut_L0, mPut_I1, mPut_R1, mPut_L1, mGo_n, sfxX2_bestCell_46, cutX2_bestCell_46, sfxX2_bestCell_48, cutX2_bestCell_48, sfxX2_bestCell_56, cutX2_bestCell_56, sfxX2_bestCell_74, cutX2_bestCell_74, sfxX2_bestCell_97, cutX2_bestCell_97, sfxX2_bestCell_105, cutX2_bestCell_105, sfxX2_bestCell_111, cutX2_bestCell_111, wq_cut, mGo_c, mMask_t, mMask_f, mMask_n, kX2_bestCell_111, kX2_bestCell_105, kX2_bestCell_97, kX2_bestCell_74, kX2_bestCell_56, kX2_bestCell_48, kX2_bestCell_46, kX2_bestCell_0, sk_120, al_120, sk_140, al_140, rf_140_1, sk_12, al_12, rf_140_4, sk_141, al_141, sn_141, rf_140_2, rf_140_3, sk_130, al_130, rf_12_0, sk_20, al_20, sn_20, sk_0, al_0, SX2_bestCell_0, SX2_bestCell_1, SX2_bestCell_2, SX2_bestCell_3, SX2_bestCell_4, shqRR_, shqR_, shqRI_, shqRII_, spX10_copyRow, spX9_verdict, spX2_weighOthers, spX2_mayGo, spX2_topWith, mrg, mrl, mSet_ap, ncast, Option.some.injEq]
      (try simp only [mrg, mrl] at *) <;> repeat' (first | (with_reducible assumption) | (with_reducible apply And.intro) | intro _)
      all_goals first | omega | exact h2 | skip
      trace_state
      sorry
  · show mWp _ _ _ _ _ _ kX2_bestCell_0 [some (mR (some 140)), some (mI f), none, none, none, none] [] I
    have lb := leftU_bd O 9
    have n20 : mSet (mCpy I 20 141 0 0 9) 141 f (-1) 20 = I 20 := by
      rw [set_ne (by decide), mCpy_ne _ _ _ _ (by decide)]
    have e9 : min (9 : Int) 9 = 9 := rfl
    trace_state
    sorry
theorem ctrX2_bestCell {l : Launch} (hst : l.stackTraces = false) (hT : mTxM l) : mCtr l calX2_bestCell spX2_bestCell :=
  mMet (T := TX2_bestCell) (S := SX2_bestCell) hst hT cutX2_bestCell (by decide) okX2_bestCell ⟨_, _, rfl, rfl⟩ trivial (fun t bs h => by rcases cutsX2_bestCell h with ⟨-, rfl⟩ <;> rfl) (fun a => match a with
    | 0 => ctrX10_copyRow hst hT
    | 1 => ctrX9_verdict hst hT
    | 2 => ctrX2_weighOthers hst hT
    | 3 => ctrX2_mayGo hst hT
    | 4 => ctrX2_topWith hst hT
    | _ + 5 => mCtr_no) vcX2_bestCell

end SPC29
