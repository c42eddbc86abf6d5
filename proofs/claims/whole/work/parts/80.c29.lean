section SPC29
theorem oneGo_no {t : Int → Int} {f b w : Int} (h : ∀ c : Int, 0 ≤ c → c < 289 → judgeT (putT t f c) ≠ -1) : ∀ n : Nat, n ≤ 289 → oneGo t f b w n = (-1, w)
  | 0, _ => rfl
  | n + 1, hn => by
    have ih := oneGo_no (b := b) (w := w) h n (by omega)
    have e : oneGo t f b w (n + 1) = if judgeT (putT t f n) = -1 ∧ ((oneGo t f b w n).1 = -1 ∨ meanT (putT t f n) b < (oneGo t f b w n).2) then ((n : Int), meanT (putT t f n) b) else oneGo t f b w n := rfl
    rw [e, if_neg (fun z => h n (by omega) (by omega) z.1), ih]
def spX2_bestCell : mSp := shRI (fun _ i f I Q => i = some 140 ∧ (0 ≤ f ∧ f < 9) ∧ ∃ t b, ctxU I t b ∧ (∀ g : Int, 0 ≤ g → g < 9 → I 20 g = stT t g) ∧ ∀ I' : mM, (∀ i, ¬ (i = 130 ∨ (140 ≤ i ∧ i ≤ 149)) → I' i = I i) → ((oneT t f b 0).1 ≠ -1 → I' 140 15 = (oneT t f b 0).2) → Q (.inl (some (mI (oneT t f b 0).1))) I')
def SX2_bestCell : Nat → mSp := fun a => match a with
  | 0 => spX10_copyRow
  | 1 => spX9_verdict
  | 2 => spX2_weighOthers
  | 3 => spX2_mayGo
  | 4 => spX2_topWith
  | _ => fun _ _ _ _ => False
theorem SX2_bestCell_0 : SX2_bestCell 0 = spX10_copyRow := Eq.trans rfl rfl
theorem SX2_bestCell_1 : SX2_bestCell 1 = spX9_verdict := Eq.trans rfl rfl
theorem SX2_bestCell_2 : SX2_bestCell 2 = spX2_weighOthers := Eq.trans rfl rfl
theorem SX2_bestCell_3 : SX2_bestCell 3 = spX2_mayGo := Eq.trans rfl rfl
theorem SX2_bestCell_4 : SX2_bestCell 4 = spX2_topWith := Eq.trans rfl rfl
theorem cutsX2_bestCell {t : Nat} {bs : List Bool} (h : cutX2_bestCell t = some bs) : (t = 56 ∧ bs = [true, true, true, true, false, false]) := by
  unfold cutX2_bestCell at h
  simp only [mLk] at h
  by_cases h0 : 56 = t
  · subst h0
    simp at h
    exact ⟨rfl, h.symm⟩
  rw [if_neg h0] at h
  cases h
set_option maxRecDepth 100000 in
set_option maxHeartbeats 1000000 in
theorem vcX2_bestCell (fl : Nat → Bool) (avs : List mV) (I : mM) (Q : mO → mM → Prop) (hsp : spX2_bestCell fl avs I Q) : mVC SX2_bestCell fl Q kX2_bestCell cutX2_bestCell 6 avs I := by
  obtain ⟨i, f, rfl, h0⟩ := shRI_inv hsp
  obtain ⟨rfl, hf, t, b, H, h20, h⟩ := h0
  have hn := H.1.2.1 b H.2.1.1 H.2.1.2
  have e0 := H.2.2.1.1
  have g1 := H.2.2.2.2 1 (by omega) (by omega)
  have g4 := H.2.2.2.2 4 (by omega) (by omega)
  have g5 := H.2.2.2.2 5 (by omega) (by omega)
  have h11 := H.1.1
  obtain ⟨O, hOd⟩ : ∃ O, O = mSet (mCpy I 20 141 0 0 9) 141 f (-1) 141 := ⟨_, rfl⟩
  have hO : ∀ g : Int, 0 ≤ g → g < 9 → O g = updS (stT t) f (-1) g := fun g g0 g1 => by
    rw [hOd]
    by_cases q : g = f
    · rw [q, set_eq, updS_eq]
    · rw [set_nq q, mCpy_at _ _ _ _ ⟨by omega, by omega⟩, show (0 : Int) + (g - 0) = g by omega, h20 g g0 g1, updS_ne _ _ q]
  have hOf : O f = -1 := by rw [hO f hf.1 hf.2, updS_eq]
  have hB : stB O := fun g g0 g1 => by
    rw [hO g g0 g1]
    have := H.1.st g g0 g1
    simp only [updS]
    split <;> omega
  have up : ∀ c : Int, stR t (updS O f c) = putT t f c := fun c => by
    rw [put_as t c hf]
    refine stR_cong _ (fun g g0 g1 => ?_)
    by_cases q : g = f
    · rw [q, updS_eq, updS_eq]
    · rw [updS_ne _ _ q, updS_ne _ _ q, hO g g0 g1, updS_ne _ _ q]
  have law : ∀ c : Int, 0 ≤ c → (judgeT (putT t f c) = -1 ↔ (verdU (I 11) O = -1 ∧ mayT (I 11) c ∧ ¬ (c % 17 < 8 ∧ I 11 4 ≤ leftU O 9) ∧ ∀ g : Int, 0 ≤ g → g < 9 → O g ≠ c)) := fun c c0 => by
    rw [← up c, ← verd_eq H.1 H.2.2.2.2]
    exact law_upd (by rw [g4]; omega) hOf c0 hf
  refine ⟨rfl, (fun m pc lv st I1 => st = [] ∧ ∃ j : Nat, lv = [some (mR (some 140)), some (mI f), some (mI (oneGo t f b 0 j).1), some (mI j), none, none] ∧ j ≤ 289 ∧ m = 289 - j ∧ (∀ i, ¬ (i = 130 ∨ (140 ≤ i ∧ i ≤ 149)) → I1 i = I i) ∧ I1 141 = O ∧ (∀ h : Int, hitB t b h → Wd I1 t O b h) ∧ I1 140 14 = leftU O 9 ∧ ((oneGo t f b 0 j).1 ≠ -1 → I1 140 15 = (oneGo t f b 0 j).2) ∧ verdU (I 11) O = -1 ∧ t (13 + b) ≠ 0), ?_, ?_⟩
  · intro n t bs hbs lv st I1 hc
    rcases cutsX2_bestCell hbs with ⟨rfl, rfl⟩
    rw [sfxX2_bestCell_56]
    obtain ⟨rfl, j, rfl, hj, hm, hF, e141, hW, e14, e15, hV, hn0⟩ := hc
    have n11 := hF 11 (by omega)
    have HC : ctxU I1 t b := ctxU_of (fun i hi => hF i (by omega)) H
    have os : oneGo t f b 0 (j + 1) = if judgeT (putT t f j) = -1 ∧ ((oneGo t f b 0 j).1 = -1 ∨ meanT (putT t f j) b < (oneGo t f b 0 j).2) then ((j : Int), meanT (putT t f j) b) else oneGo t f b 0 j := rfl
    have ob := oneGo_bd t f b 0 j
    have om := oneGo_mean t f b 0 j
    rcases Nat.lt_or_ge j 289 with z | z
    · have hlt : 289 - (j + 1) < n := by
        rw [hm]
        exact Nat.sub_lt_sub_left z (Nat.lt_succ_self j)
      have hj1 : j + 1 ≤ 289 := z
      have lj := law j (by omega)
      have mj := meanT_bd (H.1.put (f := f) (c := j) hf ⟨by omega, by omega⟩) H.2.1
      have mk : ∀ _ : Unit, (oneGo t f b 0 j).1 ≠ -1 → -1568160000 ≤ I1 140 15 ∧ I1 140 15 ≤ 1568160000 := fun _ q => by
        obtain ⟨k, k1, k2, k3, k4⟩ := om q
        rw [e15 q, k3]
        exact meanT_bd (H.1.put (f := f) (c := k) hf ⟨by omega, by omega⟩) H.2.1
      have uj := up j
      have hY : ∀ _ : Unit, (mayT (I 11) j ∧ ¬ ((j : Int) % 17 < 8 ∧ I 11 4 ≤ leftU O 9) ∧ ∀ g : Int, 0 ≤ g → g < 9 → O g ≠ j) → ((oneGo t f b 0 j).1 = -1 ∨ meanT (putT t f j) b < I1 140 15) → ∃ n', n' < n ∧ ∃ j_1 : Nat, [some (mR (some 140)), some (mI f), some (mI j), some (mI ((j : Int) + 1)), none, none] = [some (mR (some 140)), some (mI f), some (mI (oneGo t f b 0 j_1).1), some (mI j_1), none, none] ∧ j_1 ≤ 289 ∧ n' = 289 - j_1 ∧ (∀ i, ¬ (i = 130 ∨ (140 ≤ i ∧ i ≤ 149)) → mSet I1 140 15 (meanT (putT t f j) b) i = I i) ∧ mSet I1 140 15 (meanT (putT t f j) b) 141 = O ∧ (∀ h : Int, hitB t b h → Wd (mSet I1 140 15 (meanT (putT t f j) b)) t O b h) ∧ (¬ (oneGo t f b 0 j_1).1 = -1 → meanT (putT t f j) b = (oneGo t f b 0 j_1).2) ∧ verdU (I 11) O = -1 ∧ t (13 + b) ≠ 0 := fun _ q1 q2 => by
        have ej : oneGo t f b 0 (j + 1) = ((j : Int), meanT (putT t f j) b) := by
          have c2 : (oneGo t f b 0 j).1 = -1 ∨ meanT (putT t f j) b < (oneGo t f b 0 j).2 := by
            by_cases y : (oneGo t f b 0 j).1 = -1
            · exact Or.inl y
            · rw [e15 y] at q2
              exact q2
          rw [os, if_pos ⟨lj.2 ⟨hV, q1⟩, c2⟩]
        refine ⟨289 - (j + 1), hlt, j + 1, by rw [ej]; rfl, hj1, rfl, fun i hi => by rw [set_ne (by omega)]; exact hF i hi, by rw [set_ne (by decide)]; exact e141, fun h hh => Wd_of (fun i i0 i1 => by rw [set_ne (by omega)]) (hW h hh), fun _ => by rw [ej], hV, hn0⟩
      have hN : ∀ _ : Unit, (¬ (mayT (I 11) j ∧ ¬ ((j : Int) % 17 < 8 ∧ I 11 4 ≤ leftU O 9) ∧ ∀ g : Int, 0 ≤ g → g < 9 → O g ≠ j) ∨ ¬ ((oneGo t f b 0 j).1 = -1 ∨ meanT (putT t f j) b < I1 140 15)) → ∃ n', n' < n ∧ ∃ j_1 : Nat, [some (mR (some 140)), some (mI f), some (mI (oneGo t f b 0 j).1), some (mI ((j : Int) + 1)), none, none] = [some (mR (some 140)), some (mI f), some (mI (oneGo t f b 0 j_1).1), some (mI j_1), none, none] ∧ j_1 ≤ 289 ∧ n' = 289 - j_1 ∧ (∀ i, ¬ (i = 130 ∨ (140 ≤ i ∧ i ≤ 149)) → I1 i = I i) ∧ I1 141 = O ∧ (∀ h : Int, hitB t b h → Wd I1 t O b h) ∧ (¬ (oneGo t f b 0 j_1).1 = -1 → I1 140 15 = (oneGo t f b 0 j_1).2) ∧ verdU (I 11) O = -1 ∧ t (13 + b) ≠ 0 := fun _ q => by
        have ej : oneGo t f b 0 (j + 1) = oneGo t f b 0 j := by
          rw [os, if_neg]
          rintro ⟨y1, y2⟩
          rcases q with q | q
          · exact q (lj.1 y1).2
          · refine q (y2.elim Or.inl (fun y3 => ?_))
            by_cases y : (oneGo t f b 0 j).1 = -1
            · exact Or.inl y
            · rw [e15 y]
              exact Or.inr y3
        exact ⟨289 - (j + 1), hlt, j + 1, by rw [ej]; rfl, hj1, rfl, hF, e141, hW, by rw [ej]; exact e15, hV, hn0⟩
      have e1o : I1 141 f = -1 := by rw [e141]; exact hOf
      have hB1 : stB (I1 141) := by rw [e141]; exact hB
      have hW1 : ∀ h : Int, hitB t b h → Wd I1 t (I1 141) b h := by rw [e141]; exact hW
      have lb := leftU_bd O 9
      clear h om os law up lj e15 hF h20 hO
      simp only [false_and, and_false, true_or, or_true, false_or, or_false, true_and, and_true, true_implies, false_implies, implies_true, not_true_eq_false, not_false_eq_true, and_self, List.length_cons, List.length_nil, mNoCut_, mCat_n, mCat_I, mCat_L, mCat_R, mIsL_n, mIsL_I, mIsL_R, mIsL_L, Nat.reduceAdd, Nat.reduceSub, Nat.reduceLeDiff, Nat.reduceLT, Nat.reduceEqDiff, Nat.zero_le, Int.reduceEq, Int.reduceLT, Int.reduceLE, Int.reduceNeg, Int.reduceAdd, if_true, if_false, reduceIte, reduceCtorEq, Bool.false_eq_true, ne_eq, qCmp_0, qCmp_1, qCmp_2, qCmp_3, qCmp_4, qCmp_5, ib_0, ib_1, ib_2, lb_0, lb_1, lb_2, dv_0, dv_1, wq_ic, wq_ld_i, wq_ld_l, wq_ld_a, wq_st_i, wq_st_l, wq_iinc, wq_icmp, wq_if, wq_lcmp, wq_goto, wq_get, mGet_0, mGet_1, mGet_2, mGet_3, wq_putI, wq_putL, wq_astI, wq_astL, wq_ret0, wq_ret1, wq_ret2, wq_ret3, wq_ret4, ldR0, fk_2_1, fk_6_0, fk_2_4, wq_callS2_3, ldI1, mrg_m1_, fk_2_2, fk_0_0, fk_2_3, wq_callV2_0, wq_callV1_0, stI2, mrg_0_, stI3, ldI3, mrg_289_, wq_callV3_0, stL4, ldI2, ldL4, fk_2_15, wqinc3, mPut_s, mPut_I0, mPut_R0, mPut_L0, mPut_I1, mPut_R1, mPut_L1, mGo_n, sfxX2_bestCell_46, cutX2_bestCell_46, sfxX2_bestCell_48, cutX2_bestCell_48, sfxX2_bestCell_56, cutX2_bestCell_56, sfxX2_bestCell_74, cutX2_bestCell_74, sfxX2_bestCell_97, cutX2_bestCell_97, sfxX2_bestCell_105, cutX2_bestCell_105, sfxX2_bestCell_111, cutX2_bestCell_111, wq_cut, mGo_c, mMask_t, mMask_f, mMask_n, kX2_bestCell_111, kX2_bestCell_105, kX2_bestCell_97, kX2_bestCell_74, kX2_bestCell_56, kX2_bestCell_48, kX2_bestCell_46, kX2_bestCell_0, sk_120, al_120, sk_140, al_140, rf_140_1, sk_12, al_12, rf_140_4, sk_141, al_141, sn_141, rf_140_2, rf_140_3, sk_130, al_130, rf_12_0, sk_20, al_20, sn_20, sk_0, al_0, SX2_bestCell_0, SX2_bestCell_1, SX2_bestCell_2, SX2_bestCell_3, SX2_bestCell_4, shqRR_, shqR_, shqRI_, shqRII_, spX10_copyRow, spX9_verdict, spX2_weighOthers, spX2_mayGo, spX2_topWith, mrg, mrl, mSet_ap, ncast, Option.some.injEq, n11, e14]
      refine ⟨⟨by omega, by omega⟩, fun y => by omega, fun _ => ⟨⟨by omega, by omega⟩, ⟨by omega, by omega⟩, ⟨by omega, by omega⟩, ⟨by omega, by omega⟩, ⟨by omega, by omega⟩, hB1, fun q => ?_, fun q => ?_⟩⟩
      · rw [e141] at q
        refine ⟨hf, ⟨by omega, by omega⟩, t, b, HC, hB1, e1o, hW1, ?_⟩
        rw [e141, uj]
        (try simp only [mrg, mrl] at *) <;> repeat' (first | (with_reducible assumption) | (with_reducible apply And.intro) | intro _)
        all_goals first | omega | exact hY () q (Or.inl (by omega)) | exact hY () q (Or.inr (by omega)) | (have := mk () (by omega); omega) | exact hN () (Or.inr (by omega)) | (obtain ⟨n1, x1, j1, x2, x3, x4, x5, x6, x7⟩ := hN () (Or.inr (by omega)); exact ⟨n1, x1, j1, x2, x3, x4, x5, trivial, x7⟩) | skip
      · rw [e141] at q
        exact hN () (Or.inl q)
    · have e : j = 289 := by omega
      subst e
      have oT : oneT t f b 0 = oneGo t f b 0 289 := if_neg hn0
      have h2 := h I1 hF (by rw [oT]; exact e15)
      rw [oT] at h2
      clear h om hW e15
      simp only [false_and, and_false, true_or, or_true, false_or, or_false, true_and, and_true, true_implies, false_implies, implies_true, not_true_eq_false, not_false_eq_true, and_self, List.length_cons, List.length_nil, mNoCut_, mCat_n, mCat_I, mCat_L, mCat_R, mIsL_n, mIsL_I, mIsL_R, mIsL_L, Nat.reduceAdd, Nat.reduceSub, Nat.reduceLeDiff, Nat.reduceLT, Nat.reduceEqDiff, Nat.zero_le, Int.reduceEq, Int.reduceLT, Int.reduceLE, Int.reduceNeg, Int.reduceAdd, if_true, if_false, reduceIte, reduceCtorEq, Bool.false_eq_true, ne_eq, qCmp_0, qCmp_1, qCmp_2, qCmp_3, qCmp_4, qCmp_5, ib_0, ib_1, ib_2, lb_0, lb_1, lb_2, dv_0, dv_1, wq_ic, wq_ld_i, wq_ld_l, wq_ld_a, wq_st_i, wq_st_l, wq_iinc, wq_icmp, wq_if, wq_lcmp, wq_goto, wq_get, mGet_0, mGet_1, mGet_2, mGet_3, wq_putI, wq_putL, wq_astI, wq_astL, wq_ret0, wq_ret1, wq_ret2, wq_ret3, wq_ret4, ldR0, fk_2_1, fk_6_0, fk_2_4, wq_callS2_3, ldI1, mrg_m1_, fk_2_2, fk_0_0, fk_2_3, wq_callV2_0, wq_callV1_0, stI2, mrg_0_, stI3, ldI3, mrg_289_, wq_callV3_0, stL4, ldI2, ldL4, fk_2_15, wqinc3, mPut_s, mPut_I0, mPut_R0, mPut_L0, mPut_I1, mPut_R1, mPut_L1, mGo_n, sfxX2_bestCell_46, cutX2_bestCell_46, sfxX2_bestCell_48, cutX2_bestCell_48, sfxX2_bestCell_56, cutX2_bestCell_56, sfxX2_bestCell_74, cutX2_bestCell_74, sfxX2_bestCell_97, cutX2_bestCell_97, sfxX2_bestCell_105, cutX2_bestCell_105, sfxX2_bestCell_111, cutX2_bestCell_111, wq_cut, mGo_c, mMask_t, mMask_f, mMask_n, kX2_bestCell_111, kX2_bestCell_105, kX2_bestCell_97, kX2_bestCell_74, kX2_bestCell_56, kX2_bestCell_48, kX2_bestCell_46, kX2_bestCell_0, sk_120, al_120, sk_140, al_140, rf_140_1, sk_12, al_12, rf_140_4, sk_141, al_141, sn_141, rf_140_2, rf_140_3, sk_130, al_130, rf_12_0, sk_20, al_20, sn_20, sk_0, al_0, SX2_bestCell_0, SX2_bestCell_1, SX2_bestCell_2, SX2_bestCell_3, SX2_bestCell_4, shqRR_, shqR_, shqRI_, shqRII_, spX10_copyRow, spX9_verdict, spX2_weighOthers, spX2_mayGo, spX2_topWith, mrg, mrl, mSet_ap, ncast, Option.some.injEq]
      (try simp only [mrg, mrl] at *) <;> repeat' (first | (with_reducible assumption) | (with_reducible apply And.intro) | intro _)
      all_goals first | omega | exact h2 | skip
  · show mWp _ _ _ _ _ _ kX2_bestCell_0 [some (mR (some 140)), some (mI f), none, none, none, none] [] I
    have lb := leftU_bd O 9
    have n20 : mSet (mCpy I 20 141 0 0 9) 141 f (-1) 20 = I 20 := by
      rw [set_ne (by decide), mCpy_ne _ _ _ _ (by decide)]
    have e9 : min (9 : Int) 9 = 9 := rfl
    have n11 : mSet (mCpy I 20 141 0 0 9) 141 f (-1) 11 = I 11 := by
      rw [set_ne (by decide), mCpy_ne _ _ _ _ (by decide)]
    have n120 : mSet (mCpy I 20 141 0 0 9) 141 f (-1) 120 = I 120 := by
      rw [set_ne (by decide), mCpy_ne _ _ _ _ (by decide)]
    have HM : ctxU (mSet (mCpy I 20 141 0 0 9) 141 f (-1)) t b := by
      rw [ctxU_set (by decide)]
      exact ctxU_of (fun i hi => mCpy_ne _ _ _ _ (by omega)) H
    have fM : ∀ i, ¬ (i = 130 ∨ (140 ≤ i ∧ i ≤ 149)) → mSet (mCpy I 20 141 0 0 9) 141 f (-1) i = I i := fun i hi => by
      rw [set_ne (by omega), mCpy_ne _ _ _ _ (by omega)]
    have hNone : ∀ _ : Unit, (t (13 + b) = 0 ∨ verdU (I 11) O ≠ -1) → (oneT t f b 0).1 = -1 := fun _ q => by
      unfold oneT
      by_cases y : t (13 + b) = 0
      · rw [if_pos y]
      · rw [if_neg y, oneGo_no (fun c c0 c1 w => (q.resolve_left y) ((law c c0).1 w).1) 289 (Nat.le_refl _)]
    have hR : ∀ _ : Unit, (t (13 + b) = 0 ∨ verdU (I 11) O ≠ -1) → Q (.inl (some (mI (-1)))) (mSet (mCpy I 20 141 0 0 9) 141 f (-1)) := fun _ q => by
      have e := hNone () q
      have h2 := h _ fM (fun w => absurd e w)
      rw [e] at h2
      exact h2
    have vb : verdU (I 11) O = judgeT (stR t O) := verd_eq H.1 H.2.2.2.2
    simp only [false_and, and_false, true_or, or_true, false_or, or_false, true_and, and_true, true_implies, false_implies, implies_true, not_true_eq_false, not_false_eq_true, and_self, List.length_cons, List.length_nil, mNoCut_, mCat_n, mCat_I, mCat_L, mCat_R, mIsL_n, mIsL_I, mIsL_R, mIsL_L, Nat.reduceAdd, Nat.reduceSub, Nat.reduceLeDiff, Nat.reduceLT, Nat.reduceEqDiff, Nat.zero_le, Int.reduceEq, Int.reduceLT, Int.reduceLE, Int.reduceNeg, Int.reduceAdd, if_true, if_false, reduceIte, reduceCtorEq, Bool.false_eq_true, ne_eq, qCmp_0, qCmp_1, qCmp_2, qCmp_3, qCmp_4, qCmp_5, ib_0, ib_1, ib_2, lb_0, lb_1, lb_2, dv_0, dv_1, wq_ic, wq_ld_i, wq_ld_l, wq_ld_a, wq_st_i, wq_st_l, wq_iinc, wq_icmp, wq_if, wq_lcmp, wq_goto, wq_get, mGet_0, mGet_1, mGet_2, mGet_3, wq_putI, wq_putL, wq_astI, wq_astL, wq_ret0, wq_ret1, wq_ret2, wq_ret3, wq_ret4, ldR0, fk_2_1, fk_6_0, fk_2_4, wq_callS2_3, ldI1, mrg_m1_, fk_2_2, fk_0_0, fk_2_3, wq_callV2_0, wq_callV1_0, stI2, mrg_0_, stI3, ldI3, mrg_289_, wq_callV3_0, stL4, ldI2, ldL4, fk_2_15, wqinc3, mPut_s, mPut_I0, mPut_R0, mPut_L0, mPut_I1, mPut_R1, mPut_L1, mGo_n, sfxX2_bestCell_46, cutX2_bestCell_46, sfxX2_bestCell_48, cutX2_bestCell_48, sfxX2_bestCell_56, cutX2_bestCell_56, sfxX2_bestCell_74, cutX2_bestCell_74, sfxX2_bestCell_97, cutX2_bestCell_97, sfxX2_bestCell_105, cutX2_bestCell_105, sfxX2_bestCell_111, cutX2_bestCell_111, wq_cut, mGo_c, mMask_t, mMask_f, mMask_n, kX2_bestCell_111, kX2_bestCell_105, kX2_bestCell_97, kX2_bestCell_74, kX2_bestCell_56, kX2_bestCell_48, kX2_bestCell_46, kX2_bestCell_0, sk_120, al_120, sk_140, al_140, rf_140_1, sk_12, al_12, rf_140_4, sk_141, al_141, sn_141, rf_140_2, rf_140_3, sk_130, al_130, rf_12_0, sk_20, al_20, sn_20, sk_0, al_0, SX2_bestCell_0, SX2_bestCell_1, SX2_bestCell_2, SX2_bestCell_3, SX2_bestCell_4, shqRR_, shqR_, shqRI_, shqRII_, spX10_copyRow, spX9_verdict, spX2_weighOthers, spX2_mayGo, spX2_topWith, mrg, mrl, mSet_ap, ncast, Option.some.injEq, Option.getD_some, n20, n11, n120, e0, e9]
    rw [← hOd, show mCpy I 20 141 0 0 9 11 = I 11 from mCpy_ne _ _ _ _ (by decide), show mCpy I 20 141 0 0 9 120 = I 120 from mCpy_ne _ _ _ _ (by decide), e0]
    have jb := judgeT_bd (stR t O)
    rw [← vb] at jb
    refine ⟨hf, ⟨by omega, by omega⟩, fun q => hR () (Or.inl q), fun q0 => ⟨Or.inr (Or.inr rfl), ⟨by omega, by omega⟩, ⟨by omega, by omega⟩, ⟨by omega, by omega⟩, hB, ⟨by omega, by omega⟩, fun q1 => ⟨hB, t, b, HM, fun I' hf' hw' => ?_⟩, fun q1 => hR () (Or.inr q1)⟩⟩
    refine ⟨289, 0, rfl, by omega, rfl, fun i hi => by rw [hf'.1 i (by omega) (by omega) (by omega)]; exact fM i hi, by rw [hf'.1 141 (by decide) (by decide) (by decide)]; exact hOd.symm, hw', by rw [hf'.2.2, ← hOd], fun w => absurd rfl w, q1, q0⟩
theorem ctrX2_bestCell {l : Launch} (hst : l.stackTraces = false) (hT : mTxM l) : mCtr l calX2_bestCell spX2_bestCell :=
  mMet (T := TX2_bestCell) (S := SX2_bestCell) hst hT cutX2_bestCell (by decide) okX2_bestCell ⟨_, _, rfl, rfl⟩ trivial (fun t bs h => by rcases cutsX2_bestCell h with ⟨-, rfl⟩ <;> rfl) (fun a => match a with
    | 0 => ctrX10_copyRow hst hT
    | 1 => ctrX9_verdict hst hT
    | 2 => ctrX2_weighOthers hst hT
    | 3 => ctrX2_mayGo hst hT
    | 4 => ctrX2_topWith hst hT
    | _ + 5 => mCtr_no) vcX2_bestCell

def spX10_one : mSp := shRII (fun _ i f b I Q => i = some 0 ∧ clsI I ∧ mrg f ∧ mrg b ∧ (¬ (fldP f ∧ ballP b) → Q (.inr (mEx 0)) I) ∧ (fldP f ∧ ballP b → stT (I 201) f = -1 → Q (.inr (mEx 2)) I) ∧ (fldP f ∧ ballP b → ¬ stT (I 201) f = -1 → ∀ I' : mM, (∀ i, ¬ ((3 ≤ i ∧ i ≤ 7) ∨ (120 ≤ i ∧ i ≤ 163)) → I' i = I i) → Q (.inl (some (mI (oneT (I 201) f b 0).1))) I'))
def SX10_one : Nat → mSp := fun a => match a with
  | 0 => spX10_needFielder
  | 1 => spX10_needBall
  | 2 => spX10_needThere
  | 3 => spX10_lay
  | 4 => spX2_bestCell
  | _ => fun _ _ _ _ => False
theorem SX10_one_0 : SX10_one 0 = spX10_needFielder := Eq.trans rfl rfl
theorem SX10_one_1 : SX10_one 1 = spX10_needBall := Eq.trans rfl rfl
theorem SX10_one_2 : SX10_one 2 = spX10_needThere := Eq.trans rfl rfl
theorem SX10_one_3 : SX10_one 3 = spX10_lay := Eq.trans rfl rfl
theorem SX10_one_4 : SX10_one 4 = spX2_bestCell := Eq.trans rfl rfl
set_option maxRecDepth 100000 in
set_option maxHeartbeats 1000000 in
theorem vcX10_one (fl : Nat → Bool) (avs : List mV) (I : mM) (Q : mO → mM → Prop) (hsp : spX10_one fl avs I Q) : mVC0 SX10_one fl Q kX10_one 3 avs I := by
  obtain ⟨i, f, b, rfl, h0⟩ := shRII_inv hsp
  refine ⟨rfl, ?_⟩
  show mWp _ _ _ _ _ _ kX10_one_0 [some (mR i), some (mI f), some (mI b)] [] I
  obtain ⟨rfl, H, rf, rb, h1, h2, h3⟩ := h0
  simp only [false_and, and_false, true_or, or_true, false_or, or_false, true_and, and_true, true_implies, false_implies, implies_true, not_true_eq_false, not_false_eq_true, and_self, List.length_cons, List.length_nil, mNoCut_, mCat_n, mCat_I, mCat_L, mCat_R, mIsL_n, mIsL_I, mIsL_R, mIsL_L, Nat.reduceAdd, Nat.reduceSub, Nat.reduceLeDiff, Nat.reduceLT, Nat.reduceEqDiff, Nat.zero_le, Int.reduceEq, Int.reduceLT, Int.reduceLE, Int.reduceNeg, Int.reduceAdd, if_true, if_false, reduceIte, reduceCtorEq, Bool.false_eq_true, ne_eq, qCmp_0, qCmp_1, qCmp_2, qCmp_3, qCmp_4, qCmp_5, ib_0, ib_1, ib_2, lb_0, lb_1, lb_2, dv_0, dv_1, wq_ld_i, wq_ld_a, wq_get, mGet_0, mGet_1, mGet_2, mGet_3, wq_ret0, wq_ret1, wq_ret2, wq_ret3, wq_ret4, ldI1, wq_callS1_1, ldI2, ldR0, wq_callV2_0, fk_10_6, kX10_one_0, sk_0, al_0, rf_0_6, sk_140, al_140, SX10_one_0, SX10_one_1, SX10_one_2, SX10_one_3, SX10_one_4, shqI_, shqRI_, spX10_needFielder, spX10_needBall, spX10_needThere, spX10_lay, spX2_bestCell, mrg, mrl, mSet_ap, ncast, Option.some.injEq]
  refine ⟨rf, fun kf => ⟨rb, fun kb => ⟨H, kf, fun z => ⟨H, kb, fun J hJ => ⟨kf, I 201, b, H.ctx kb hJ, fun g g0 g1 => by rw [fr_ne (by decide)]; exact H.s20e g g0 g1, fun I' f2 f3 => h3 ⟨kf, kb⟩ z I' (fun i hi => by rw [f2 i (by omega), fr_ne (by omega)])⟩⟩, fun z => h2 ⟨kf, kb⟩ z⟩, fun z => h1 (fun w => z w.2)⟩, fun z => h1 (fun w => z w.1)⟩
theorem ctrX10_one {l : Launch} (hst : l.stackTraces = false) (hT : mTxM l) : mCtr l calX10_one spX10_one :=
  mMet0 (T := TX10_one) (S := SX10_one) hst hT (by decide) okX10_one ⟨_, _, rfl, rfl⟩ (fun a => match a with
    | 0 => ctrX10_needFielder hst hT
    | 1 => ctrX10_needBall hst hT
    | 2 => ctrX10_needThere hst hT
    | 3 => ctrX10_lay hst hT
    | 4 => ctrX2_bestCell hst hT
    | _ + 5 => mCtr_no) vcX10_one

end SPC29
