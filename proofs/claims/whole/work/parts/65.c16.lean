section SPC16
theorem hitS_wf {t : Int → Int} (H : WFt t) {b h : Int} (hb : 0 ≤ b ∧ b < 6) (hh : 0 ≤ h ∧ h < 8) (x a : Int) : WFt (hitS b h t x a).1 := by
  have H12 := H.add (q := 12) (by omega) 1
  unfold hitS
  split
  · exact H12.add (by omega) _
  · split
    · exact H12.add (by omega) _
    · split
      · exact chase_wf ((H12.add (by omega) _).add (by omega) _) hb hh
      · exact (H12.add (by omega) _).add (by omega) _
def spX10_play : mSp := shRIII (fun _ i b n s I Q => i = some 0 ∧ clsI I ∧ mrg b ∧ mrg n ∧ mrg s ∧ (¬ ballP b → Q (.inr (mEx 0)) I) ∧ (ballP b → ¬ (1 ≤ n ∧ n ≤ 60) → Q (.inr (mEx 1)) I) ∧ (ballP b → (1 ≤ n ∧ n ≤ 60) → I 201 (13 + b) = 0 → ∀ I', cPost I I' (I 0 13) (I 0 14) → Q (.inl (some (mI (-1)))) I') ∧ (ballP b → (1 ≤ n ∧ n ≤ 60) → ¬ I 201 (13 + b) = 0 → ∀ I' : mM, (∀ i, i ≠ 0 → i ≠ 20 → i ≠ 27 → ¬ (120 ≤ i ∧ i ≤ 127) → i ≠ 130 → I' i = I i) → (∀ p : Int, p ≠ 15 → I' 0 p = I 0 p) → (∀ f : Int, 0 ≤ f → f < 9 → I' 20 f = stT (playN b (I 201, s, 0) n.toNat).1 f) → (∀ k : Int, 0 ≤ k → k < 4 → I' 27 k = (playN b (I 201, s, 0) n.toNat).1 (9 + k)) → agr (I 201) (playN b (I 201, s, 0) n.toNat).1 → Q (.inl (some (mI (playN b (I 201, s, 0) n.toNat).2.2))) I'))
def SX10_play : Nat → mSp := fun a => match a with
  | 0 => spX10_needBall
  | 1 => spX10_needNumber
  | 2 => spX10_lay
  | 3 => spX10_drawHit
  | 4 => spX10_playHit
  | _ => fun _ _ _ _ => False
theorem SX10_play_0 : SX10_play 0 = spX10_needBall := Eq.trans rfl rfl
theorem SX10_play_1 : SX10_play 1 = spX10_needNumber := Eq.trans rfl rfl
theorem SX10_play_2 : SX10_play 2 = spX10_lay := Eq.trans rfl rfl
theorem SX10_play_3 : SX10_play 3 = spX10_drawHit := Eq.trans rfl rfl
theorem SX10_play_4 : SX10_play 4 = spX10_playHit := Eq.trans rfl rfl
theorem cutsX10_play {t : Nat} {bs : List Bool} (h : cutX10_play t = some bs) : (t = 39 ∧ bs = [true, false, true, false, true, true]) := by
  unfold cutX10_play at h
  simp only [mLk] at h
  by_cases h0 : 39 = t
  · subst h0
    simp at h
    exact ⟨rfl, h.symm⟩
  rw [if_neg h0] at h
  cases h
set_option maxRecDepth 100000 in
set_option maxHeartbeats 4000000 in
theorem vcX10_play (fl : Nat → Bool) (avs : List mV) (I : mM) (Q : mO → mM → Prop) (hsp : spX10_play fl avs I Q) : mVC SX10_play fl Q kX10_play cutX10_play 6 avs I := by
  obtain ⟨i, b, nn, s, rfl, h0⟩ := shRIII_inv hsp
  obtain ⟨rfl, H, rb, rn, rs, h1, h2, h3, h4⟩ := h0
  refine ⟨rfl, (fun m pc lv st I1 => st = [] ∧ (ballP b ∧ (1 ≤ nn ∧ nn ≤ 60) ∧ ¬ I 201 (13 + b) = 0) ∧ ∃ j : Nat, lv = [some (mR (some 0)), none, some (mI nn), none, some (mI (playN b (I 201, s, 0) j).2.2), some (mI j)] ∧ j ≤ nn.toNat ∧ m = 60 - j ∧ (∀ i, i ≠ 0 → i ≠ 20 → i ≠ 27 → ¬ (120 ≤ i ∧ i ≤ 127) → i ≠ 130 → I1 i = I i) ∧ (∀ p : Int, p ≠ 15 → I1 0 p = I 0 p) ∧ I1 0 15 = (playN b (I 201, s, 0) j).2.1 ∧ (∀ f : Int, 0 ≤ f → f < 9 → I1 20 f = stT (playN b (I 201, s, 0) j).1 f) ∧ (∀ k : Int, 0 ≤ k → k < 4 → I1 27 k = (playN b (I 201, s, 0) j).1 (9 + k)) ∧ ctxU I1 (playN b (I 201, s, 0) j).1 b ∧ agr (I 201) (playN b (I 201, s, 0) j).1), ?_, ?_⟩
  · intro n t bs hbs lv st I1 hc
    rcases cutsX10_play hbs with ⟨rfl, rfl⟩
    rw [sfxX10_play_39]
    obtain ⟨rfl, ⟨kb, kn, kz⟩, j, rfl, hj, hm, f1, f2, f3, f4, f5, HU, A⟩ := hc
    have hfin : ∀ _ : Unit, j = nn.toNat → Q (.inl (some (mI (playN b (I 201, s, 0) j).2.2))) I1 := fun _ e => by
      subst e
      exact h4 kb kn kz I1 f1 f2 f4 f5 A
    have hs : playN b (I 201, s, 0) (j + 1) = playS b (playN b (I 201, s, 0) j) := rfl
    clear h1 h2 h3 h4
    rcases Nat.lt_or_ge j nn.toNat with z | z
    · generalize hP : playN b (I 201, s, 0) j = P at *
      have e6 : I1 13 0 = P.1 6 := by
        rw [f1 13 (by decide) (by decide) (by decide) (by decide) (by decide), A 6 (by omega) (by omega)]
        exact H.2.2.2.1
      have e7 : I1 13 1 = P.1 7 := by
        rw [f1 13 (by decide) (by decide) (by decide) (by decide) (by decide), A 7 (by omega) (by omega)]
        exact H.2.2.2.2.1
      have e8 : I1 13 2 = P.1 8 := by
        rw [f1 13 (by decide) (by decide) (by decide) (by decide) (by decide), A 8 (by omega) (by omega)]
        exact H.2.2.2.2.2.1
      have hn0 := H.1.2.1 b kb.1 kb.2
      have e13 : P.1 (13 + b) = I 201 (13 + b) := A _ (by omega) (by omega)
      have bb := bowledT_bd HU.1 (I1 0 15) kb (by omega)
      have hh8 : 0 ≤ (bowledT P.1 b (I1 0 15)).1 ∧ (bowledT P.1 b (I1 0 15)).1 < 8 := by omega
      simp only [false_and, and_false, true_or, or_true, false_or, or_false, true_and, and_true, true_implies, false_implies, implies_true, not_true_eq_false, not_false_eq_true, and_self, List.length_cons, List.length_nil, mNoCut_, mCat_n, mCat_I, mCat_L, mCat_R, mIsL_n, mIsL_I, mIsL_R, mIsL_L, Nat.reduceAdd, Nat.reduceSub, Nat.reduceLeDiff, Nat.reduceLT, Nat.reduceEqDiff, Nat.zero_le, Int.reduceEq, Int.reduceLT, Int.reduceLE, Int.reduceNeg, Int.reduceAdd, if_true, if_false, reduceIte, reduceCtorEq, Bool.false_eq_true, ne_eq, qCmp_0, qCmp_1, qCmp_2, qCmp_3, qCmp_4, qCmp_5, ib_0, ib_1, ib_2, lb_0, lb_1, lb_2, dv_0, dv_1, wq_ic, wq_ld_i, wq_ld_a, wq_st_i, wq_iinc, wq_ib, wq_icmp, wq_if, wq_goto, wq_get, mGet_0, mGet_1, mGet_2, mGet_3, wq_putI, wq_putL, wq_ret0, wq_ret1, wq_ret2, wq_ret3, wq_ret4, ldI1, wq_callS1_1, ldI2, mrg_1_, mrg_60_, wq_callS3_1, ldR0, wq_callV2_0, fk_10_4, fk_0_0, mrg_m1_, ldI3, fk_10_15, mrg_0_, stI4, stI5, ldI5, ldI4, wq_callV1_0, wqinc5, mPut_s, mPut_I0, mPut_R0, mPut_L0, mPut_I1, mPut_R1, mPut_L1, mGo_n, sfxX10_play_28, cutX10_play_28, sfxX10_play_39, cutX10_play_39, sfxX10_play_64, cutX10_play_64, wq_cut, mGo_c, mMask_t, mMask_f, mMask_n, kX10_play_64, kX10_play_39, kX10_play_28, kX10_play_0, sk_120, al_120, sk_0, al_0, rf_0_4, SX10_play_0, SX10_play_1, SX10_play_2, SX10_play_3, SX10_play_4, shqI_, shqIII_, shqRI_, shqR_, spX10_needBall, spX10_needNumber, spX10_lay, spX10_drawHit, spX10_playHit, mrg, mrl, mSet_ap, ncast, Option.some.injEq]
      refine ⟨⟨⟨by omega, by omega⟩, by omega, by omega⟩, fun w => by omega, fun _ => ⟨P.1, b, HU, f4, ⟨e6, e7⟩, by omega, fun J => ⟨P.1, b, ?_, ?_, ?_, ?_, ⟨bb.1, bb.2⟩, fun I2 g1 g2 g3 g4 g5 => ?_⟩⟩⟩
      · rw [ctxU_fr (by decide), ctxU_set (by decide)]
        exact HU
      · intro f f0 f1'
        rw [fr_ne (by decide), set_ne (by decide)]
        exact f4 f f0 f1'
      · rw [fr_ne (by decide), set_ne (by decide)]
        exact e8
      · intro k k0 k1
        rw [fr_ne (by decide), set_ne (by decide)]
        exact f5 k k0 k1
      · have ex : fr 130 130 J (mSet I1 0 15 (bowledT P.1 b (I1 0 15)).2) 0 15 = (bowledT P.1 b (I1 0 15)).2 := by
          rw [fr_ne (by decide)]
          exact set_eq
        have eh := hitS_sum b (bowledT P.1 b (I1 0 15)).1 P.1 (bowledT P.1 b (I1 0 15)).2 P.2.2
        have ePS : playS b P = hitS b (bowledT P.1 b (I1 0 15)).1 P.1 (bowledT P.1 b (I1 0 15)).2 P.2.2 := by
          rw [f3]
          rfl
        rw [ex, ← eh.1] at g4 g5
        rw [ex, ← eh.2.1] at g3
        rw [ex]
        have AP := agr_trans A (hitS_agr b (bowledT P.1 b (I1 0 15)).1 P.1 (bowledT P.1 b (I1 0 15)).2 P.2.2)
        have WP := hitS_wf HU.1 (b := b) (h := (bowledT P.1 b (I1 0 15)).1) kb hh8 (bowledT P.1 b (I1 0 15)).2 P.2.2
        have CP : ctxU I2 (hitS b (bowledT P.1 b (I1 0 15)).1 P.1 (bowledT P.1 b (I1 0 15)).2 P.2.2).1 b := ctxU_agr (hitS_agr _ _ _ _ _) WP (ctxU_of (fun i hi => by rw [g1 i (by omega) (by omega) (by omega) (by omega), fr_ne (by omega), set_ne (by omega)]) HU)
        rw [← ePS, ← hs] at g3 g4 g5 AP CP
        rw [← ePS, ← hs] at eh
        refine ⟨60 - (j + 1), by omega, ⟨kb, kn, kz⟩, j + 1, by rw [eh.2.2]; rfl, by omega, rfl, fun i q0 q20 q27 q1 q130 => by rw [g1 i q0 q20 q27 q130, fr_ne (by omega), set_ne q0]; exact f1 i q0 q20 q27 q1 q130, fun p hp => by rw [g2 p hp, fr_ne (by decide), set_nq hp]; exact f2 p hp, g3, g4, g5, CP, AP⟩
    · have e : j = nn.toNat := by omega
      simp only [false_and, and_false, true_or, or_true, false_or, or_false, true_and, and_true, true_implies, false_implies, implies_true, not_true_eq_false, not_false_eq_true, and_self, List.length_cons, List.length_nil, mNoCut_, mCat_n, mCat_I, mCat_L, mCat_R, mIsL_n, mIsL_I, mIsL_R, mIsL_L, Nat.reduceAdd, Nat.reduceSub, Nat.reduceLeDiff, Nat.reduceLT, Nat.reduceEqDiff, Nat.zero_le, Int.reduceEq, Int.reduceLT, Int.reduceLE, Int.reduceNeg, Int.reduceAdd, if_true, if_false, reduceIte, reduceCtorEq, Bool.false_eq_true, ne_eq, qCmp_0, qCmp_1, qCmp_2, qCmp_3, qCmp_4, qCmp_5, ib_0, ib_1, ib_2, lb_0, lb_1, lb_2, dv_0, dv_1, wq_ic, wq_ld_i, wq_ld_a, wq_st_i, wq_iinc, wq_ib, wq_icmp, wq_if, wq_goto, wq_get, mGet_0, mGet_1, mGet_2, mGet_3, wq_putI, wq_putL, wq_ret0, wq_ret1, wq_ret2, wq_ret3, wq_ret4, ldI1, wq_callS1_1, ldI2, mrg_1_, mrg_60_, wq_callS3_1, ldR0, wq_callV2_0, fk_10_4, fk_0_0, mrg_m1_, ldI3, fk_10_15, mrg_0_, stI4, stI5, ldI5, ldI4, wq_callV1_0, wqinc5, mPut_s, mPut_I0, mPut_R0, mPut_L0, mPut_I1, mPut_R1, mPut_L1, mGo_n, sfxX10_play_28, cutX10_play_28, sfxX10_play_39, cutX10_play_39, sfxX10_play_64, cutX10_play_64, wq_cut, mGo_c, mMask_t, mMask_f, mMask_n, kX10_play_64, kX10_play_39, kX10_play_28, kX10_play_0, sk_120, al_120, sk_0, al_0, rf_0_4, SX10_play_0, SX10_play_1, SX10_play_2, SX10_play_3, SX10_play_4, shqI_, shqIII_, shqRI_, shqR_, spX10_needBall, spX10_needNumber, spX10_lay, spX10_drawHit, spX10_playHit, mrg, mrl, mSet_ap, ncast, Option.some.injEq]
      (try simp only [mrg, mrl] at *) <;> repeat' (first | (with_reducible assumption) | (with_reducible apply And.intro) | intro _)
      all_goals first | omega | exact hfin () e | skip
  · show mWp _ _ _ _ _ _ kX10_play_0 [some (mR (some 0)), some (mI b), some (mI nn), some (mI s), none, none] [] I
    by_cases kb : ballP b
    · by_cases kn : 1 ≤ nn ∧ nn ≤ 60
      · have hn0 := H.1.2.1 b kb.1 kb.2
        have h3 := h3 kb kn
        clear h1 h2 h4
        simp only [false_and, and_false, true_or, or_true, false_or, or_false, true_and, and_true, true_implies, false_implies, implies_true, not_true_eq_false, not_false_eq_true, and_self, List.length_cons, List.length_nil, mNoCut_, mCat_n, mCat_I, mCat_L, mCat_R, mIsL_n, mIsL_I, mIsL_R, mIsL_L, Nat.reduceAdd, Nat.reduceSub, Nat.reduceLeDiff, Nat.reduceLT, Nat.reduceEqDiff, Nat.zero_le, Int.reduceEq, Int.reduceLT, Int.reduceLE, Int.reduceNeg, Int.reduceAdd, if_true, if_false, reduceIte, reduceCtorEq, Bool.false_eq_true, ne_eq, qCmp_0, qCmp_1, qCmp_2, qCmp_3, qCmp_4, qCmp_5, ib_0, ib_1, ib_2, lb_0, lb_1, lb_2, dv_0, dv_1, wq_ic, wq_ld_i, wq_ld_a, wq_st_i, wq_iinc, wq_ib, wq_icmp, wq_if, wq_goto, wq_get, mGet_0, mGet_1, mGet_2, mGet_3, wq_putI, wq_putL, wq_ret0, wq_ret1, wq_ret2, wq_ret3, wq_ret4, ldI1, wq_callS1_1, ldI2, mrg_1_, mrg_60_, wq_callS3_1, ldR0, wq_callV2_0, fk_10_4, fk_0_0, mrg_m1_, ldI3, fk_10_15, mrg_0_, stI4, stI5, ldI5, ldI4, wq_callV1_0, wqinc5, mPut_s, mPut_I0, mPut_R0, mPut_L0, mPut_I1, mPut_R1, mPut_L1, mGo_n, sfxX10_play_28, cutX10_play_28, sfxX10_play_39, cutX10_play_39, sfxX10_play_64, cutX10_play_64, wq_cut, mGo_c, mMask_t, mMask_f, mMask_n, kX10_play_64, kX10_play_39, kX10_play_28, kX10_play_0, sk_120, al_120, sk_0, al_0, rf_0_4, SX10_play_0, SX10_play_1, SX10_play_2, SX10_play_3, SX10_play_4, shqI_, shqIII_, shqRI_, shqR_, spX10_needBall, spX10_needNumber, spX10_lay, spX10_drawHit, spX10_playHit, mrg, mrl, mSet_ap, ncast, Option.some.injEq, fr_ne]
        refine ⟨rb, fun _ => ⟨rn, fun _ => ⟨H, kb, fun J hJ => ?_⟩, fun w => absurd kn w⟩, fun w => absurd kb w⟩
        have e0 : fr 120 127 J I 120 0 = I 201 (13 + b) := hJ.1
        simp only [e0]
        refine ⟨⟨by omega, by omega⟩, fun w => ?_, fun w => h3 (by omega) _ ((cPost.rfl I).fr (by decide) (by decide))⟩
        refine ⟨60, ⟨kb, kn, w⟩, 0, rfl, by omega, rfl, fun i q0 q20 q27 q1 q130 => by rw [set_ne q0, fr_ne q1], fun p hp => if_neg hp, rfl, ?_, ?_, ?_, fun q _ _ => rfl⟩
        · intro f f0 f1
          exact H.s20e f f0 f1
        · intro k k0 k1
          exact H.2.2.2.2.2.2.2 k k0 k1
        · rw [ctxU_set (by decide)]
          exact H.ctx kb hJ
      · have h2 := h2 kb kn
        simp only [false_and, and_false, true_or, or_true, false_or, or_false, true_and, and_true, true_implies, false_implies, implies_true, not_true_eq_false, not_false_eq_true, and_self, List.length_cons, List.length_nil, mNoCut_, mCat_n, mCat_I, mCat_L, mCat_R, mIsL_n, mIsL_I, mIsL_R, mIsL_L, Nat.reduceAdd, Nat.reduceSub, Nat.reduceLeDiff, Nat.reduceLT, Nat.reduceEqDiff, Nat.zero_le, Int.reduceEq, Int.reduceLT, Int.reduceLE, Int.reduceNeg, Int.reduceAdd, if_true, if_false, reduceIte, reduceCtorEq, Bool.false_eq_true, ne_eq, qCmp_0, qCmp_1, qCmp_2, qCmp_3, qCmp_4, qCmp_5, ib_0, ib_1, ib_2, lb_0, lb_1, lb_2, dv_0, dv_1, wq_ic, wq_ld_i, wq_ld_a, wq_st_i, wq_iinc, wq_ib, wq_icmp, wq_if, wq_goto, wq_get, mGet_0, mGet_1, mGet_2, mGet_3, wq_putI, wq_putL, wq_ret0, wq_ret1, wq_ret2, wq_ret3, wq_ret4, ldI1, wq_callS1_1, ldI2, mrg_1_, mrg_60_, wq_callS3_1, ldR0, wq_callV2_0, fk_10_4, fk_0_0, mrg_m1_, ldI3, fk_10_15, mrg_0_, stI4, stI5, ldI5, ldI4, wq_callV1_0, wqinc5, mPut_s, mPut_I0, mPut_R0, mPut_L0, mPut_I1, mPut_R1, mPut_L1, mGo_n, sfxX10_play_28, cutX10_play_28, sfxX10_play_39, cutX10_play_39, sfxX10_play_64, cutX10_play_64, wq_cut, mGo_c, mMask_t, mMask_f, mMask_n, kX10_play_64, kX10_play_39, kX10_play_28, kX10_play_0, sk_120, al_120, sk_0, al_0, rf_0_4, SX10_play_0, SX10_play_1, SX10_play_2, SX10_play_3, SX10_play_4, shqI_, shqIII_, shqRI_, shqR_, spX10_needBall, spX10_needNumber, spX10_lay, spX10_drawHit, spX10_playHit, mrg, mrl, mSet_ap, ncast, Option.some.injEq]
        refine ⟨rb, fun _ => ⟨rn, fun w => absurd w kn, fun _ => h2⟩, fun w => absurd kb w⟩
    · have h1 := h1 kb
      simp only [false_and, and_false, true_or, or_true, false_or, or_false, true_and, and_true, true_implies, false_implies, implies_true, not_true_eq_false, not_false_eq_true, and_self, List.length_cons, List.length_nil, mNoCut_, mCat_n, mCat_I, mCat_L, mCat_R, mIsL_n, mIsL_I, mIsL_R, mIsL_L, Nat.reduceAdd, Nat.reduceSub, Nat.reduceLeDiff, Nat.reduceLT, Nat.reduceEqDiff, Nat.zero_le, Int.reduceEq, Int.reduceLT, Int.reduceLE, Int.reduceNeg, Int.reduceAdd, if_true, if_false, reduceIte, reduceCtorEq, Bool.false_eq_true, ne_eq, qCmp_0, qCmp_1, qCmp_2, qCmp_3, qCmp_4, qCmp_5, ib_0, ib_1, ib_2, lb_0, lb_1, lb_2, dv_0, dv_1, wq_ic, wq_ld_i, wq_ld_a, wq_st_i, wq_iinc, wq_ib, wq_icmp, wq_if, wq_goto, wq_get, mGet_0, mGet_1, mGet_2, mGet_3, wq_putI, wq_putL, wq_ret0, wq_ret1, wq_ret2, wq_ret3, wq_ret4, ldI1, wq_callS1_1, ldI2, mrg_1_, mrg_60_, wq_callS3_1, ldR0, wq_callV2_0, fk_10_4, fk_0_0, mrg_m1_, ldI3, fk_10_15, mrg_0_, stI4, stI5, ldI5, ldI4, wq_callV1_0, wqinc5, mPut_s, mPut_I0, mPut_R0, mPut_L0, mPut_I1, mPut_R1, mPut_L1, mGo_n, sfxX10_play_28, cutX10_play_28, sfxX10_play_39, cutX10_play_39, sfxX10_play_64, cutX10_play_64, wq_cut, mGo_c, mMask_t, mMask_f, mMask_n, kX10_play_64, kX10_play_39, kX10_play_28, kX10_play_0, sk_120, al_120, sk_0, al_0, rf_0_4, SX10_play_0, SX10_play_1, SX10_play_2, SX10_play_3, SX10_play_4, shqI_, shqIII_, shqRI_, shqR_, spX10_needBall, spX10_needNumber, spX10_lay, spX10_drawHit, spX10_playHit, mrg, mrl, mSet_ap, ncast, Option.some.injEq]
      refine ⟨rb, fun w => absurd w kb, fun _ => h1⟩
theorem ctrX10_play {l : Launch} (hst : l.stackTraces = false) (hT : mTxM l) : mCtr l calX10_play spX10_play :=
  mMet (T := TX10_play) (S := SX10_play) hst hT cutX10_play (by decide) okX10_play ⟨_, _, rfl, rfl⟩ trivial (fun t bs h => by rcases cutsX10_play h with ⟨-, rfl⟩ <;> rfl) (fun a => match a with
    | 0 => ctrX10_needBall hst hT
    | 1 => ctrX10_needNumber hst hT
    | 2 => ctrX10_lay hst hT
    | 3 => ctrX10_drawHit hst hT
    | 4 => ctrX10_playHit hst hT
    | _ + 5 => mCtr_no) vcX10_play

end SPC16
