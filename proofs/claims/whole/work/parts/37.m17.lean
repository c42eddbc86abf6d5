section SPM17
def riseT (t : Int → Int) (a b c : Int) : Int := meanT (stR t (keptS t a)) c - meanT (stR t (keptS t b)) c
def tellsN (t : Int → Int) (a b : Int) : Nat → Int × Int × Int
  | 0 => (-1, 0, 1)
  | n + 1 => if t (13 + (n : Int)) = 0 ∨ riseT t a b n * (tellsN t a b n).2.2 ≤ (tellsN t a b n).2.1 * (10000 * allT t n) then tellsN t a b n else (n, riseT t a b n, 10000 * allT t n)
theorem rise_bd {t : Int → Int} (H : WFt t) {a b c : Int} (ha : wayP a) (hb : wayP b) (hc : ballP c) : -3136320000 ≤ riseT t a b c ∧ riseT t a b c ≤ 3136320000 := by
  have h1 := meanT_bd (H.sts (H.kept ha)) hc
  have h2 := meanT_bd (H.sts (H.kept hb)) hc
  unfold riseT
  omega
theorem allT_bd {t : Int → Int} (H : WFt t) {b : Int} (hb : 0 ≤ b ∧ b < 6) : 0 ≤ allT t b ∧ allT t b ≤ 792 := by
  have hn := H.2.1 b hb.1 hb.2
  have ab := allN_bd H hb (t (13 + b)).toNat (by omega)
  unfold allT
  omega
theorem tellsN_bd {t : Int → Int} (H : WFt t) {a b : Int} (ha : wayP a) (hb : wayP b) : ∀ n : Nat, n ≤ 6 → (-1 ≤ (tellsN t a b n).1 ∧ (tellsN t a b n).1 < n) ∧ (-3136320000 ≤ (tellsN t a b n).2.1 ∧ (tellsN t a b n).2.1 ≤ 3136320000) ∧ (0 ≤ (tellsN t a b n).2.2 ∧ (tellsN t a b n).2.2 ≤ 7920000)
  | 0, _ => by simp [tellsN]
  | n + 1, hn => by
    have ih := tellsN_bd H ha hb n (by omega)
    have r := rise_bd H ha hb (c := n) ⟨by omega, by omega⟩
    have l := allT_bd H (b := n) ⟨by omega, by omega⟩
    simp only [tellsN]
    split
    · omega
    · dsimp only
      omega
def spX11_tells : mSp := shRII (fun _ i a b I Q => i = some 200 ∧ WFt (I 201) ∧ mrg a ∧ mrg b ∧ (¬ (wayP a ∧ wayP b) → Q (.inl (some (mI 0))) (mSet I 200 3 1)) ∧ (wayP a ∧ wayP b → ¬ (keptP (I 201) a ∧ keptP (I 201) b) → Q (.inl (some (mI 0))) (mSet I 200 3 2)) ∧ (wayP a ∧ wayP b → keptP (I 201) a ∧ keptP (I 201) b → ∀ I', mPost I I' (I 201) 0 (I 200 16) (I 200 17) → Q (.inl (some (mI (tellsN (I 201) a b 6).1))) I'))
def SX11_tells : Nat → mSp := fun a => match a with
  | 0 => spX11_isWay
  | 1 => spX11_isKept
  | 2 => spX11_putsBy
  | 3 => spX11_takesWay
  | 4 => spX11_meanOf
  | 5 => spX11_lowOf
  | 6 => spX11_givesBack
  | _ => fun _ _ _ _ => False
theorem SX11_tells_0 : SX11_tells 0 = spX11_isWay := Eq.trans rfl rfl
theorem SX11_tells_1 : SX11_tells 1 = spX11_isKept := Eq.trans rfl rfl
theorem SX11_tells_2 : SX11_tells 2 = spX11_putsBy := Eq.trans rfl rfl
theorem SX11_tells_3 : SX11_tells 3 = spX11_takesWay := Eq.trans rfl rfl
theorem SX11_tells_4 : SX11_tells 4 = spX11_meanOf := Eq.trans rfl rfl
theorem SX11_tells_5 : SX11_tells 5 = spX11_lowOf := Eq.trans rfl rfl
theorem SX11_tells_6 : SX11_tells 6 = spX11_givesBack := Eq.trans rfl rfl
theorem cutsX11_tells {t : Nat} {bs : List Bool} (h : cutX11_tells t = some bs) : (t = 67 ∧ bs = [true, true, true, true, true, false, true, false, true, false, false]) := by
  unfold cutX11_tells at h
  simp only [mLk] at h
  by_cases h0 : 67 = t
  · subst h0
    simp at h
    exact ⟨rfl, h.symm⟩
  rw [if_neg h0] at h
  cases h
set_option maxRecDepth 100000 in
set_option maxHeartbeats 4000000 in
theorem vcX11_tells (fl : Nat → Bool) (avs : List mV) (I : mM) (Q : mO → mM → Prop) (hsp : spX11_tells fl avs I Q) : mVC SX11_tells fl Q kX11_tells cutX11_tells 11 avs I := by
  obtain ⟨i, a, b, rfl, h0⟩ := shRII_inv hsp
  obtain ⟨rfl, H, ra, rb, h1, h2, h3⟩ := h0
  refine ⟨rfl, (fun m t lv st I1 => st = [] ∧ ∃ (j : Nat) (s : Int → Int), lv = [some (mR (some 200)), some (mI a), some (mI b), some (mI (tellsN (I 201) a b j).1), some (mL (tellsN (I 201) a b j).2.1), none, some (mL (tellsN (I 201) a b j).2.2), none, some (mI j), none, none] ∧ (wayP a ∧ wayP b ∧ keptP (I 201) a ∧ keptP (I 201) b) ∧ j ≤ 6 ∧ m = 6 - j ∧ mPost I I1 (stR (I 201) s) 0 (I 200 16) (I 200 17) ∧ (∀ g : Int, 0 ≤ g → g < 9 → I1 208 g = stT (I 201) g)), ?_, ?_⟩
  · intro n t bs hbs lv st I1 hc
    rcases cutsX11_tells hbs with ⟨rfl, rfl⟩
    rw [sfxX11_tells_67]
    obtain ⟨rfl, j, s, rfl, ⟨ka, kb, kea, keb⟩, hj, hm, mp, h208⟩ := hc
    have e1 := mp.2.1
    have hn8 := fun z : (j : Int) < 6 => H.2.1 j (by omega) z
    have tb := tellsN_bd H ka kb j (by omega)
    have rb := fun z : (j : Int) < 6 => rise_bd H ka kb (c := j) ⟨by omega, z⟩
    have l := fun z : (j : Int) < 6 => allT_bd H (b := j) ⟨by omega, z⟩
    have Ha := H.sts (H.kept ka)
    have Hb := H.sts (H.kept kb)
    have ts : tellsN (I 201) a b (j + 1) = if I 201 (13 + (j : Int)) = 0 ∨ riseT (I 201) a b j * (tellsN (I 201) a b j).2.2 ≤ (tellsN (I 201) a b j).2.1 * (10000 * allT (I 201) j) then tellsN (I 201) a b j else (j, riseT (I 201) a b j, 10000 * allT (I 201) j) := rfl
    have eA : standsM I1 (fun f => I1 201 (595 + 10 * a + 1 + f)) 9 201 = stR (I 201) (keptS (I 201) a) := by
      rw [standsM_201, e1, stR_stR]
      exact stR_cong _ (fun f f0 f1 => keptS_stR _ _ ka.1 f f0)
    have eB : standsM (standsM I1 (fun f => I1 201 (595 + 10 * a + 1 + f)) 9) (fun f => stR (I 201) (keptS (I 201) a) (595 + 10 * b + 1 + f)) 9 201 = stR (I 201) (keptS (I 201) b) := by
      rw [standsM_201, eA, stR_stR]
      exact stR_cong _ (fun f f0 f1 => keptS_stR _ _ kb.1 f f0)
    have er : meanT (stR (I 201) (keptS (I 201) a)) j - meanT (stR (I 201) (keptS (I 201) b)) j = riseT (I 201) a b j := rfl
    have mp2 := (mp.st (fun f => I1 201 (595 + 10 * a + 1 + f))).st (fun f => stR (I 201) (keptS (I 201) a) (595 + 10 * b + 1 + f))
    rw [stR_stR, stR_stR] at mp2
    have h208b : ∀ g : Int, 0 ≤ g → g < 9 → standsM (standsM I1 (fun f => I1 201 (595 + 10 * a + 1 + f)) 9) (fun f => stR (I 201) (keptS (I 201) a) (595 + 10 * b + 1 + f)) 9 208 g = stT (I 201) g := fun g g0 g1 => by
      rw [standsM_ne _ _ (by decide), standsM_ne _ _ (by decide)]
      exact h208 g g0 g1
    have hfin : j = 6 → Q (.inl (some (mI (tellsN (I 201) a b j).1))) (standsM I1 (I1 208) 9) := fun z => by
      subst z
      refine h3 ⟨ka, kb⟩ ⟨kea, keb⟩ _ ?_
      have e := mp.st (I1 208)
      rw [stR_stR, stR_cong _ (fun f f0 f1 => h208 f f0 f1), stR_self] at e
      exact e
    generalize hX : tellsN (I 201) a b j = X at *
    rcases Nat.lt_or_ge j 6 with z | z
    · have e13 : I1 201 (13 + (j : Int)) = I 201 (13 + (j : Int)) := by
        rw [e1]
        exact hits_stR _ _ ⟨by omega, by omega⟩
      have el := allT_stR H (keptS (I 201) b) (b := j) ⟨by omega, by omega⟩
      have hn8 := hn8 (by omega)
      have rb := rb (by omega)
      have l := l (by omega)
      have p1 := mul_abs_bd (x := X.2.2) (a := 7920000) (b := 3136320000) (y := riseT (I 201) a b j) ⟨by omega, by omega⟩ ⟨by omega, by omega⟩
      have p2 := mul_abs_bd (x := 10000 * allT (I 201) j) (a := 7920000) (b := 3136320000) (y := X.2.1) ⟨by omega, by omega⟩ ⟨by omega, by omega⟩
      rw [Int.mul_comm X.2.2] at p1
      rw [Int.mul_comm (10000 * allT (I 201) j)] at p2
      simp only [false_and, and_false, true_or, or_true, false_or, or_false, true_and, and_true, true_implies, false_implies, implies_true, not_true_eq_false, not_false_eq_true, and_self, List.length_cons, List.length_nil, mNoCut_, mCat_n, mCat_I, mCat_L, mCat_R, mIsL_n, mIsL_I, mIsL_R, mIsL_L, Nat.reduceAdd, Nat.reduceSub, Nat.reduceLeDiff, Nat.reduceLT, Nat.reduceEqDiff, Nat.zero_le, Int.reduceEq, Int.reduceLT, Int.reduceLE, Int.reduceNeg, Int.reduceAdd, if_true, if_false, reduceIte, reduceCtorEq, Bool.false_eq_true, ne_eq, qCmp_0, qCmp_1, qCmp_2, qCmp_3, qCmp_4, qCmp_5, ib_0, ib_1, ib_2, lb_0, lb_1, lb_2, dv_0, dv_1, wq_ic, wq_lc, wq_ld_i, wq_ld_l, wq_ld_a, wq_st_i, wq_st_l, wq_iinc, wq_ib, wq_lb, wq_icmp, wq_if, wq_lcmp, wq_goto, wq_get, mGet_0, mGet_1, mGet_2, mGet_3, wq_putI, wq_putL, wq_ald, wq_ret0, wq_ret1, wq_ret2, wq_ret3, wq_ret4, ldR0, ldI1, wq_callS1_1, ldI2, mrg_1_, wq_callV2_0, mrg_2_, mrg_0_, fk_11_3, wq_callV1_0, mrg_m1_, stI3, stL4, stL6, stI8, ldI8, mrg_6_, fk_11_0, mrg_13_, stL9, ldL9, ldL6, ldL4, wqinc8, ldI3, mPut_s, mPut_I0, mPut_R0, mPut_L0, mPut_I1, mPut_R1, mPut_L1, mGo_n, sfxX11_tells_15, cutX11_tells_15, sfxX11_tells_19, cutX11_tells_19, sfxX11_tells_35, cutX11_tells_35, sfxX11_tells_39, cutX11_tells_39, sfxX11_tells_40, cutX11_tells_40, sfxX11_tells_52, cutX11_tells_52, sfxX11_tells_67, cutX11_tells_67, sfxX11_tells_90, cutX11_tells_90, sfxX11_tells_140, cutX11_tells_140, sfxX11_tells_155, cutX11_tells_155, sfxX11_tells_161, cutX11_tells_161, wq_cut, mGo_c, mMask_t, mMask_f, mMask_n, kX11_tells_161, kX11_tells_155, kX11_tells_140, kX11_tells_90, kX11_tells_67, kX11_tells_52, kX11_tells_40, kX11_tells_39, kX11_tells_35, kX11_tells_19, kX11_tells_15, kX11_tells_0, sk_200, al_200, rf_200_0, sk_201, al_201, sn_201, ald_n, ro0_n, al_ro, SX11_tells_0, SX11_tells_1, SX11_tells_2, SX11_tells_3, SX11_tells_4, SX11_tells_5, SX11_tells_6, shqI_, shqRI_, shqR_, spX11_isWay, spX11_isKept, spX11_putsBy, spX11_takesWay, spX11_meanOf, spX11_lowOf, spX11_givesBack, mrg, mrl, mSet_ap, ncast, Option.some.injEq, eA, eB, er, e13, el]
      (try simp only [mrg, mrl] at *) <;> repeat' (first | (with_reducible assumption) | (with_reducible apply And.intro) | intro _)
      all_goals first | omega | exact ⟨6 - (j + 1), by omega, j + 1, _, by rw [ts, if_pos (by omega)]; rfl, ⟨ka, kb, kea, keb⟩, by omega, rfl, mp, h208⟩ | exact ⟨6 - (j + 1), by omega, j + 1, _, by rw [ts, if_pos (by omega)]; rfl, ⟨ka, kb, kea, keb⟩, by omega, rfl, mp2, h208b⟩ | exact ⟨6 - (j + 1), by omega, j + 1, _, by rw [ts, if_neg (by omega)]; rfl, ⟨ka, kb, kea, keb⟩, by omega, rfl, mp2, h208b⟩ | skip
    · simp only [false_and, and_false, true_or, or_true, false_or, or_false, true_and, and_true, true_implies, false_implies, implies_true, not_true_eq_false, not_false_eq_true, and_self, List.length_cons, List.length_nil, mNoCut_, mCat_n, mCat_I, mCat_L, mCat_R, mIsL_n, mIsL_I, mIsL_R, mIsL_L, Nat.reduceAdd, Nat.reduceSub, Nat.reduceLeDiff, Nat.reduceLT, Nat.reduceEqDiff, Nat.zero_le, Int.reduceEq, Int.reduceLT, Int.reduceLE, Int.reduceNeg, Int.reduceAdd, if_true, if_false, reduceIte, reduceCtorEq, Bool.false_eq_true, ne_eq, qCmp_0, qCmp_1, qCmp_2, qCmp_3, qCmp_4, qCmp_5, ib_0, ib_1, ib_2, lb_0, lb_1, lb_2, dv_0, dv_1, wq_ic, wq_lc, wq_ld_i, wq_ld_l, wq_ld_a, wq_st_i, wq_st_l, wq_iinc, wq_ib, wq_lb, wq_icmp, wq_if, wq_lcmp, wq_goto, wq_get, mGet_0, mGet_1, mGet_2, mGet_3, wq_putI, wq_putL, wq_ald, wq_ret0, wq_ret1, wq_ret2, wq_ret3, wq_ret4, ldR0, ldI1, wq_callS1_1, ldI2, mrg_1_, wq_callV2_0, mrg_2_, mrg_0_, fk_11_3, wq_callV1_0, mrg_m1_, stI3, stL4, stL6, stI8, ldI8, mrg_6_, fk_11_0, mrg_13_, stL9, ldL9, ldL6, ldL4, wqinc8, ldI3, mPut_s, mPut_I0, mPut_R0, mPut_L0, mPut_I1, mPut_R1, mPut_L1, mGo_n, sfxX11_tells_15, cutX11_tells_15, sfxX11_tells_19, cutX11_tells_19, sfxX11_tells_35, cutX11_tells_35, sfxX11_tells_39, cutX11_tells_39, sfxX11_tells_40, cutX11_tells_40, sfxX11_tells_52, cutX11_tells_52, sfxX11_tells_67, cutX11_tells_67, sfxX11_tells_90, cutX11_tells_90, sfxX11_tells_140, cutX11_tells_140, sfxX11_tells_155, cutX11_tells_155, sfxX11_tells_161, cutX11_tells_161, wq_cut, mGo_c, mMask_t, mMask_f, mMask_n, kX11_tells_161, kX11_tells_155, kX11_tells_140, kX11_tells_90, kX11_tells_67, kX11_tells_52, kX11_tells_40, kX11_tells_39, kX11_tells_35, kX11_tells_19, kX11_tells_15, kX11_tells_0, sk_200, al_200, rf_200_0, sk_201, al_201, sn_201, ald_n, ro0_n, al_ro, SX11_tells_0, SX11_tells_1, SX11_tells_2, SX11_tells_3, SX11_tells_4, SX11_tells_5, SX11_tells_6, shqI_, shqRI_, shqR_, spX11_isWay, spX11_isKept, spX11_putsBy, spX11_takesWay, spX11_meanOf, spX11_lowOf, spX11_givesBack, mrg, mrl, mSet_ap, ncast, Option.some.injEq]
      (try simp only [mrg, mrl] at *) <;> repeat' (first | (with_reducible assumption) | (with_reducible apply And.intro) | intro _)
      all_goals first | omega | exact hfin (by omega) | skip
  · show mWp _ _ _ _ _ _ kX11_tells_0 [some (mR (some 200)), some (mI a), some (mI b), none, none, none, none, none, none, none, none] [] I
    have hk := fun z : wayP a => (H.2.2.2.2.2.2 a z.1 z.2).1
    have hk2 := fun z : wayP b => (H.2.2.2.2.2.2 b z.1 z.2).1
    simp only [false_and, and_false, true_or, or_true, false_or, or_false, true_and, and_true, true_implies, false_implies, implies_true, not_true_eq_false, not_false_eq_true, and_self, List.length_cons, List.length_nil, mNoCut_, mCat_n, mCat_I, mCat_L, mCat_R, mIsL_n, mIsL_I, mIsL_R, mIsL_L, Nat.reduceAdd, Nat.reduceSub, Nat.reduceLeDiff, Nat.reduceLT, Nat.reduceEqDiff, Nat.zero_le, Int.reduceEq, Int.reduceLT, Int.reduceLE, Int.reduceNeg, Int.reduceAdd, if_true, if_false, reduceIte, reduceCtorEq, Bool.false_eq_true, ne_eq, qCmp_0, qCmp_1, qCmp_2, qCmp_3, qCmp_4, qCmp_5, ib_0, ib_1, ib_2, lb_0, lb_1, lb_2, dv_0, dv_1, wq_ic, wq_lc, wq_ld_i, wq_ld_l, wq_ld_a, wq_st_i, wq_st_l, wq_iinc, wq_ib, wq_lb, wq_icmp, wq_if, wq_lcmp, wq_goto, wq_get, mGet_0, mGet_1, mGet_2, mGet_3, wq_putI, wq_putL, wq_ald, wq_ret0, wq_ret1, wq_ret2, wq_ret3, wq_ret4, ldR0, ldI1, wq_callS1_1, ldI2, mrg_1_, wq_callV2_0, mrg_2_, mrg_0_, fk_11_3, wq_callV1_0, mrg_m1_, stI3, stL4, stL6, stI8, ldI8, mrg_6_, fk_11_0, mrg_13_, stL9, ldL9, ldL6, ldL4, wqinc8, ldI3, mPut_s, mPut_I0, mPut_R0, mPut_L0, mPut_I1, mPut_R1, mPut_L1, mGo_n, sfxX11_tells_15, cutX11_tells_15, sfxX11_tells_19, cutX11_tells_19, sfxX11_tells_35, cutX11_tells_35, sfxX11_tells_39, cutX11_tells_39, sfxX11_tells_40, cutX11_tells_40, sfxX11_tells_52, cutX11_tells_52, sfxX11_tells_67, cutX11_tells_67, sfxX11_tells_90, cutX11_tells_90, sfxX11_tells_140, cutX11_tells_140, sfxX11_tells_155, cutX11_tells_155, sfxX11_tells_161, cutX11_tells_161, wq_cut, mGo_c, mMask_t, mMask_f, mMask_n, kX11_tells_161, kX11_tells_155, kX11_tells_140, kX11_tells_90, kX11_tells_67, kX11_tells_52, kX11_tells_40, kX11_tells_39, kX11_tells_35, kX11_tells_19, kX11_tells_15, kX11_tells_0, sk_200, al_200, rf_200_0, sk_201, al_201, sn_201, ald_n, ro0_n, al_ro, SX11_tells_0, SX11_tells_1, SX11_tells_2, SX11_tells_3, SX11_tells_4, SX11_tells_5, SX11_tells_6, shqI_, shqRI_, shqR_, spX11_isWay, spX11_isKept, spX11_putsBy, spX11_takesWay, spX11_meanOf, spX11_lowOf, spX11_givesBack, mrg, mrl, mSet_ap, ncast, Option.some.injEq, set_201, set_over1]
    (try simp only [mrg, mrl] at *) <;> repeat' (first | (with_reducible assumption) | (with_reducible apply And.intro) | intro _)
    all_goals first | omega | assumption | exact h1 (by omega) | exact h2 (by omega) (by omega) | exact ⟨6, 0, stT (I 201), rfl, ⟨by omega, by omega, by omega, by omega⟩, by omega, rfl, by rw [stR_self]; exact (mPost.thr I 0).note ⟨by decide, by decide⟩ _ _, fun g g0 g1 => by (have e := noteM_at (mSet I 200 3 0) 208 (stT (I 201)) (n := 9) ⟨g0, g1⟩); first | exact e | (rw [set_201]; exact e)⟩ | skip
theorem ctrX11_tells {l : Launch} (hst : l.stackTraces = false) (hT : mTxM l) : mCtr l calX11_tells spX11_tells :=
  mMet (T := TX11_tells) (S := SX11_tells) hst hT cutX11_tells (by decide) okX11_tells ⟨_, _, rfl, rfl⟩ trivial (fun t bs h => by rcases cutsX11_tells h with ⟨-, rfl⟩ <;> rfl) (fun a => match a with
    | 0 => ctrX11_isWay hst hT
    | 1 => ctrX11_isKept hst hT
    | 2 => ctrX11_putsBy hst hT
    | 3 => ctrX11_takesWay hst hT
    | 4 => ctrX11_meanOf hst hT
    | 5 => ctrX11_lowOf hst hT
    | 6 => ctrX11_givesBack hst hT
    | _ + 7 => mCtr_no) vcX11_tells

def bowlN (t : Int → Int) : Nat → Int
  | 0 => -1
  | n + 1 => if 0 < t (13 + (n : Int)) ∧ (bowlN t n = -1 ∨ meanT t n * (10000 * allT t (bowlN t n)) < meanT t (bowlN t n) * (10000 * allT t n)) then n else bowlN t n
theorem bowlN_bd (t : Int → Int) : ∀ n : Nat, -1 ≤ bowlN t n ∧ bowlN t n < n
  | 0 => by simp [bowlN]
  | n + 1 => by
    have ih := bowlN_bd t n
    simp only [bowlN]
    split <;> omega
def spX11_bowl : mSp := shR (fun _ i I Q => i = some 200 ∧ WFt (I 201) ∧ Q (.inl (some (mI (bowlN (I 201) 6)))) (mSet I 200 3 0))
def SX11_bowl : Nat → mSp := fun a => match a with
  | 0 => spX11_meanOf
  | 1 => spX11_lowOf
  | _ => fun _ _ _ _ => False
theorem SX11_bowl_0 : SX11_bowl 0 = spX11_meanOf := Eq.trans rfl rfl
theorem SX11_bowl_1 : SX11_bowl 1 = spX11_lowOf := Eq.trans rfl rfl
theorem cutsX11_bowl {t : Nat} {bs : List Bool} (h : cutX11_bowl t = some bs) : (t = 9 ∧ bs = [true, true, true]) := by
  unfold cutX11_bowl at h
  simp only [mLk] at h
  by_cases h0 : 9 = t
  · subst h0
    simp at h
    exact ⟨rfl, h.symm⟩
  rw [if_neg h0] at h
  cases h
set_option maxRecDepth 100000 in
set_option maxHeartbeats 4000000 in
theorem vcX11_bowl (fl : Nat → Bool) (avs : List mV) (I : mM) (Q : mO → mM → Prop) (hsp : spX11_bowl fl avs I Q) : mVC SX11_bowl fl Q kX11_bowl cutX11_bowl 3 avs I := by
  obtain ⟨i, rfl, h0⟩ := shR_inv hsp
  obtain ⟨rfl, H, h⟩ := h0
  refine ⟨rfl, (fun m t lv st I1 => st = [] ∧ I1 = mSet I 200 3 0 ∧ ∃ j : Nat, lv = [some (mR (some 200)), some (mI (bowlN (I 201) j)), some (mI j)] ∧ j ≤ 6 ∧ m = 6 - j), ?_, ?_⟩
  · intro n t bs hbs lv st I1 hc
    rcases cutsX11_bowl hbs with ⟨rfl, rfl⟩
    rw [sfxX11_bowl_9]
    obtain ⟨rfl, rfl, j, rfl, hj, hm⟩ := hc
    have bb := bowlN_bd (I 201) j
    have hn8 := fun z : (j : Int) < 6 => H.2.1 j (by omega) z
    have m1 := fun z : (j : Int) < 6 => meanT_bd H (b := j) ⟨by omega, z⟩
    have m2 := fun z : bowlN (I 201) j ≠ -1 => meanT_bd H (b := bowlN (I 201) j) ⟨by omega, by omega⟩
    have a1 := fun z : (j : Int) < 6 => allT_bd H (b := j) ⟨by omega, z⟩
    have a2 := fun z : bowlN (I 201) j ≠ -1 => allT_bd H (b := bowlN (I 201) j) ⟨by omega, by omega⟩
    have p1 := fun (z : (j : Int) < 6) (z2 : bowlN (I 201) j ≠ -1) => mul_abs_bd (x := 10000 * allT (I 201) (bowlN (I 201) j)) (a := 7920000) (b := 1568160000) (y := meanT (I 201) j) ⟨by have := a2 z2; omega, by have := a2 z2; omega⟩ ⟨by have := m1 z; omega, by have := m1 z; omega⟩
    have p2 := fun (z : (j : Int) < 6) (z2 : bowlN (I 201) j ≠ -1) => mul_abs_bd (x := 10000 * allT (I 201) j) (a := 7920000) (b := 1568160000) (y := meanT (I 201) (bowlN (I 201) j)) ⟨by have := a1 z; omega, by have := a1 z; omega⟩ ⟨by have := m2 z2; omega, by have := m2 z2; omega⟩
    have bs : bowlN (I 201) (j + 1) = if 0 < I 201 (13 + (j : Int)) ∧ (bowlN (I 201) j = -1 ∨ meanT (I 201) j * (10000 * allT (I 201) (bowlN (I 201) j)) < meanT (I 201) (bowlN (I 201) j) * (10000 * allT (I 201) j)) then (j : Int) else bowlN (I 201) j := rfl
    rw [Int.mul_comm (10000 * allT (I 201) (bowlN (I 201) j))] at p1
    rw [Int.mul_comm (10000 * allT (I 201) j)] at p2
    generalize hX : bowlN (I 201) j = X at *
    simp only [false_and, and_false, true_or, or_true, false_or, or_false, true_and, and_true, true_implies, false_implies, implies_true, not_true_eq_false, not_false_eq_true, and_self, List.length_cons, List.length_nil, mNoCut_, mCat_n, mCat_I, mCat_L, mCat_R, mIsL_n, mIsL_I, mIsL_R, mIsL_L, Nat.reduceAdd, Nat.reduceSub, Nat.reduceLeDiff, Nat.reduceLT, Nat.reduceEqDiff, Nat.zero_le, Int.reduceEq, Int.reduceLT, Int.reduceLE, Int.reduceNeg, Int.reduceAdd, if_true, if_false, reduceIte, reduceCtorEq, Bool.false_eq_true, ne_eq, qCmp_0, qCmp_1, qCmp_2, qCmp_3, qCmp_4, qCmp_5, ib_0, ib_1, ib_2, lb_0, lb_1, lb_2, dv_0, dv_1, wq_ic, wq_ld_i, wq_ld_a, wq_st_i, wq_iinc, wq_ib, wq_lb, wq_icmp, wq_if, wq_lcmp, wq_goto, wq_get, mGet_0, mGet_1, mGet_2, mGet_3, wq_putI, wq_putL, wq_ald, wq_ret0, wq_ret1, wq_ret2, wq_ret3, wq_ret4, ldR0, mrg_0_, fk_11_3, mrg_m1_, stI1, stI2, ldI2, mrg_6_, fk_11_0, mrg_13_, ldI1, wq_callV2_0, wqinc2, mPut_s, mPut_I0, mPut_R0, mPut_L0, mPut_I1, mPut_R1, mPut_L1, mGo_n, sfxX11_bowl_9, cutX11_bowl_9, sfxX11_bowl_58, cutX11_bowl_58, sfxX11_bowl_60, cutX11_bowl_60, sfxX11_bowl_66, cutX11_bowl_66, wq_cut, mGo_c, mMask_t, mMask_f, mMask_n, kX11_bowl_66, kX11_bowl_60, kX11_bowl_58, kX11_bowl_9, kX11_bowl_0, sk_200, al_200, rf_200_0, sk_201, al_201, sn_201, ald_n, ro0_n, al_ro, SX11_bowl_0, SX11_bowl_1, shqRI_, spX11_meanOf, spX11_lowOf, mrg, mrl, mSet_ap, ncast, Option.some.injEq, set_201]
    (try simp only [mrg, mrl] at *) <;> repeat' (first | (with_reducible assumption) | (with_reducible apply And.intro) | intro _)
    all_goals first | omega | assumption | (have : j = 6 := by omega); subst this; rw [hX] at h; exact h | exact ⟨6 - (j + 1), by omega, j + 1, by rw [bs, if_pos (by omega)]; rfl, by omega, rfl⟩ | exact ⟨6 - (j + 1), by omega, j + 1, by rw [bs, if_neg (by omega)]; rfl, by omega, rfl⟩ | skip
  · show mWp _ _ _ _ _ _ kX11_bowl_0 [some (mR (some 200)), none, none] [] I
    simp only [false_and, and_false, true_or, or_true, false_or, or_false, true_and, and_true, true_implies, false_implies, implies_true, not_true_eq_false, not_false_eq_true, and_self, List.length_cons, List.length_nil, mNoCut_, mCat_n, mCat_I, mCat_L, mCat_R, mIsL_n, mIsL_I, mIsL_R, mIsL_L, Nat.reduceAdd, Nat.reduceSub, Nat.reduceLeDiff, Nat.reduceLT, Nat.reduceEqDiff, Nat.zero_le, Int.reduceEq, Int.reduceLT, Int.reduceLE, Int.reduceNeg, Int.reduceAdd, if_true, if_false, reduceIte, reduceCtorEq, Bool.false_eq_true, ne_eq, qCmp_0, qCmp_1, qCmp_2, qCmp_3, qCmp_4, qCmp_5, ib_0, ib_1, ib_2, lb_0, lb_1, lb_2, dv_0, dv_1, wq_ic, wq_ld_i, wq_ld_a, wq_st_i, wq_iinc, wq_ib, wq_lb, wq_icmp, wq_if, wq_lcmp, wq_goto, wq_get, mGet_0, mGet_1, mGet_2, mGet_3, wq_putI, wq_putL, wq_ald, wq_ret0, wq_ret1, wq_ret2, wq_ret3, wq_ret4, ldR0, mrg_0_, fk_11_3, mrg_m1_, stI1, stI2, ldI2, mrg_6_, fk_11_0, mrg_13_, ldI1, wq_callV2_0, wqinc2, mPut_s, mPut_I0, mPut_R0, mPut_L0, mPut_I1, mPut_R1, mPut_L1, mGo_n, sfxX11_bowl_9, cutX11_bowl_9, sfxX11_bowl_58, cutX11_bowl_58, sfxX11_bowl_60, cutX11_bowl_60, sfxX11_bowl_66, cutX11_bowl_66, wq_cut, mGo_c, mMask_t, mMask_f, mMask_n, kX11_bowl_66, kX11_bowl_60, kX11_bowl_58, kX11_bowl_9, kX11_bowl_0, sk_200, al_200, rf_200_0, sk_201, al_201, sn_201, ald_n, ro0_n, al_ro, SX11_bowl_0, SX11_bowl_1, shqRI_, spX11_meanOf, spX11_lowOf, mrg, mrl, mSet_ap, ncast, Option.some.injEq]
    exact ⟨6, 0, rfl, by omega, rfl⟩
theorem ctrX11_bowl {l : Launch} (hst : l.stackTraces = false) (hT : mTxM l) : mCtr l calX11_bowl spX11_bowl :=
  mMet (T := TX11_bowl) (S := SX11_bowl) hst hT cutX11_bowl (by decide) okX11_bowl ⟨_, _, rfl, rfl⟩ trivial (fun t bs h => by rcases cutsX11_bowl h with ⟨-, rfl⟩ <;> rfl) (fun a => match a with
    | 0 => ctrX11_meanOf hst hT
    | 1 => ctrX11_lowOf hst hT
    | _ + 2 => mCtr_no) vcX11_bowl

theorem put_back (t : Int → Int) (f c : Int) : putT (putT t f c) f (stT t f) = t := by
  funext q
  simp only [putT, stT]
  split
  · rename_i h
    rw [h]
  · rfl
theorem supp_mem (I : mM) (f c : Int) : mSet (mSet I 201 (550 + 5 * f) c) 201 (550 + 5 * f) (stT (I 201) f) = I := by
  rw [set_over1]
  exact set_self I 201 (550 + 5 * f)
def spX11_supposes : mSp := shRIII (fun _ i f b c I Q => i = some 200 ∧ WFt (I 201) ∧ (0 ≤ f ∧ f < 9) ∧ (0 ≤ b ∧ b < 6) ∧ (-1 ≤ c ∧ c ≤ 288) ∧ (allT (I 201) b = 0 → Q (.inl (some (mI 0))) (mSet (mSet I 200 16 0) 200 17 0)) ∧ (¬ allT (I 201) b = 0 → Q (.inl (some (mI 1))) (mSet (mSet I 200 16 (upT (meanT (putT (I 201) f c) b - meanT (I 201) b) (10000 * allT (I 201) b))) 200 17 (loT (meanT (putT (I 201) f c) b - meanT (I 201) b) (10000 * allT (I 201) b)))))
def SX11_supposes : Nat → mSp := fun a => match a with
  | 0 => spX11_standOf
  | 1 => spX11_meanOf
  | 2 => spX11_puts
  | 3 => spX11_lowOf
  | 4 => spX11_takes
  | _ => fun _ _ _ _ => False
theorem SX11_supposes_0 : SX11_supposes 0 = spX11_standOf := Eq.trans rfl rfl
theorem SX11_supposes_1 : SX11_supposes 1 = spX11_meanOf := Eq.trans rfl rfl
theorem SX11_supposes_2 : SX11_supposes 2 = spX11_puts := Eq.trans rfl rfl
theorem SX11_supposes_3 : SX11_supposes 3 = spX11_lowOf := Eq.trans rfl rfl
theorem SX11_supposes_4 : SX11_supposes 4 = spX11_takes := Eq.trans rfl rfl
set_option maxRecDepth 100000 in
set_option maxHeartbeats 4000000 in
theorem vcX11_supposes (fl : Nat → Bool) (avs : List mV) (I : mM) (Q : mO → mM → Prop) (hsp : spX11_supposes fl avs I Q) : mVC0 SX11_supposes fl Q kX11_supposes 9 avs I := by
  obtain ⟨i, f, b, c, rfl, h0⟩ := shRIII_inv hsp
  refine ⟨rfl, ?_⟩
  show mWp _ _ _ _ _ _ kX11_supposes_0 [some (mR i), some (mI f), some (mI b), some (mI c), none, none, none, none, none] [] I
  obtain ⟨rfl, H, hf, hb, hc, h1, h2⟩ := h0
  have H2 := H.put hf hc
  have m1 := meanT_bd H hb
  have m2 := meanT_bd H2 hb
  have a1 := allT_bd H hb
  have em := supp_mem I f c
  have ep := put_back (I 201) f c
  simp only [false_and, and_false, true_or, or_true, false_or, or_false, true_and, and_true, true_implies, false_implies, implies_true, not_true_eq_false, not_false_eq_true, and_self, List.length_cons, List.length_nil, mNoCut_, mCat_n, mCat_I, mCat_L, mCat_R, mIsL_n, mIsL_I, mIsL_R, mIsL_L, Nat.reduceAdd, Nat.reduceSub, Nat.reduceLeDiff, Nat.reduceLT, Nat.reduceEqDiff, Nat.zero_le, Int.reduceEq, Int.reduceLT, Int.reduceLE, Int.reduceNeg, Int.reduceAdd, if_true, if_false, reduceIte, reduceCtorEq, Bool.false_eq_true, ne_eq, qCmp_0, qCmp_1, qCmp_2, qCmp_3, qCmp_4, qCmp_5, ib_0, ib_1, ib_2, lb_0, lb_1, lb_2, dv_0, dv_1, wq_ld_i, wq_ld_l, wq_ld_a, wq_st_i, wq_st_l, wq_lb, wq_ret0, wq_ret1, wq_ret2, wq_ret3, wq_ret4, ldR0, ldI1, wq_callV2_0, stI4, ldI2, stL5, ldI3, wq_callV3_0, stL7, ldI4, ldL7, ldL5, mPut_s, mPut_I0, mPut_R0, mPut_L0, mPut_I1, mPut_R1, mPut_L1, kX11_supposes_0, sk_200, al_200, SX11_supposes_0, SX11_supposes_1, SX11_supposes_2, SX11_supposes_3, SX11_supposes_4, shqRI_, shqRII_, shqRLL_, spX11_standOf, spX11_meanOf, spX11_puts, spX11_lowOf, spX11_takes, mrg, mrl, mSet_ap, ncast, Option.some.injEq, set_put, em, ep]
  (try simp only [mrg, mrl] at *) <;> repeat' (first | (with_reducible assumption) | (with_reducible apply And.intro) | intro _)
  all_goals first | omega | assumption | exact h1 (by omega) | exact h2 (by omega) | skip
theorem ctrX11_supposes {l : Launch} (hst : l.stackTraces = false) (hT : mTxM l) : mCtr l calX11_supposes spX11_supposes :=
  mMet0 (T := TX11_supposes) (S := SX11_supposes) hst hT (by decide) okX11_supposes ⟨_, _, rfl, rfl⟩ (fun a => match a with
    | 0 => ctrX11_standOf hst hT
    | 1 => ctrX11_meanOf hst hT
    | 2 => ctrX11_puts hst hT
    | 3 => ctrX11_lowOf hst hT
    | 4 => ctrX11_takes hst hT
    | _ + 5 => mCtr_no) vcX11_supposes

def spX11_worth : mSp := shRII (fun _ i f b I Q => i = some 200 ∧ WFt (I 201) ∧ mrg f ∧ mrg b ∧ (¬ (fldP f ∧ ballP b) → Q (.inl (some (mI 0))) (mSet I 200 3 1)) ∧ (fldP f ∧ ballP b → stT (I 201) f = -1 → Q (.inl (some (mI 0))) (mSet I 200 3 2)) ∧ (fldP f ∧ ballP b → ¬ stT (I 201) f = -1 → allT (I 201) b = 0 → Q (.inl (some (mI 0))) (mSet (mSet (mSet I 200 3 0) 200 16 0) 200 17 0)) ∧ (fldP f ∧ ballP b → ¬ stT (I 201) f = -1 → ¬ allT (I 201) b = 0 → Q (.inl (some (mI 1))) (mSet (mSet (mSet I 200 3 0) 200 16 (upT (meanT (putT (I 201) f (-1)) b - meanT (I 201) b) (10000 * allT (I 201) b))) 200 17 (loT (meanT (putT (I 201) f (-1)) b - meanT (I 201) b) (10000 * allT (I 201) b)))))
def SX11_worth : Nat → mSp := fun a => match a with
  | 0 => spX11_isFielder
  | 1 => spX11_isBall
  | 2 => spX11_standOf
  | 3 => spX11_supposes
  | _ => fun _ _ _ _ => False
theorem SX11_worth_0 : SX11_worth 0 = spX11_isFielder := Eq.trans rfl rfl
theorem SX11_worth_1 : SX11_worth 1 = spX11_isBall := Eq.trans rfl rfl
theorem SX11_worth_2 : SX11_worth 2 = spX11_standOf := Eq.trans rfl rfl
theorem SX11_worth_3 : SX11_worth 3 = spX11_supposes := Eq.trans rfl rfl
set_option maxRecDepth 100000 in
set_option maxHeartbeats 4000000 in
theorem vcX11_worth (fl : Nat → Bool) (avs : List mV) (I : mM) (Q : mO → mM → Prop) (hsp : spX11_worth fl avs I Q) : mVC0 SX11_worth fl Q kX11_worth 3 avs I := by
  obtain ⟨i, f, b, rfl, h0⟩ := shRII_inv hsp
  refine ⟨rfl, ?_⟩
  show mWp _ _ _ _ _ _ kX11_worth_0 [some (mR i), some (mI f), some (mI b)] [] I
  obtain ⟨rfl, H, hf, hb, h1, h2, h3, h4⟩ := h0
  have fl1 := fun z : fldP f => H.fld (f := f) z
  simp only [false_and, and_false, true_or, or_true, false_or, or_false, true_and, and_true, true_implies, false_implies, implies_true, not_true_eq_false, not_false_eq_true, and_self, List.length_cons, List.length_nil, mNoCut_, mCat_n, mCat_I, mCat_L, mCat_R, mIsL_n, mIsL_I, mIsL_R, mIsL_L, Nat.reduceAdd, Nat.reduceSub, Nat.reduceLeDiff, Nat.reduceLT, Nat.reduceEqDiff, Nat.zero_le, Int.reduceEq, Int.reduceLT, Int.reduceLE, Int.reduceNeg, Int.reduceAdd, if_true, if_false, reduceIte, reduceCtorEq, Bool.false_eq_true, ne_eq, qCmp_0, qCmp_1, qCmp_2, qCmp_3, qCmp_4, qCmp_5, ib_0, ib_1, ib_2, lb_0, lb_1, lb_2, dv_0, dv_1, wq_ic, wq_ld_i, wq_ld_a, wq_icmp, wq_if, wq_goto, wq_get, mGet_0, mGet_1, mGet_2, mGet_3, wq_putI, wq_putL, wq_ret0, wq_ret1, wq_ret2, wq_ret3, wq_ret4, ldR0, ldI1, wq_callS1_1, ldI2, mrg_1_, wq_callV2_0, mrg_m1_, mrg_2_, mrg_0_, fk_11_3, wq_callV4_0, mGo_n, sfxX11_worth_15, cutX11_worth_15, sfxX11_worth_19, cutX11_worth_19, sfxX11_worth_32, cutX11_worth_32, sfxX11_worth_33, cutX11_worth_33, sfxX11_worth_57, cutX11_worth_57, sfxX11_worth_58, cutX11_worth_58, kX11_worth_58, kX11_worth_57, kX11_worth_33, kX11_worth_32, kX11_worth_19, kX11_worth_15, kX11_worth_0, sk_200, al_200, SX11_worth_0, SX11_worth_1, SX11_worth_2, SX11_worth_3, shqI_, shqRI_, shqRIII_, spX11_isFielder, spX11_isBall, spX11_standOf, spX11_supposes, mrg, mrl, mSet_ap, ncast, Option.some.injEq, set_201, set_over1]
  (try simp only [mrg, mrl] at *) <;> repeat' (first | (with_reducible assumption) | (with_reducible apply And.intro) | intro _)
  all_goals first | omega | assumption | exact h1 (by omega) | exact h2 (by omega) (by omega) | exact h3 (by omega) (by omega) (by omega) | exact h4 (by omega) (by omega) (by omega) | skip
theorem ctrX11_worth {l : Launch} (hst : l.stackTraces = false) (hT : mTxM l) : mCtr l calX11_worth spX11_worth :=
  mMet0 (T := TX11_worth) (S := SX11_worth) hst hT (by decide) okX11_worth ⟨_, _, rfl, rfl⟩ (fun a => match a with
    | 0 => ctrX11_isFielder hst hT
    | 1 => ctrX11_isBall hst hT
    | 2 => ctrX11_standOf hst hT
    | 3 => ctrX11_supposes hst hT
    | _ + 4 => mCtr_no) vcX11_worth

def spX11_brave : mSp := shRIII (fun _ i f b c I Q => i = some 200 ∧ WFt (I 201) ∧ mrg f ∧ mrg b ∧ mrg c ∧ (¬ (fldP f ∧ ballP b) → Q (.inl (some (mI 0))) (mSet I 200 3 1)) ∧ (fldP f ∧ ballP b → stT (I 201) f = -1 → Q (.inl (some (mI 0))) (mSet I 200 3 2)) ∧ (fldP f ∧ ballP b → ¬ stT (I 201) f = -1 → ¬ (0 ≤ c ∧ c ≤ 288) → Q (.inl (some (mI 0))) (mSet I 200 3 3)) ∧ (fldP f ∧ ballP b → ¬ stT (I 201) f = -1 → (0 ≤ c ∧ c ≤ 288) → allT (I 201) b = 0 → Q (.inl (some (mI 0))) (mSet (mSet (mSet I 200 3 0) 200 16 0) 200 17 0)) ∧ (fldP f ∧ ballP b → ¬ stT (I 201) f = -1 → (0 ≤ c ∧ c ≤ 288) → ¬ allT (I 201) b = 0 → Q (.inl (some (mI 1))) (mSet (mSet (mSet I 200 3 0) 200 16 (upT (meanT (putT (I 201) f c) b - meanT (I 201) b) (10000 * allT (I 201) b))) 200 17 (loT (meanT (putT (I 201) f c) b - meanT (I 201) b) (10000 * allT (I 201) b)))))
def SX11_brave : Nat → mSp := fun a => match a with
  | 0 => spX11_isFielder
  | 1 => spX11_isBall
  | 2 => spX11_standOf
  | 3 => spX11_isCell
  | 4 => spX11_supposes
  | _ => fun _ _ _ _ => False
theorem SX11_brave_0 : SX11_brave 0 = spX11_isFielder := Eq.trans rfl rfl
theorem SX11_brave_1 : SX11_brave 1 = spX11_isBall := Eq.trans rfl rfl
theorem SX11_brave_2 : SX11_brave 2 = spX11_standOf := Eq.trans rfl rfl
theorem SX11_brave_3 : SX11_brave 3 = spX11_isCell := Eq.trans rfl rfl
theorem SX11_brave_4 : SX11_brave 4 = spX11_supposes := Eq.trans rfl rfl
set_option maxRecDepth 100000 in
set_option maxHeartbeats 4000000 in
theorem vcX11_brave (fl : Nat → Bool) (avs : List mV) (I : mM) (Q : mO → mM → Prop) (hsp : spX11_brave fl avs I Q) : mVC0 SX11_brave fl Q kX11_brave 4 avs I := by
  obtain ⟨i, f, b, c, rfl, h0⟩ := shRIII_inv hsp
  refine ⟨rfl, ?_⟩
  show mWp _ _ _ _ _ _ kX11_brave_0 [some (mR i), some (mI f), some (mI b), some (mI c)] [] I
  obtain ⟨rfl, H, hf, hb, hc, h1, h2, h3, h4, h5⟩ := h0
  have fl1 := fun z : fldP f => H.fld (f := f) z
  simp only [false_and, and_false, true_or, or_true, false_or, or_false, true_and, and_true, true_implies, false_implies, implies_true, not_true_eq_false, not_false_eq_true, and_self, List.length_cons, List.length_nil, mNoCut_, mCat_n, mCat_I, mCat_L, mCat_R, mIsL_n, mIsL_I, mIsL_R, mIsL_L, Nat.reduceAdd, Nat.reduceSub, Nat.reduceLeDiff, Nat.reduceLT, Nat.reduceEqDiff, Nat.zero_le, Int.reduceEq, Int.reduceLT, Int.reduceLE, Int.reduceNeg, Int.reduceAdd, if_true, if_false, reduceIte, reduceCtorEq, Bool.false_eq_true, ne_eq, qCmp_0, qCmp_1, qCmp_2, qCmp_3, qCmp_4, qCmp_5, ib_0, ib_1, ib_2, lb_0, lb_1, lb_2, dv_0, dv_1, wq_ic, wq_ld_i, wq_ld_a, wq_i2l, wq_icmp, wq_if, wq_goto, wq_get, mGet_0, mGet_1, mGet_2, mGet_3, wq_putI, wq_putL, wq_ret0, wq_ret1, wq_ret2, wq_ret3, wq_ret4, ldR0, ldI1, wq_callS1_1, ldI2, mrg_1_, wq_callV2_0, mrg_m1_, mrg_2_, ldI3, mrg_3_, mrg_0_, fk_11_3, wq_callV4_0, mGo_n, sfxX11_brave_15, cutX11_brave_15, sfxX11_brave_19, cutX11_brave_19, sfxX11_brave_32, cutX11_brave_32, sfxX11_brave_44, cutX11_brave_44, sfxX11_brave_45, cutX11_brave_45, sfxX11_brave_69, cutX11_brave_69, sfxX11_brave_70, cutX11_brave_70, kX11_brave_70, kX11_brave_69, kX11_brave_45, kX11_brave_44, kX11_brave_32, kX11_brave_19, kX11_brave_15, kX11_brave_0, sk_200, al_200, SX11_brave_0, SX11_brave_1, SX11_brave_2, SX11_brave_3, SX11_brave_4, shqI_, shqRI_, shqL_, shqRIII_, spX11_isFielder, spX11_isBall, spX11_standOf, spX11_isCell, spX11_supposes, mrg, mrl, mSet_ap, ncast, Option.some.injEq, set_201, set_over1]
  (try simp only [mrg, mrl] at *) <;> repeat' (first | (with_reducible assumption) | (with_reducible apply And.intro) | intro _)
  all_goals first | omega | assumption | exact h1 (by omega) | exact h2 (by omega) (by omega) | exact h3 (by omega) (by omega) (by omega) | exact h4 (by omega) (by omega) (by omega) (by omega) | exact h5 (by omega) (by omega) (by omega) (by omega) | skip
theorem ctrX11_brave {l : Launch} (hst : l.stackTraces = false) (hT : mTxM l) : mCtr l calX11_brave spX11_brave :=
  mMet0 (T := TX11_brave) (S := SX11_brave) hst hT (by decide) okX11_brave ⟨_, _, rfl, rfl⟩ (fun a => match a with
    | 0 => ctrX11_isFielder hst hT
    | 1 => ctrX11_isBall hst hT
    | 2 => ctrX11_standOf hst hT
    | 3 => ctrX11_isCell hst hT
    | 4 => ctrX11_supposes hst hT
    | _ + 5 => mCtr_no) vcX11_brave

def kindT (t : Int → Int) (k : Int) : Int → Int := fun q => if q = 6 then k else t q
theorem WFt.kind {t : Int → Int} (H : WFt t) {k : Int} (hk : 0 ≤ k ∧ k ≤ 4) : WFt (kindT t k) := by
  obtain ⟨h1, h2, h3, h4, h5, h6, h7⟩ := H
  have ne : ∀ q, q ≠ 6 → kindT t k q = t q := fun q hq => if_neg hq
  refine ⟨?_, fun b b0 b1 => ?_, fun k k0 k1 => ?_, fun k k0 k1 => ?_, fun b h b0 b1 i0 i1 => ?_, fun g g0 g1 => ?_, fun i i0 i1 => ⟨?_, fun g g0 g1 => ?_⟩⟩
  · rw [ne 0 (by omega), ne 1 (by omega), ne 2 (by omega), ne 3 (by omega), ne 4 (by omega), ne 5 (by omega), ne 7 (by omega), ne 8 (by omega)]
    exact ⟨h1.1, h1.2.1, h1.2.2.1, h1.2.2.2.1, h1.2.2.2.2.1, h1.2.2.2.2.2.1, by unfold kindT; rw [if_pos rfl]; exact hk, h1.2.2.2.2.2.2.2⟩
  · rw [ne _ (by omega)]
    exact h2 b b0 b1
  · rw [ne _ (by omega)]
    exact h3 k k0 k1
  · rw [ne _ (by omega), ne _ (by omega), ne _ (by omega), ne _ (by omega), ne _ (by omega)]
    exact h4 k k0 k1
  · rw [ne (13 + b) (by omega)] at i1
    have := h2 b b0 b1
    rw [ne _ (by omega)]
    exact h5 b h b0 b1 i0 i1
  · rw [ne _ (by omega), ne _ (by omega), ne _ (by omega), ne _ (by omega), ne _ (by omega)]
    exact h6 g g0 g1
  · rw [ne _ (by omega)]
    exact (h7 i i0 i1).1
  · rw [ne _ (by omega)]
    exact (h7 i i0 i1).2 g g0 g1
theorem set_kind (I : mM) (k : Int) : mSet I 201 6 k 201 = kindT (I 201) k := by
  funext q
  simp [mSet, kindT]
theorem kind_kind (t : Int → Int) (k k' : Int) : kindT (kindT t k) k' = kindT t k' := by
  funext q
  simp only [kindT]
  split <;> rfl
theorem kind_self (t : Int → Int) : kindT t (t 6) = t := by
  funext q
  simp only [kindT]
  split
  · rename_i h
    rw [h]
  · rfl
def bothT (t : Int → Int) (b left : Int) : Int := left * meanT (kindT t 4) b + (100 - left) * meanT (kindT t 0) b
def spX11_both : mSp := shRII (fun _ i b l I Q => i = some 200 ∧ WFt (I 201) ∧ mrg b ∧ mrg l ∧ (¬ ballP b → Q (.inl (some (mI 0))) (mSet I 200 3 1)) ∧ (ballP b → ¬ (0 ≤ l ∧ l ≤ 100) → Q (.inl (some (mI 0))) (mSet I 200 3 2)) ∧ (ballP b → (0 ≤ l ∧ l ≤ 100) → allT (I 201) b = 0 → Q (.inl (some (mI 0))) (mSet (mSet (mSet I 200 3 0) 200 16 0) 200 17 0)) ∧ (ballP b → (0 ≤ l ∧ l ≤ 100) → ¬ allT (I 201) b = 0 → Q (.inl (some (mI 1))) (mSet (mSet (mSet I 200 3 0) 200 16 (upT (bothT (I 201) b l) (100 * (10000 * allT (I 201) b)))) 200 17 (loT (bothT (I 201) b l) (100 * (10000 * allT (I 201) b))))))
def SX11_both : Nat → mSp := fun a => match a with
  | 0 => spX11_isBall
  | 1 => spX11_within
  | 2 => spX11_meanOf
  | 3 => spX11_lowOf
  | 4 => spX11_takes
  | _ => fun _ _ _ _ => False
theorem SX11_both_0 : SX11_both 0 = spX11_isBall := Eq.trans rfl rfl
theorem SX11_both_1 : SX11_both 1 = spX11_within := Eq.trans rfl rfl
theorem SX11_both_2 : SX11_both 2 = spX11_meanOf := Eq.trans rfl rfl
theorem SX11_both_3 : SX11_both 3 = spX11_lowOf := Eq.trans rfl rfl
theorem SX11_both_4 : SX11_both 4 = spX11_takes := Eq.trans rfl rfl
set_option maxRecDepth 100000 in
set_option maxHeartbeats 4000000 in
theorem vcX11_both (fl : Nat → Bool) (avs : List mV) (I : mM) (Q : mO → mM → Prop) (hsp : spX11_both fl avs I Q) : mVC0 SX11_both fl Q kX11_both 6 avs I := by
  obtain ⟨i, b, l, rfl, h0⟩ := shRII_inv hsp
  refine ⟨rfl, ?_⟩
  show mWp _ _ _ _ _ _ kX11_both_0 [some (mR i), some (mI b), some (mI l), none, none, none] [] I
  obtain ⟨rfl, H, hb, hl, h1, h2, h3, h4⟩ := h0
  have H4 := H.kind (k := 4) (by omega)
  have H0 := H.kind (k := 0) (by omega)
  have m4 := fun z : ballP b => meanT_bd H4 z
  have m0 := fun z : ballP b => meanT_bd H0 z
  have a1 := fun z : ballP b => allT_bd H z
  have p4 := fun (z : ballP b) (z2 : 0 ≤ l ∧ l ≤ 100) => mul_abs_bd z2 (m4 z)
  have p0 := fun (z : ballP b) (z2 : 0 ≤ l ∧ l ≤ 100) => mul_abs_bd (x := 100 - l) (a := 100) ⟨by omega, by omega⟩ (m0 z)
  have em : mSet (mSet I 200 3 0) 201 6 (I 201 6) = mSet I 200 3 0 := by
    have e := set_self (mSet I 200 3 0) 201 6
    rw [set_201] at e
    exact e
  have ek : kindT (kindT (I 201) 4) 0 = kindT (I 201) 0 := kind_kind _ _ _
  unfold bothT at h4
  simp only [false_and, and_false, true_or, or_true, false_or, or_false, true_and, and_true, true_implies, false_implies, implies_true, not_true_eq_false, not_false_eq_true, and_self, List.length_cons, List.length_nil, mNoCut_, mCat_n, mCat_I, mCat_L, mCat_R, mIsL_n, mIsL_I, mIsL_R, mIsL_L, Nat.reduceAdd, Nat.reduceSub, Nat.reduceLeDiff, Nat.reduceLT, Nat.reduceEqDiff, Nat.zero_le, Int.reduceEq, Int.reduceLT, Int.reduceLE, Int.reduceNeg, Int.reduceAdd, if_true, if_false, reduceIte, reduceCtorEq, Bool.false_eq_true, ne_eq, qCmp_0, qCmp_1, qCmp_2, qCmp_3, qCmp_4, qCmp_5, ib_0, ib_1, ib_2, lb_0, lb_1, lb_2, dv_0, dv_1, wq_ic, wq_lc, wq_ld_i, wq_ld_l, wq_ld_a, wq_st_i, wq_st_l, wq_ib, wq_lb, wq_i2l, wq_if, wq_goto, wq_get, mGet_0, mGet_1, mGet_2, mGet_3, wq_putI, wq_putL, wq_ald, wq_astI, wq_astL, wq_ret0, wq_ret1, wq_ret2, wq_ret3, wq_ret4, ldR0, ldI1, wq_callS1_1, mrg_1_, ldI2, wq_callS3_1, mrg_0_, mrg_2_, fk_11_3, fk_11_0, mrg_6_, stI3, mrg_4_, wq_callV2_0, stL4, ldL4, mrg_100_, ldI3, wq_callV3_0, mPut_s, mPut_I0, mPut_R0, mPut_L0, mPut_I1, mPut_R1, mPut_L1, mGo_n, sfxX11_both_12, cutX11_both_12, sfxX11_both_28, cutX11_both_28, sfxX11_both_29, cutX11_both_29, sfxX11_both_41, cutX11_both_41, kX11_both_41, kX11_both_29, kX11_both_28, kX11_both_12, kX11_both_0, sk_200, al_200, rf_200_0, sk_201, al_201, sn_201, ald_n, ro0_n, al_ro, SX11_both_0, SX11_both_1, SX11_both_2, SX11_both_3, SX11_both_4, shqI_, shqLLL_, shqRI_, shqRLL_, spX11_isBall, spX11_within, spX11_meanOf, spX11_lowOf, spX11_takes, mrg, mrl, mSet_ap, ncast, Option.some.injEq, set_201, set_over1, set_kind, em, ek, kind_self]
  (try simp only [mrg, mrl] at *) <;> repeat' (first | (with_reducible assumption) | (with_reducible apply And.intro) | intro _)
  all_goals first | omega | assumption | exact h1 (by omega) | exact h2 (by omega) (by omega) | exact h3 (by omega) (by omega) (by omega) | exact h4 (by omega) (by omega) (by omega) | skip
theorem ctrX11_both {l : Launch} (hst : l.stackTraces = false) (hT : mTxM l) : mCtr l calX11_both spX11_both :=
  mMet0 (T := TX11_both) (S := SX11_both) hst hT (by decide) okX11_both ⟨_, _, rfl, rfl⟩ (fun a => match a with
    | 0 => ctrX11_isBall hst hT
    | 1 => ctrX11_within hst hT
    | 2 => ctrX11_meanOf hst hT
    | 3 => ctrX11_lowOf hst hT
    | 4 => ctrX11_takes hst hT
    | _ + 5 => mCtr_no) vcX11_both

end SPM17
