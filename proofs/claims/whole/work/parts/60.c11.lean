section SPC11
theorem clsI_of {I J : mM} (hf : ∀ i, (11 ≤ i ∧ i ≤ 27) ∨ i = 201 → J i = I i) (H : clsI I) : clsI J := by
  unfold clsI repG repQ repD at *
  rw [hf 201 (by decide), hf 11 (by decide), hf (11 + 3) (by decide), hf (11 + 4) (by decide), hf (11 + 5) (by decide), hf (11 + 6) (by decide), hf (11 + 7) (by decide), hf (11 + 8) (by decide), hf 12 (by decide), hf (12 + 8) (by decide), hf (12 + 9) (by decide), hf (12 + 10) (by decide), hf (12 + 11) (by decide), hf (12 + 12) (by decide), hf (12 + 13) (by decide), hf 13 (by decide), hf (13 + 13) (by decide), hf (13 + 14) (by decide)]
  exact H
theorem stR_cpy {I : mM} {t : Int → Int} {a : Int} (ha : 0 ≤ a) (hk : ∀ f : Int, 0 ≤ f → f < 9 → I 25 (9 * a + f) = keptS t a f) : (∀ f : Int, 0 ≤ f → f < 9 → mCpy I 25 3 (a * 9) 0 9 3 f = keptS t a f) := fun f f0 f1 => by
  rw [mCpy_at _ _ _ _ ⟨by omega, by omega⟩, show a * 9 + (f - 0) = 9 * a + f by omega]
  exact hk f f0 f1
def spX10_riseBetween : mSp := shRII (fun _ i a b I Q => i = some 0 ∧ wayP a ∧ wayP b ∧ ∃ t c, ctxU I t c ∧ (∀ f : Int, 0 ≤ f → f < 9 → I 25 (9 * a + f) = keptS t a f) ∧ (∀ f : Int, 0 ≤ f → f < 9 → I 25 (9 * b + f) = keptS t b f) ∧ ∀ I' : mM, (∀ i, i ≠ 3 → i ≠ 130 → I' i = I i) → Q (.inl (some (mL (riseT t a b c)))) I')
def SX10_riseBetween : Nat → mSp := fun a => match a with
  | 0 => spX6_standAs
  | 1 => spX9_meanTop
  | _ => fun _ _ _ _ => False
theorem SX10_riseBetween_0 : SX10_riseBetween 0 = spX6_standAs := Eq.trans rfl rfl
theorem SX10_riseBetween_1 : SX10_riseBetween 1 = spX9_meanTop := Eq.trans rfl rfl
set_option maxRecDepth 100000 in
set_option maxHeartbeats 1000000 in
theorem vcX10_riseBetween (fl : Nat → Bool) (avs : List mV) (I : mM) (Q : mO → mM → Prop) (hsp : spX10_riseBetween fl avs I Q) : mVC0 SX10_riseBetween fl Q kX10_riseBetween 5 avs I := by
  obtain ⟨i, a, b, rfl, h0⟩ := shRII_inv hsp
  refine ⟨rfl, ?_⟩
  show mWp _ _ _ _ _ _ kX10_riseBetween_0 [some (mR i), some (mI a), some (mI b), none, none] [] I
  obtain ⟨rfl, ka, kb, t, c, H, hA, hB, h⟩ := h0
  have cA := stR_cpy ka.1 hA
  have rA : stR t (mCpy I 25 3 (a * 9) 0 9 3) = stR t (keptS t a) := stR_cong _ cA
  have bA : stB (mCpy I 25 3 (a * 9) 0 9 3) := fun f f0 f1 => by
    rw [cA f f0 f1]
    exact H.1.kept ka f f0 f1
  have HA : ctxU (mCpy I 25 3 (a * 9) 0 9) t c := ctxU_of (fun i hi => mCpy_ne _ _ _ _ (by omega)) H
  simp only [false_and, and_false, true_or, or_true, false_or, or_false, true_and, and_true, true_implies, false_implies, implies_true, not_true_eq_false, not_false_eq_true, and_self, List.length_cons, List.length_nil, mNoCut_, mCat_n, mCat_I, mCat_L, mCat_R, mIsL_n, mIsL_I, mIsL_R, mIsL_L, Nat.reduceAdd, Nat.reduceSub, Nat.reduceLeDiff, Nat.reduceLT, Nat.reduceEqDiff, Nat.zero_le, Int.reduceEq, Int.reduceLT, Int.reduceLE, Int.reduceNeg, Int.reduceAdd, if_true, if_false, reduceIte, reduceCtorEq, Bool.false_eq_true, ne_eq, qCmp_0, qCmp_1, qCmp_2, qCmp_3, qCmp_4, qCmp_5, ib_0, ib_1, ib_2, lb_0, lb_1, lb_2, dv_0, dv_1, wq_ld_i, wq_ld_l, wq_ld_a, wq_st_l, wq_lb, wq_get, mGet_0, mGet_1, mGet_2, mGet_3, wq_ret0, wq_ret1, wq_ret2, wq_ret3, wq_ret4, ldR0, fk_10_0, fk_7_1, ldI1, fk_10_8, wq_callV3_0, fk_10_5, wq_callV2_0, stL3, ldI2, ldL3, mPut_s, mPut_I0, mPut_R0, mPut_L0, mPut_I1, mPut_R1, mPut_L1, kX10_riseBetween_0, sk_0, al_0, rf_0_0, sk_10, al_10, rf_0_8, sk_3, al_3, sn_3, rf_0_5, sk_130, al_130, rf_10_1, sk_12, al_12, SX10_riseBetween_0, SX10_riseBetween_1, shqRIR_, shqRR_, spX6_standAs, spX9_meanTop, mrg, mrl, mSet_ap, ncast, Option.some.injEq, Option.getD_some]
  refine ⟨ka, Or.inl rfl, bA, t, c, HA, fun J => ?_⟩
  generalize hM : fr 130 130 J (mCpy I 25 3 (a * 9) 0 9) = M
  have hM25 : M 25 = I 25 := by rw [← hM, fr_ne (by decide), mCpy_ne _ _ _ _ (by decide)]
  have hMf : ∀ i, i ≠ 3 → i ≠ 130 → M i = I i := fun i q1 q2 => by rw [← hM, fr_ne (by omega), mCpy_ne _ _ _ _ q1]
  have hBM : ∀ f : Int, 0 ≤ f → f < 9 → M 25 (9 * b + f) = keptS t b f := fun f f0 f1 => by
    rw [hM25]
    exact hB f f0 f1
  have cB := stR_cpy (I := M) kb.1 hBM
  have rB : stR t (mCpy M 25 3 (b * 9) 0 9 3) = stR t (keptS t b) := stR_cong _ cB
  have bB : stB (mCpy M 25 3 (b * 9) 0 9 3) := fun f f0 f1 => by
    rw [cB f f0 f1]
    exact H.1.kept kb f f0 f1
  have HB : ctxU (mCpy M 25 3 (b * 9) 0 9) t c := ctxU_of (fun i hi => by rw [mCpy_ne _ _ _ _ (by omega)]; exact hMf i (by omega) (by omega)) H
  refine ⟨kb, Or.inl rfl, bB, t, c, HB, fun J2 => ?_⟩
  rw [rA, rB]
  exact h _ (fun i q1 q2 => by rw [fr_ne (by omega), mCpy_ne _ _ _ _ q1]; exact hMf i q1 q2)
theorem ctrX10_riseBetween {l : Launch} (hst : l.stackTraces = false) (hT : mTxM l) : mCtr l calX10_riseBetween spX10_riseBetween :=
  mMet0 (T := TX10_riseBetween) (S := SX10_riseBetween) hst hT (by decide) okX10_riseBetween ⟨_, _, rfl, rfl⟩ (fun a => match a with
    | 0 => ctrX6_standAs hst hT
    | 1 => ctrX9_meanTop hst hT
    | _ + 2 => mCtr_no) vcX10_riseBetween

def tellsC (t : Int → Int) (a b : Int) : Nat → Int × Int × Int
  | 0 => (-1, 0, 1)
  | n + 1 => if riseT t a b n * (tellsC t a b n).2.2 > (tellsC t a b n).2.1 * allT t n then (n, riseT t a b n, allT t n) else tellsC t a b n
theorem no_hits {t : Int → Int} {b : Int} (h : t (13 + b) = 0) : meanT t b = 0 ∧ allT t b = 0 := by
  unfold meanT allT
  rw [h]
  simp [sumN, mostN, allN]
theorem tellsC_eq {t : Int → Int} (H : WFt t) {a b : Int} : ∀ n : Nat, n ≤ 6 → (tellsC t a b n).1 = (tellsN t a b n).1 ∧ (tellsC t a b n).2.1 = (tellsN t a b n).2.1 ∧ (((tellsC t a b n).2.1 = 0 ∧ (tellsC t a b n).2.2 = 1 ∧ (tellsN t a b n).2.2 = 1) ∨ (tellsN t a b n).2.2 = 10000 * (tellsC t a b n).2.2)
  | 0, _ => ⟨rfl, rfl, Or.inl ⟨rfl, rfl, rfl⟩⟩
  | n + 1, hn => by
    obtain ⟨h1, h2, h3⟩ := tellsC_eq H n (by omega) (a := a) (b := b)
    have hh := H.2.1 n (by omega) (by omega)
    have e : (t (13 + (n : Int)) = 0 ∨ riseT t a b n * (tellsN t a b n).2.2 ≤ (tellsN t a b n).2.1 * (10000 * allT t n)) ↔ ¬ (riseT t a b n * (tellsC t a b n).2.2 > (tellsC t a b n).2.1 * allT t n) := by
      by_cases z : t (13 + (n : Int)) = 0
      · have r0 : riseT t a b n = 0 := by
          unfold riseT
          rw [(no_hits (t := stR t (keptS t a)) ((hits_stR t _ ⟨by omega, by omega⟩).trans z)).1, (no_hits (t := stR t (keptS t b)) ((hits_stR t _ ⟨by omega, by omega⟩).trans z)).1]
          rfl
        rw [r0, (no_hits z).2]
        simp [z]
      · rw [← h2]
        rcases h3 with ⟨q1, q2, q3⟩ | q
        · rw [q1, q2, q3]
          omega
        · rw [q, Int.mul_left_comm, Int.mul_left_comm _ 10000]
          omega
    simp only [tellsC, tellsN]
    by_cases z : riseT t a b n * (tellsC t a b n).2.2 > (tellsC t a b n).2.1 * allT t n
    · rw [if_pos z, if_neg (fun w => (e.mp w) z)]
      exact ⟨rfl, rfl, Or.inr rfl⟩
    · rw [if_neg z, if_pos (e.mpr z)]
      exact ⟨h1, h2, h3⟩
theorem clsI.kept {I : mM} (H : clsI I) {a : Int} (ha : wayP a) (hk : keptP (I 201) a) : ∀ f : Int, 0 ≤ f → f < 9 → I 25 (9 * a + f) = keptS (I 201) a f := H.2.2.1.2.1 a ha.1 ha.2 hk
def spX10_tells : mSp := shRII (fun _ i a b I Q => i = some 0 ∧ clsI I ∧ mrg a ∧ mrg b ∧ (¬ (wayP a ∧ wayP b) → Q (.inr (mEx 0)) I) ∧ (wayP a ∧ wayP b → ¬ (keptP (I 201) a ∧ keptP (I 201) b) → Q (.inr (mEx 2)) I) ∧ (wayP a ∧ wayP b → keptP (I 201) a ∧ keptP (I 201) b → ∀ I', cPost I I' (I 0 13) (I 0 14) → Q (.inl (some (mI (tellsN (I 201) a b 6).1))) I'))
def SX10_tells : Nat → mSp := fun a => match a with
  | 0 => spX10_needWay
  | 1 => spX10_needKept
  | 2 => spX10_lay
  | 3 => spX10_riseBetween
  | _ => fun _ _ _ _ => False
theorem SX10_tells_0 : SX10_tells 0 = spX10_needWay := Eq.trans rfl rfl
theorem SX10_tells_1 : SX10_tells 1 = spX10_needKept := Eq.trans rfl rfl
theorem SX10_tells_2 : SX10_tells 2 = spX10_lay := Eq.trans rfl rfl
theorem SX10_tells_3 : SX10_tells 3 = spX10_riseBetween := Eq.trans rfl rfl
theorem cutsX10_tells {t : Nat} {bs : List Bool} (h : cutX10_tells t = some bs) : (t = 29 ∧ bs = [true, true, true, true, true, false, true, false, true, false, false]) := by
  unfold cutX10_tells at h
  simp only [mLk] at h
  by_cases h0 : 29 = t
  · subst h0
    simp at h
    exact ⟨rfl, h.symm⟩
  rw [if_neg h0] at h
  cases h
set_option maxRecDepth 100000 in
set_option maxHeartbeats 1000000 in
theorem vcX10_tells (fl : Nat → Bool) (avs : List mV) (I : mM) (Q : mO → mM → Prop) (hsp : spX10_tells fl avs I Q) : mVC SX10_tells fl Q kX10_tells cutX10_tells 11 avs I := by
  obtain ⟨i, a, b, rfl, h0⟩ := shRII_inv hsp
  obtain ⟨rfl, H, ra, rb, h1, h2, h3⟩ := h0
  refine ⟨rfl, (fun m pc lv st I1 => st = [] ∧ (wayP a ∧ wayP b ∧ keptP (I 201) a ∧ keptP (I 201) b) ∧ ∃ j : Nat, lv = [some (mR (some 0)), some (mI a), some (mI b), some (mI (tellsC (I 201) a b j).1), some (mL (tellsC (I 201) a b j).2.1), none, some (mL (tellsC (I 201) a b j).2.2), none, some (mI j), none, none] ∧ j ≤ 6 ∧ m = 6 - j ∧ (∀ i, i ≠ 3 → ¬ (120 ≤ i ∧ i ≤ 127) → i ≠ 130 → I1 i = I i)), ?_, ?_⟩
  · intro n t bs hbs lv st I1 hc
    rcases cutsX10_tells hbs with ⟨rfl, rfl⟩
    rw [sfxX10_tells_29]
    obtain ⟨rfl, ⟨ka, kb, kea, keb⟩, j, rfl, hj, hm, hf⟩ := hc
    have te := tellsC_eq H.1 (a := a) (b := b) j hj
    have tb := tellsN_bd H.1 ka kb j hj
    have ts : tellsC (I 201) a b (j + 1) = if riseT (I 201) a b j * (tellsC (I 201) a b j).2.2 > (tellsC (I 201) a b j).2.1 * allT (I 201) j then ((j : Int), riseT (I 201) a b j, allT (I 201) j) else tellsC (I 201) a b j := rfl
    have hfin : ∀ _ : Unit, j = 6 → Q (.inl (some (mI (tellsC (I 201) a b j).1))) I1 := fun _ z => by
      subst z
      rw [te.1]
      exact h3 ⟨ka, kb⟩ ⟨kea, keb⟩ _ ((cPost.rfl I).of (fun i hi => hf i (by omega) (by omega) (by omega)))
    generalize hX : tellsC (I 201) a b j = X at *
    clear h1 h2 h3
    rcases Nat.lt_or_ge j 6 with z | z
    · have rb := rise_bd H.1 ka kb (c := j) ⟨by omega, by omega⟩
      have l := allT_bd H.1 (b := j) ⟨by omega, by omega⟩
      have p1 := mul_abs_bd (x := X.2.2) (a := 7920000) (b := 3136320000) (y := riseT (I 201) a b j) ⟨by omega, by omega⟩ ⟨by omega, by omega⟩
      have p2 := mul_abs_bd (x := allT (I 201) j) (a := 792) (b := 3136320000) (y := X.2.1) ⟨by omega, by omega⟩ ⟨by omega, by omega⟩
      rw [Int.mul_comm X.2.2] at p1
      rw [Int.mul_comm (allT (I 201) j)] at p2
      have HI : clsI I1 := clsI_of (fun i hi => hf i (by omega) (by omega) (by omega)) H
      have e201 : I1 201 = I 201 := hf 201 (by decide) (by decide) (by decide)
      clear te tb
      simp only [false_and, and_false, true_or, or_true, false_or, or_false, true_and, and_true, true_implies, false_implies, implies_true, not_true_eq_false, not_false_eq_true, and_self, List.length_cons, List.length_nil, mNoCut_, mCat_n, mCat_I, mCat_L, mCat_R, mIsL_n, mIsL_I, mIsL_R, mIsL_L, Nat.reduceAdd, Nat.reduceSub, Nat.reduceLeDiff, Nat.reduceLT, Nat.reduceEqDiff, Nat.zero_le, Int.reduceEq, Int.reduceLT, Int.reduceLE, Int.reduceNeg, Int.reduceAdd, if_true, if_false, reduceIte, reduceCtorEq, Bool.false_eq_true, ne_eq, qCmp_0, qCmp_1, qCmp_2, qCmp_3, qCmp_4, qCmp_5, ib_0, ib_1, ib_2, lb_0, lb_1, lb_2, dv_0, dv_1, wq_ic, wq_lc, wq_ld_i, wq_ld_l, wq_ld_a, wq_st_i, wq_st_l, wq_iinc, wq_lb, wq_i2l, wq_icmp, wq_lcmp, wq_goto, wq_get, mGet_0, mGet_1, mGet_2, mGet_3, wq_ret0, wq_ret1, wq_ret2, wq_ret3, wq_ret4, ldI1, wq_callS1_1, ldI2, ldR0, wq_callV2_0, mrg_m1_, stI3, stL4, stL6, mrg_0_, stI8, ldI8, mrg_6_, wq_callV3_0, stL9, ldL9, ldL6, ldL4, fk_10_4, fk_0_1, wqinc8, ldI3, mPut_s, mPut_I0, mPut_R0, mPut_L0, mPut_I1, mPut_R1, mPut_L1, mGo_n, sfxX10_tells_29, cutX10_tells_29, sfxX10_tells_87, cutX10_tells_87, sfxX10_tells_93, cutX10_tells_93, wq_cut, mGo_c, mMask_t, mMask_f, mMask_n, kX10_tells_93, kX10_tells_87, kX10_tells_29, kX10_tells_0, sk_120, al_120, sk_0, al_0, rf_0_4, SX10_tells_0, SX10_tells_1, SX10_tells_2, SX10_tells_3, shqI_, shqRI_, shqRII_, spX10_needWay, spX10_needKept, spX10_lay, spX10_riseBetween, mrg, mrl, mSet_ap, ncast, Option.some.injEq, fr_ne]
      refine ⟨⟨by omega, by omega⟩, fun w => by omega, fun _ => ⟨HI, ⟨by omega, by omega⟩, fun J hJ => ⟨ka, kb, I 201, j, ?_, fun f f0 f1 => ?_, fun f f0 f1 => ?_, fun I2 f2 => ?_⟩⟩⟩
      · have := HI.ctx (b := j) ⟨by omega, by omega⟩ hJ
        rw [e201] at this
        exact this
      · rw [hf 25 (by decide) (by decide) (by decide)]
        exact H.kept ka kea f f0 f1
      · rw [hf 25 (by decide) (by decide) (by decide)]
        exact H.kept kb keb f f0 f1
      · have e1 : I2 120 1 = allT (I 201) j := by
          rw [f2 120 (by decide) (by decide), ← e201]
          exact hJ.2.1
        have hf2 : ∀ i, i ≠ 3 → ¬ (120 ≤ i ∧ i ≤ 127) → i ≠ 130 → I2 i = I i := fun i q1 q2 q3 => by
          rw [f2 i q1 q3, fr_ne q2]
          exact hf i q1 q2 q3
        simp only [e1]
        (try simp only [mrg, mrl] at *) <;> repeat' (first | (with_reducible assumption) | (with_reducible apply And.intro) | intro _)
        all_goals first | omega | exact ⟨6 - (j + 1), by omega, ⟨ka, kb, kea, keb⟩, j + 1, by rw [ts, if_pos (by omega)]; rfl, by omega, rfl, hf2⟩ | exact ⟨6 - (j + 1), by omega, ⟨ka, kb, kea, keb⟩, j + 1, by rw [ts, if_neg (by omega)]; rfl, by omega, rfl, hf2⟩ | skip
    · clear te tb
      simp only [false_and, and_false, true_or, or_true, false_or, or_false, true_and, and_true, true_implies, false_implies, implies_true, not_true_eq_false, not_false_eq_true, and_self, List.length_cons, List.length_nil, mNoCut_, mCat_n, mCat_I, mCat_L, mCat_R, mIsL_n, mIsL_I, mIsL_R, mIsL_L, Nat.reduceAdd, Nat.reduceSub, Nat.reduceLeDiff, Nat.reduceLT, Nat.reduceEqDiff, Nat.zero_le, Int.reduceEq, Int.reduceLT, Int.reduceLE, Int.reduceNeg, Int.reduceAdd, if_true, if_false, reduceIte, reduceCtorEq, Bool.false_eq_true, ne_eq, qCmp_0, qCmp_1, qCmp_2, qCmp_3, qCmp_4, qCmp_5, ib_0, ib_1, ib_2, lb_0, lb_1, lb_2, dv_0, dv_1, wq_ic, wq_lc, wq_ld_i, wq_ld_l, wq_ld_a, wq_st_i, wq_st_l, wq_iinc, wq_lb, wq_i2l, wq_icmp, wq_lcmp, wq_goto, wq_get, mGet_0, mGet_1, mGet_2, mGet_3, wq_ret0, wq_ret1, wq_ret2, wq_ret3, wq_ret4, ldI1, wq_callS1_1, ldI2, ldR0, wq_callV2_0, mrg_m1_, stI3, stL4, stL6, mrg_0_, stI8, ldI8, mrg_6_, wq_callV3_0, stL9, ldL9, ldL6, ldL4, fk_10_4, fk_0_1, wqinc8, ldI3, mPut_s, mPut_I0, mPut_R0, mPut_L0, mPut_I1, mPut_R1, mPut_L1, mGo_n, sfxX10_tells_29, cutX10_tells_29, sfxX10_tells_87, cutX10_tells_87, sfxX10_tells_93, cutX10_tells_93, wq_cut, mGo_c, mMask_t, mMask_f, mMask_n, kX10_tells_93, kX10_tells_87, kX10_tells_29, kX10_tells_0, sk_120, al_120, sk_0, al_0, rf_0_4, SX10_tells_0, SX10_tells_1, SX10_tells_2, SX10_tells_3, shqI_, shqRI_, shqRII_, spX10_needWay, spX10_needKept, spX10_lay, spX10_riseBetween, mrg, mrl, mSet_ap, ncast, Option.some.injEq]
      (try simp only [mrg, mrl] at *) <;> repeat' (first | (with_reducible assumption) | (with_reducible apply And.intro) | intro _)
      all_goals first | omega | exact hfin () (by omega) | skip
  · show mWp _ _ _ _ _ _ kX10_tells_0 [some (mR (some 0)), some (mI a), some (mI b), none, none, none, none, none, none, none, none] [] I
    simp only [false_and, and_false, true_or, or_true, false_or, or_false, true_and, and_true, true_implies, false_implies, implies_true, not_true_eq_false, not_false_eq_true, and_self, List.length_cons, List.length_nil, mNoCut_, mCat_n, mCat_I, mCat_L, mCat_R, mIsL_n, mIsL_I, mIsL_R, mIsL_L, Nat.reduceAdd, Nat.reduceSub, Nat.reduceLeDiff, Nat.reduceLT, Nat.reduceEqDiff, Nat.zero_le, Int.reduceEq, Int.reduceLT, Int.reduceLE, Int.reduceNeg, Int.reduceAdd, if_true, if_false, reduceIte, reduceCtorEq, Bool.false_eq_true, ne_eq, qCmp_0, qCmp_1, qCmp_2, qCmp_3, qCmp_4, qCmp_5, ib_0, ib_1, ib_2, lb_0, lb_1, lb_2, dv_0, dv_1, wq_ic, wq_lc, wq_ld_i, wq_ld_l, wq_ld_a, wq_st_i, wq_st_l, wq_iinc, wq_lb, wq_i2l, wq_icmp, wq_lcmp, wq_goto, wq_get, mGet_0, mGet_1, mGet_2, mGet_3, wq_ret0, wq_ret1, wq_ret2, wq_ret3, wq_ret4, ldI1, wq_callS1_1, ldI2, ldR0, wq_callV2_0, mrg_m1_, stI3, stL4, stL6, mrg_0_, stI8, ldI8, mrg_6_, wq_callV3_0, stL9, ldL9, ldL6, ldL4, fk_10_4, fk_0_1, wqinc8, ldI3, mPut_s, mPut_I0, mPut_R0, mPut_L0, mPut_I1, mPut_R1, mPut_L1, mGo_n, sfxX10_tells_29, cutX10_tells_29, sfxX10_tells_87, cutX10_tells_87, sfxX10_tells_93, cutX10_tells_93, wq_cut, mGo_c, mMask_t, mMask_f, mMask_n, kX10_tells_93, kX10_tells_87, kX10_tells_29, kX10_tells_0, sk_120, al_120, sk_0, al_0, rf_0_4, SX10_tells_0, SX10_tells_1, SX10_tells_2, SX10_tells_3, shqI_, shqRI_, shqRII_, spX10_needWay, spX10_needKept, spX10_lay, spX10_riseBetween, mrg, mrl, mSet_ap, ncast, Option.some.injEq]
    refine ⟨ra, fun ka => ⟨rb, fun kb => ⟨H, ka, fun kea => ⟨H, kb, fun keb => ⟨6, ⟨ka, kb, kea, keb⟩, 0, rfl, by omega, rfl⟩, fun z => h2 ⟨ka, kb⟩ (fun w => z w.2)⟩, fun z => h2 ⟨ka, kb⟩ (fun w => z w.1)⟩, fun z => h1 (fun w => z w.2)⟩, fun z => h1 (fun w => z w.1)⟩
theorem ctrX10_tells {l : Launch} (hst : l.stackTraces = false) (hT : mTxM l) : mCtr l calX10_tells spX10_tells :=
  mMet (T := TX10_tells) (S := SX10_tells) hst hT cutX10_tells (by decide) okX10_tells ⟨_, _, rfl, rfl⟩ trivial (fun t bs h => by rcases cutsX10_tells h with ⟨-, rfl⟩ <;> rfl) (fun a => match a with
    | 0 => ctrX10_needWay hst hT
    | 1 => ctrX10_needKept hst hT
    | 2 => ctrX10_lay hst hT
    | 3 => ctrX10_riseBetween hst hT
    | _ + 4 => mCtr_no) vcX10_tells

def bowlC (t : Int → Int) : Nat → Int × Int × Int
  | 0 => (-1, 0, 1)
  | n + 1 => if t (13 + (n : Int)) = 0 then bowlC t n else if (bowlC t n).1 = -1 ∨ meanT t n * (bowlC t n).2.2 < (bowlC t n).2.1 * allT t n then (n, meanT t n, allT t n) else bowlC t n
theorem bowlC_eq {t : Int → Int} (H : WFt t) : ∀ n : Nat, n ≤ 6 → (bowlC t n).1 = bowlN t n ∧ (bowlN t n ≠ -1 → (bowlC t n).2.1 = meanT t (bowlN t n) ∧ (bowlC t n).2.2 = allT t (bowlN t n))
  | 0, _ => ⟨rfl, fun z => absurd rfl z⟩
  | n + 1, hn => by
    obtain ⟨h1, h2⟩ := bowlC_eq H n (by omega)
    have hh := H.2.1 n (by omega) (by omega)
    simp only [bowlC, bowlN]
    rw [h1]
    by_cases z : t (13 + (n : Int)) = 0
    · rw [if_pos z, if_neg (fun w => by omega)]
      exact ⟨h1, h2⟩
    · rw [if_neg z]
      by_cases z2 : bowlN t n = -1
      · rw [if_pos (Or.inl z2), if_pos ⟨by omega, Or.inl z2⟩]
        exact ⟨rfl, fun _ => ⟨rfl, rfl⟩⟩
      · rw [(h2 z2).1, (h2 z2).2]
        have e : meanT t n * (10000 * allT t (bowlN t n)) < meanT t (bowlN t n) * (10000 * allT t n) ↔ meanT t n * allT t (bowlN t n) < meanT t (bowlN t n) * allT t n := by
          rw [Int.mul_left_comm, Int.mul_left_comm _ 10000]
          omega
        by_cases z3 : meanT t n * allT t (bowlN t n) < meanT t (bowlN t n) * allT t n
        · rw [if_pos (Or.inr z3), if_pos ⟨by omega, Or.inr (e.mpr z3)⟩]
          exact ⟨rfl, fun _ => ⟨rfl, rfl⟩⟩
        · rw [if_neg (fun w => w.elim z2 z3), if_neg (fun w => w.2.elim z2 (fun q => z3 (e.mp q)))]
          exact ⟨h1, h2⟩
def spX10_bowl : mSp := shR (fun _ i I Q => i = some 0 ∧ clsI I ∧ ∀ I', cPost I I' (I 0 13) (I 0 14) → Q (.inl (some (mI (bowlN (I 201) 6)))) I')
def SX10_bowl : Nat → mSp := fun a => match a with
  | 0 => spX10_lay
  | 1 => spX9_meanTop
  | _ => fun _ _ _ _ => False
theorem SX10_bowl_0 : SX10_bowl 0 = spX10_lay := Eq.trans rfl rfl
theorem SX10_bowl_1 : SX10_bowl 1 = spX9_meanTop := Eq.trans rfl rfl
theorem cutsX10_bowl {t : Nat} {bs : List Bool} (h : cutX10_bowl t = some bs) : (t = 10 ∧ bs = [true, true, true, false, true, false, true, false, false]) := by
  unfold cutX10_bowl at h
  simp only [mLk] at h
  by_cases h0 : 10 = t
  · subst h0
    simp at h
    exact ⟨rfl, h.symm⟩
  rw [if_neg h0] at h
  cases h
set_option maxRecDepth 100000 in
set_option maxHeartbeats 1000000 in
theorem vcX10_bowl (fl : Nat → Bool) (avs : List mV) (I : mM) (Q : mO → mM → Prop) (hsp : spX10_bowl fl avs I Q) : mVC SX10_bowl fl Q kX10_bowl cutX10_bowl 9 avs I := by
  obtain ⟨i, rfl, h0⟩ := shR_inv hsp
  obtain ⟨rfl, H, h3⟩ := h0
  refine ⟨rfl, (fun m pc lv st I1 => st = [] ∧ ∃ j : Nat, lv = [some (mR (some 0)), some (mI (bowlC (I 201) j).1), some (mL (bowlC (I 201) j).2.1), none, some (mL (bowlC (I 201) j).2.2), none, some (mI j), none, none] ∧ j ≤ 6 ∧ m = 6 - j ∧ (∀ i, ¬ (120 ≤ i ∧ i ≤ 127) → i ≠ 130 → I1 i = I i)), ?_, ?_⟩
  · intro n t bs hbs lv st I1 hc
    rcases cutsX10_bowl hbs with ⟨rfl, rfl⟩
    rw [sfxX10_bowl_10]
    obtain ⟨rfl, j, rfl, hj, hm, hf⟩ := hc
    have te := bowlC_eq H.1 j hj
    have tb := bowlN_bd (I 201) j
    have ts : bowlC (I 201) (j + 1) = if I 201 (13 + (j : Int)) = 0 then bowlC (I 201) j else if (bowlC (I 201) j).1 = -1 ∨ meanT (I 201) j * (bowlC (I 201) j).2.2 < (bowlC (I 201) j).2.1 * allT (I 201) j then ((j : Int), meanT (I 201) j, allT (I 201) j) else bowlC (I 201) j := rfl
    have hfin : ∀ _ : Unit, j = 6 → Q (.inl (some (mI (bowlC (I 201) j).1))) I1 := fun _ z => by
      subst z
      rw [te.1]
      exact h3 _ ((cPost.rfl I).of (fun i hi => hf i (by omega) (by omega)))
    have pb : (bowlC (I 201) j).1 = -1 ∨ ((-1568160000 ≤ (bowlC (I 201) j).2.1 ∧ (bowlC (I 201) j).2.1 ≤ 1568160000) ∧ (0 ≤ (bowlC (I 201) j).2.2 ∧ (bowlC (I 201) j).2.2 ≤ 792)) := by
      by_cases q : bowlN (I 201) j = -1
      · exact Or.inl (te.1.trans q)
      · right
        rw [(te.2 q).1, (te.2 q).2]
        exact ⟨meanT_bd H.1 ⟨by omega, by omega⟩, allT_bd H.1 ⟨by omega, by omega⟩⟩
    have pc : -1 ≤ (bowlC (I 201) j).1 ∧ (bowlC (I 201) j).1 < 6 := by
      rw [te.1]
      omega
    generalize hX : bowlC (I 201) j = X at *
    clear h3 te tb
    rcases Nat.lt_or_ge j 6 with z | z
    · have mb := meanT_bd H.1 (b := j) ⟨by omega, by omega⟩
      have l := allT_bd H.1 (b := j) ⟨by omega, by omega⟩
      have hh := H.1.2.1 j (by omega) (by omega)
      have pp : X.1 = -1 ∨ (-1568160000 * 792 ≤ meanT (I 201) j * X.2.2 ∧ meanT (I 201) j * X.2.2 ≤ 1568160000 * 792) ∧ (-1568160000 * 792 ≤ X.2.1 * allT (I 201) j ∧ X.2.1 * allT (I 201) j ≤ 1568160000 * 792) := by
        rcases pb with e | ⟨e1, e2⟩
        · exact Or.inl e
        · right
          have p1 := mul_abs_bd (x := X.2.2) (a := 792) (b := 1568160000) (y := meanT (I 201) j) ⟨by omega, by omega⟩ ⟨by omega, by omega⟩
          have p2 := mul_abs_bd (x := allT (I 201) j) (a := 792) (b := 1568160000) (y := X.2.1) ⟨by omega, by omega⟩ ⟨by omega, by omega⟩
          rw [Int.mul_comm X.2.2] at p1
          rw [Int.mul_comm (allT (I 201) j)] at p2
          omega
      have HI : clsI I1 := clsI_of (fun i hi => hf i (by omega) (by omega)) H
      have e201 : I1 201 = I 201 := hf 201 (by decide) (by decide)
      have key : ∀ (J : mM) (X2 : Int × Int × Int), (∀ i, ¬ (120 ≤ i ∧ i ≤ 127) → i ≠ 130 → J i = I i) → X2 = bowlC (I 201) (j + 1) → ∃ n', n' < n ∧ ∃ j_1 : Nat, [some (mR (some 0)), some (mI X2.1), some (mL X2.2.1), none, some (mL X2.2.2), none, some (mI ((j : Int) + 1)), none, none] = [some (mR (some 0)), some (mI (bowlC (I 201) j_1).1), some (mL (bowlC (I 201) j_1).2.1), none, some (mL (bowlC (I 201) j_1).2.2), none, some (mI j_1), none, none] ∧ j_1 ≤ 6 ∧ n' = 6 - j_1 ∧ (∀ i : Nat, ¬ (120 ≤ i ∧ i ≤ 127) → ¬ i = 130 → J i = I i) := fun J X2 q1 q2 => ⟨6 - (j + 1), by omega, j + 1, by rw [← q2]; rfl, by omega, rfl, q1⟩
      clear pb
      simp only [false_and, and_false, true_or, or_true, false_or, or_false, true_and, and_true, true_implies, false_implies, implies_true, not_true_eq_false, not_false_eq_true, and_self, List.length_cons, List.length_nil, mNoCut_, mCat_n, mCat_I, mCat_L, mCat_R, mIsL_n, mIsL_I, mIsL_R, mIsL_L, Nat.reduceAdd, Nat.reduceSub, Nat.reduceLeDiff, Nat.reduceLT, Nat.reduceEqDiff, Nat.zero_le, Int.reduceEq, Int.reduceLT, Int.reduceLE, Int.reduceNeg, Int.reduceAdd, if_true, if_false, reduceIte, reduceCtorEq, Bool.false_eq_true, ne_eq, qCmp_0, qCmp_1, qCmp_2, qCmp_3, qCmp_4, qCmp_5, ib_0, ib_1, ib_2, lb_0, lb_1, lb_2, dv_0, dv_1, wq_ic, wq_lc, wq_ld_i, wq_ld_l, wq_ld_a, wq_st_i, wq_st_l, wq_iinc, wq_lb, wq_i2l, wq_icmp, wq_if, wq_lcmp, wq_goto, wq_get, mGet_0, mGet_1, mGet_2, mGet_3, wq_ret0, wq_ret1, wq_ret2, wq_ret3, wq_ret4, mrg_m1_, stI1, stL2, stL4, mrg_0_, stI6, ldI6, mrg_6_, ldR0, wq_callV2_0, fk_10_4, fk_0_0, fk_10_5, fk_10_0, fk_7_1, fk_6_0, stL7, ldI1, ldL7, ldL4, ldL2, fk_0_1, wqinc6, mPut_s, mPut_I0, mPut_R0, mPut_L0, mPut_I1, mPut_R1, mPut_L1, mGo_n, sfxX10_bowl_10, cutX10_bowl_10, sfxX10_bowl_36, cutX10_bowl_36, sfxX10_bowl_79, cutX10_bowl_79, sfxX10_bowl_95, cutX10_bowl_95, sfxX10_bowl_101, cutX10_bowl_101, wq_cut, mGo_c, mMask_t, mMask_f, mMask_n, kX10_bowl_101, kX10_bowl_95, kX10_bowl_79, kX10_bowl_36, kX10_bowl_10, kX10_bowl_0, sk_120, al_120, sk_0, al_0, rf_0_4, rf_0_5, sk_130, al_130, rf_0_0, sk_10, al_10, sk_12, al_12, rf_12_0, sk_20, al_20, sn_20, rf_10_1, SX10_bowl_0, SX10_bowl_1, shqRI_, shqRR_, spX10_lay, spX9_meanTop, mrg, mrl, mSet_ap, ncast, Option.some.injEq, fr_ne, Option.getD_some]
      refine ⟨⟨by omega, by omega⟩, fun w => by omega, fun _ => ⟨HI, ⟨by omega, by omega⟩, fun J hJ => ?_⟩⟩
      have hJ0 : fr 120 127 J I1 120 0 = I 201 (13 + (j : Int)) := by
        rw [← e201]
        exact hJ.1
      have hJ1 : fr 120 127 J I1 120 1 = allT (I 201) j := by
        rw [← e201]
        exact hJ.2.1
      have hfJ : ∀ i, ¬ (120 ≤ i ∧ i ≤ 127) → i ≠ 130 → fr 120 127 J I1 i = I i := fun i q1 q2 => by
        rw [fr_ne q1]
        exact hf i q1 q2
      simp only [hJ0]
      refine ⟨⟨by omega, by omega⟩, fun q => ⟨Or.inr (Or.inl rfl), HI.b20, I 201, j, ?_, fun J2 => ?_⟩, fun q => key _ X hfJ (by rw [ts, if_pos (by omega)])⟩
      · have := HI.ctx (b := j) ⟨by omega, by omega⟩ hJ
        rw [e201] at this
        exact this
      · have e20 := HI.s20
        rw [e201] at e20
        have hfJ2 : ∀ i, ¬ (120 ≤ i ∧ i ≤ 127) → i ≠ 130 → fr 130 130 J2 (fr 120 127 J I1) i = I i := fun i q1 q2 => by
          rw [fr_ne (by omega)]
          exact hfJ i q1 q2
        simp only [e20, hJ1]
        (try simp only [mrg, mrl] at *) <;> repeat' (first | (with_reducible assumption) | (with_reducible apply And.intro) | intro _)
        all_goals first | omega | exact key _ ((j : Int), meanT (I 201) j, allT (I 201) j) hfJ2 (by rw [ts, if_neg (by omega), if_pos (by omega)]) | exact key _ X hfJ2 (by rw [ts, if_neg (by omega), if_neg (by omega)]) | skip
    · clear pb
      simp only [false_and, and_false, true_or, or_true, false_or, or_false, true_and, and_true, true_implies, false_implies, implies_true, not_true_eq_false, not_false_eq_true, and_self, List.length_cons, List.length_nil, mNoCut_, mCat_n, mCat_I, mCat_L, mCat_R, mIsL_n, mIsL_I, mIsL_R, mIsL_L, Nat.reduceAdd, Nat.reduceSub, Nat.reduceLeDiff, Nat.reduceLT, Nat.reduceEqDiff, Nat.zero_le, Int.reduceEq, Int.reduceLT, Int.reduceLE, Int.reduceNeg, Int.reduceAdd, if_true, if_false, reduceIte, reduceCtorEq, Bool.false_eq_true, ne_eq, qCmp_0, qCmp_1, qCmp_2, qCmp_3, qCmp_4, qCmp_5, ib_0, ib_1, ib_2, lb_0, lb_1, lb_2, dv_0, dv_1, wq_ic, wq_lc, wq_ld_i, wq_ld_l, wq_ld_a, wq_st_i, wq_st_l, wq_iinc, wq_lb, wq_i2l, wq_icmp, wq_if, wq_lcmp, wq_goto, wq_get, mGet_0, mGet_1, mGet_2, mGet_3, wq_ret0, wq_ret1, wq_ret2, wq_ret3, wq_ret4, mrg_m1_, stI1, stL2, stL4, mrg_0_, stI6, ldI6, mrg_6_, ldR0, wq_callV2_0, fk_10_4, fk_0_0, fk_10_5, fk_10_0, fk_7_1, fk_6_0, stL7, ldI1, ldL7, ldL4, ldL2, fk_0_1, wqinc6, mPut_s, mPut_I0, mPut_R0, mPut_L0, mPut_I1, mPut_R1, mPut_L1, mGo_n, sfxX10_bowl_10, cutX10_bowl_10, sfxX10_bowl_36, cutX10_bowl_36, sfxX10_bowl_79, cutX10_bowl_79, sfxX10_bowl_95, cutX10_bowl_95, sfxX10_bowl_101, cutX10_bowl_101, wq_cut, mGo_c, mMask_t, mMask_f, mMask_n, kX10_bowl_101, kX10_bowl_95, kX10_bowl_79, kX10_bowl_36, kX10_bowl_10, kX10_bowl_0, sk_120, al_120, sk_0, al_0, rf_0_4, rf_0_5, sk_130, al_130, rf_0_0, sk_10, al_10, sk_12, al_12, rf_12_0, sk_20, al_20, sn_20, rf_10_1, SX10_bowl_0, SX10_bowl_1, shqRI_, shqRR_, spX10_lay, spX9_meanTop, mrg, mrl, mSet_ap, ncast, Option.some.injEq]
      (try simp only [mrg, mrl] at *) <;> repeat' (first | (with_reducible assumption) | (with_reducible apply And.intro) | intro _)
      all_goals first | omega | exact hfin () (by omega) | skip
  · show mWp _ _ _ _ _ _ kX10_bowl_0 [some (mR (some 0)), none, none, none, none, none, none, none, none] [] I
    simp only [false_and, and_false, true_or, or_true, false_or, or_false, true_and, and_true, true_implies, false_implies, implies_true, not_true_eq_false, not_false_eq_true, and_self, List.length_cons, List.length_nil, mNoCut_, mCat_n, mCat_I, mCat_L, mCat_R, mIsL_n, mIsL_I, mIsL_R, mIsL_L, Nat.reduceAdd, Nat.reduceSub, Nat.reduceLeDiff, Nat.reduceLT, Nat.reduceEqDiff, Nat.zero_le, Int.reduceEq, Int.reduceLT, Int.reduceLE, Int.reduceNeg, Int.reduceAdd, if_true, if_false, reduceIte, reduceCtorEq, Bool.false_eq_true, ne_eq, qCmp_0, qCmp_1, qCmp_2, qCmp_3, qCmp_4, qCmp_5, ib_0, ib_1, ib_2, lb_0, lb_1, lb_2, dv_0, dv_1, wq_ic, wq_lc, wq_ld_i, wq_ld_l, wq_ld_a, wq_st_i, wq_st_l, wq_iinc, wq_lb, wq_i2l, wq_icmp, wq_if, wq_lcmp, wq_goto, wq_get, mGet_0, mGet_1, mGet_2, mGet_3, wq_ret0, wq_ret1, wq_ret2, wq_ret3, wq_ret4, mrg_m1_, stI1, stL2, stL4, mrg_0_, stI6, ldI6, mrg_6_, ldR0, wq_callV2_0, fk_10_4, fk_0_0, fk_10_5, fk_10_0, fk_7_1, fk_6_0, stL7, ldI1, ldL7, ldL4, ldL2, fk_0_1, wqinc6, mPut_s, mPut_I0, mPut_R0, mPut_L0, mPut_I1, mPut_R1, mPut_L1, mGo_n, sfxX10_bowl_10, cutX10_bowl_10, sfxX10_bowl_36, cutX10_bowl_36, sfxX10_bowl_79, cutX10_bowl_79, sfxX10_bowl_95, cutX10_bowl_95, sfxX10_bowl_101, cutX10_bowl_101, wq_cut, mGo_c, mMask_t, mMask_f, mMask_n, kX10_bowl_101, kX10_bowl_95, kX10_bowl_79, kX10_bowl_36, kX10_bowl_10, kX10_bowl_0, sk_120, al_120, sk_0, al_0, rf_0_4, rf_0_5, sk_130, al_130, rf_0_0, sk_10, al_10, sk_12, al_12, rf_12_0, sk_20, al_20, sn_20, rf_10_1, SX10_bowl_0, SX10_bowl_1, shqRI_, shqRR_, spX10_lay, spX9_meanTop, mrg, mrl, mSet_ap, ncast, Option.some.injEq]
    exact ⟨6, 0, rfl, by omega, rfl⟩
theorem ctrX10_bowl {l : Launch} (hst : l.stackTraces = false) (hT : mTxM l) : mCtr l calX10_bowl spX10_bowl :=
  mMet (T := TX10_bowl) (S := SX10_bowl) hst hT cutX10_bowl (by decide) okX10_bowl ⟨_, _, rfl, rfl⟩ trivial (fun t bs h => by rcases cutsX10_bowl h with ⟨-, rfl⟩ <;> rfl) (fun a => match a with
    | 0 => ctrX10_lay hst hT
    | 1 => ctrX9_meanTop hst hT
    | _ + 2 => mCtr_no) vcX10_bowl

end SPC11
