section SPC18
/-- FAR of a CELL from the nearest one that may be held, of the first n; -1: there is none -/
def lfN (e : Int → Int) (c : Int) : Nat → Int
  | 0 => -1
  | n + 1 => if mayT e n ∧ (lfN e c n = -1 ∨ far n c < lfN e c n) then far n c else lfN e c n
theorem lfN_bd (e : Int → Int) {c : Int} (hc : 0 ≤ c ∧ c < 289) : ∀ n : Nat, n ≤ 289 → -1 ≤ lfN e c n ∧ lfN e c n ≤ 16
  | 0, _ => by simp [lfN]
  | n + 1, hn => by
    have ih := lfN_bd e hc n (by omega)
    have f := far_bd (a := n) ⟨by omega, by omega⟩ hc
    simp only [lfN]
    split <;> omega
def spX3_mayHold : mSp := shRI (fun _ i c I Q => i = some 11 ∧ (2 ≤ I 11 1 ∧ I 11 1 ≤ 8) ∧ (0 ≤ I 11 5 ∧ I 11 5 ≤ 8) ∧ (0 ≤ c ∧ c < 289) ∧ (mayT (I 11) c → Q (.inl (some (mI 1))) I) ∧ (¬ mayT (I 11) c → Q (.inl (some (mI 0))) I))
def SX3_mayHold : Nat → mSp := fun a => match a with
  | 0 => spX3_liesIn_
  | 1 => spX10_apart
  | _ => fun _ _ _ _ => False
theorem SX3_mayHold_0 : SX3_mayHold 0 = spX3_liesIn_ := Eq.trans rfl rfl
theorem SX3_mayHold_1 : SX3_mayHold 1 = spX10_apart := Eq.trans rfl rfl
set_option maxRecDepth 100000 in
set_option maxHeartbeats 1000000 in
theorem vcX3_mayHold (fl : Nat → Bool) (avs : List mV) (I : mM) (Q : mO → mM → Prop) (hsp : spX3_mayHold fl avs I Q) : mVC0 SX3_mayHold fl Q kX3_mayHold 2 avs I := by
  obtain ⟨i, c, rfl, h0⟩ := shRI_inv hsp
  refine ⟨rfl, ?_⟩
  show mWp _ _ _ _ _ _ kX3_mayHold_0 [some (mR i), some (mI c)] [] I
  obtain ⟨rfl, h1, h5, hc, hA, hN⟩ := h0
  have fb := far_bd hc (b := 144) ⟨by omega, by omega⟩
  simp only [false_and, and_false, true_or, or_true, false_or, or_false, true_and, and_true, true_implies, false_implies, implies_true, not_true_eq_false, not_false_eq_true, and_self, List.length_cons, List.length_nil, mNoCut_, mCat_n, mCat_I, mCat_L, mCat_R, mIsL_n, mIsL_I, mIsL_R, mIsL_L, Nat.reduceAdd, Nat.reduceSub, Nat.reduceLeDiff, Nat.reduceLT, Nat.reduceEqDiff, Nat.zero_le, Int.reduceEq, Int.reduceLT, Int.reduceLE, Int.reduceNeg, Int.reduceAdd, if_true, if_false, reduceIte, reduceCtorEq, Bool.false_eq_true, ne_eq, qCmp_0, qCmp_1, qCmp_2, qCmp_3, qCmp_4, qCmp_5, ib_0, ib_1, ib_2, lb_0, lb_1, lb_2, dv_0, dv_1, wq_ic, wq_ld_i, wq_ld_a, wq_icmp, wq_if, wq_goto, wq_get, mGet_0, mGet_1, mGet_2, mGet_3, wq_ret0, wq_ret1, wq_ret2, wq_ret3, wq_ret4, ldR0, ldI1, wq_callV2_0, mrg_144_, wq_callS2_3, fk_3_5, mrg_1_, mrg_0_, mGo_n, sfxX3_mayHold_26, cutX3_mayHold_26, sfxX3_mayHold_27, cutX3_mayHold_27, kX3_mayHold_27, kX3_mayHold_26, kX3_mayHold_0, sk_11, al_11, sk_102, al_102, SX3_mayHold_0, SX3_mayHold_1, shqRI_, shqII_, spX3_liesIn_, spX10_apart, mrg, mrl, mSet_ap, ncast, Option.some.injEq]
  refine ⟨h1, hc, fun z => ⟨hc, ⟨⟨by omega, by omega⟩, by omega, by omega⟩, fun w => hN (fun q => q.2 w), fun w => hA ⟨z, w⟩⟩, fun z => hN (fun q => z q.1)⟩
theorem ctrX3_mayHold {l : Launch} (hst : l.stackTraces = false) (hT : mTxM l) : mCtr l calX3_mayHold spX3_mayHold :=
  mMet0 (T := TX3_mayHold) (S := SX3_mayHold) hst hT (by decide) okX3_mayHold ⟨_, _, rfl, rfl⟩ (fun a => match a with
    | 0 => ctrX3_liesIn_ hst hT
    | 1 => ctrX10_apart hst hT
    | _ + 2 => mCtr_no) vcX3_mayHold

def spX2_leastFarFrom : mSp := shRI (fun _ i c I Q => i = some 140 ∧ (2 ≤ I 11 1 ∧ I 11 1 ≤ 8) ∧ (0 ≤ I 11 5 ∧ I 11 5 ≤ 8) ∧ (0 ≤ c ∧ c < 289) ∧ Q (.inl (some (mI (lfN (I 11) c 289)))) I)
def SX2_leastFarFrom : Nat → mSp := fun a => match a with
  | 0 => spX3_mayHold
  | 1 => spX10_apart
  | _ => fun _ _ _ _ => False
theorem SX2_leastFarFrom_0 : SX2_leastFarFrom 0 = spX3_mayHold := Eq.trans rfl rfl
theorem SX2_leastFarFrom_1 : SX2_leastFarFrom 1 = spX10_apart := Eq.trans rfl rfl
theorem cutsX2_leastFarFrom {t : Nat} {bs : List Bool} (h : cutX2_leastFarFrom t = some bs) : (t = 4 ∧ bs = [true, true, true, true]) := by
  unfold cutX2_leastFarFrom at h
  simp only [mLk] at h
  by_cases h0 : 4 = t
  · subst h0
    simp at h
    exact ⟨rfl, h.symm⟩
  rw [if_neg h0] at h
  cases h
set_option maxRecDepth 100000 in
set_option maxHeartbeats 1000000 in
theorem vcX2_leastFarFrom (fl : Nat → Bool) (avs : List mV) (I : mM) (Q : mO → mM → Prop) (hsp : spX2_leastFarFrom fl avs I Q) : mVC SX2_leastFarFrom fl Q kX2_leastFarFrom cutX2_leastFarFrom 4 avs I := by
  obtain ⟨i, c, rfl, h0⟩ := shRI_inv hsp
  obtain ⟨rfl, h1, h5, hc, h⟩ := h0
  refine ⟨rfl, (fun m pc lv st I1 => st = [] ∧ I1 = I ∧ ∃ j : Nat, lv = [some (mR (some 140)), some (mI c), some (mI (lfN (I 11) c j)), some (mI j)] ∧ j ≤ 289 ∧ m = 289 - j), ?_, ?_⟩
  · intro n t bs hbs lv st I1 hc
    rcases cutsX2_leastFarFrom hbs with ⟨rfl, rfl⟩
    rw [sfxX2_leastFarFrom_4]
    obtain ⟨rfl, rfl, j, rfl, hj, hm⟩ := hc
    have lb := lfN_bd (I1 11) hc j hj
    have ls : lfN (I1 11) c (j + 1) = if mayT (I1 11) j ∧ (lfN (I1 11) c j = -1 ∨ far j c < lfN (I1 11) c j) then far j c else lfN (I1 11) c j := rfl
    have hfin : ∀ _ : Unit, j = 289 → Q (.inl (some (mI (lfN (I1 11) c j)))) I1 := fun _ e => by
      subst e
      exact h
    clear h
    generalize hX : lfN (I1 11) c j = X at *
    rcases Nat.lt_or_ge j 289 with z | z
    · have fb := far_bd (a := j) ⟨by omega, by omega⟩ hc
      simp only [false_and, and_false, true_or, or_true, false_or, or_false, true_and, and_true, true_implies, false_implies, implies_true, not_true_eq_false, not_false_eq_true, and_self, List.length_cons, List.length_nil, mNoCut_, mCat_n, mCat_I, mCat_L, mCat_R, mIsL_n, mIsL_I, mIsL_R, mIsL_L, Nat.reduceAdd, Nat.reduceSub, Nat.reduceLeDiff, Nat.reduceLT, Nat.reduceEqDiff, Nat.zero_le, Int.reduceEq, Int.reduceLT, Int.reduceLE, Int.reduceNeg, Int.reduceAdd, if_true, if_false, reduceIte, reduceCtorEq, Bool.false_eq_true, ne_eq, qCmp_0, qCmp_1, qCmp_2, qCmp_3, qCmp_4, qCmp_5, ib_0, ib_1, ib_2, lb_0, lb_1, lb_2, dv_0, dv_1, wq_ic, wq_ld_i, wq_ld_a, wq_st_i, wq_iinc, wq_icmp, wq_if, wq_goto, wq_get, mGet_0, mGet_1, mGet_2, mGet_3, wq_ret0, wq_ret1, wq_ret2, wq_ret3, wq_ret4, mrg_m1_, stI2, mrg_0_, stI3, ldI3, mrg_289_, ldR0, fk_2_0, wq_callV2_0, ldI2, ldI1, wq_callS2_3, wqinc3, mPut_s, mPut_I0, mPut_R0, mPut_L0, mPut_I1, mPut_R1, mPut_L1, mGo_n, sfxX2_leastFarFrom_4, cutX2_leastFarFrom_4, sfxX2_leastFarFrom_36, cutX2_leastFarFrom_36, sfxX2_leastFarFrom_42, cutX2_leastFarFrom_42, sfxX2_leastFarFrom_48, cutX2_leastFarFrom_48, wq_cut, mGo_c, mMask_t, mMask_f, mMask_n, kX2_leastFarFrom_48, kX2_leastFarFrom_42, kX2_leastFarFrom_36, kX2_leastFarFrom_4, kX2_leastFarFrom_0, sk_140, al_140, rf_140_0, sk_11, al_11, sk_102, al_102, SX2_leastFarFrom_0, SX2_leastFarFrom_1, shqRI_, shqII_, spX3_mayHold, spX10_apart, mrg, mrl, mSet_ap, ncast, Option.some.injEq]
      (try simp only [mrg, mrl] at *) <;> repeat' (first | (with_reducible assumption) | (with_reducible apply And.intro) | intro _)
      all_goals first | omega | exact ⟨289 - (j + 1), by omega, j + 1, by rw [ls, if_neg (fun q => absurd q.1 (by assumption))]; rfl, by omega, rfl⟩ | exact ⟨289 - (j + 1), by omega, j + 1, by rw [ls, if_neg (fun q => q.2.elim (fun v => by omega) (fun v => by omega))]; rfl, by omega, rfl⟩ | exact ⟨289 - (j + 1), by omega, j + 1, by rw [ls, if_pos ⟨by assumption, by omega⟩]; rfl, by omega, rfl⟩ | skip
    · simp only [false_and, and_false, true_or, or_true, false_or, or_false, true_and, and_true, true_implies, false_implies, implies_true, not_true_eq_false, not_false_eq_true, and_self, List.length_cons, List.length_nil, mNoCut_, mCat_n, mCat_I, mCat_L, mCat_R, mIsL_n, mIsL_I, mIsL_R, mIsL_L, Nat.reduceAdd, Nat.reduceSub, Nat.reduceLeDiff, Nat.reduceLT, Nat.reduceEqDiff, Nat.zero_le, Int.reduceEq, Int.reduceLT, Int.reduceLE, Int.reduceNeg, Int.reduceAdd, if_true, if_false, reduceIte, reduceCtorEq, Bool.false_eq_true, ne_eq, qCmp_0, qCmp_1, qCmp_2, qCmp_3, qCmp_4, qCmp_5, ib_0, ib_1, ib_2, lb_0, lb_1, lb_2, dv_0, dv_1, wq_ic, wq_ld_i, wq_ld_a, wq_st_i, wq_iinc, wq_icmp, wq_if, wq_goto, wq_get, mGet_0, mGet_1, mGet_2, mGet_3, wq_ret0, wq_ret1, wq_ret2, wq_ret3, wq_ret4, mrg_m1_, stI2, mrg_0_, stI3, ldI3, mrg_289_, ldR0, fk_2_0, wq_callV2_0, ldI2, ldI1, wq_callS2_3, wqinc3, mPut_s, mPut_I0, mPut_R0, mPut_L0, mPut_I1, mPut_R1, mPut_L1, mGo_n, sfxX2_leastFarFrom_4, cutX2_leastFarFrom_4, sfxX2_leastFarFrom_36, cutX2_leastFarFrom_36, sfxX2_leastFarFrom_42, cutX2_leastFarFrom_42, sfxX2_leastFarFrom_48, cutX2_leastFarFrom_48, wq_cut, mGo_c, mMask_t, mMask_f, mMask_n, kX2_leastFarFrom_48, kX2_leastFarFrom_42, kX2_leastFarFrom_36, kX2_leastFarFrom_4, kX2_leastFarFrom_0, sk_140, al_140, rf_140_0, sk_11, al_11, sk_102, al_102, SX2_leastFarFrom_0, SX2_leastFarFrom_1, shqRI_, shqII_, spX3_mayHold, spX10_apart, mrg, mrl, mSet_ap, ncast, Option.some.injEq]
      (try simp only [mrg, mrl] at *) <;> repeat' (first | (with_reducible assumption) | (with_reducible apply And.intro) | intro _)
      all_goals first | omega | exact hfin () (by omega) | skip
  · show mWp _ _ _ _ _ _ kX2_leastFarFrom_0 [some (mR (some 140)), some (mI c), none, none] [] I
    simp only [false_and, and_false, true_or, or_true, false_or, or_false, true_and, and_true, true_implies, false_implies, implies_true, not_true_eq_false, not_false_eq_true, and_self, List.length_cons, List.length_nil, mNoCut_, mCat_n, mCat_I, mCat_L, mCat_R, mIsL_n, mIsL_I, mIsL_R, mIsL_L, Nat.reduceAdd, Nat.reduceSub, Nat.reduceLeDiff, Nat.reduceLT, Nat.reduceEqDiff, Nat.zero_le, Int.reduceEq, Int.reduceLT, Int.reduceLE, Int.reduceNeg, Int.reduceAdd, if_true, if_false, reduceIte, reduceCtorEq, Bool.false_eq_true, ne_eq, qCmp_0, qCmp_1, qCmp_2, qCmp_3, qCmp_4, qCmp_5, ib_0, ib_1, ib_2, lb_0, lb_1, lb_2, dv_0, dv_1, wq_ic, wq_ld_i, wq_ld_a, wq_st_i, wq_iinc, wq_icmp, wq_if, wq_goto, wq_get, mGet_0, mGet_1, mGet_2, mGet_3, wq_ret0, wq_ret1, wq_ret2, wq_ret3, wq_ret4, mrg_m1_, stI2, mrg_0_, stI3, ldI3, mrg_289_, ldR0, fk_2_0, wq_callV2_0, ldI2, ldI1, wq_callS2_3, wqinc3, mPut_s, mPut_I0, mPut_R0, mPut_L0, mPut_I1, mPut_R1, mPut_L1, mGo_n, sfxX2_leastFarFrom_4, cutX2_leastFarFrom_4, sfxX2_leastFarFrom_36, cutX2_leastFarFrom_36, sfxX2_leastFarFrom_42, cutX2_leastFarFrom_42, sfxX2_leastFarFrom_48, cutX2_leastFarFrom_48, wq_cut, mGo_c, mMask_t, mMask_f, mMask_n, kX2_leastFarFrom_48, kX2_leastFarFrom_42, kX2_leastFarFrom_36, kX2_leastFarFrom_4, kX2_leastFarFrom_0, sk_140, al_140, rf_140_0, sk_11, al_11, sk_102, al_102, SX2_leastFarFrom_0, SX2_leastFarFrom_1, shqRI_, shqII_, spX3_mayHold, spX10_apart, mrg, mrl, mSet_ap, ncast, Option.some.injEq]
    exact ⟨289, 0, rfl, by omega, rfl⟩
theorem ctrX2_leastFarFrom {l : Launch} (hst : l.stackTraces = false) (hT : mTxM l) : mCtr l calX2_leastFarFrom spX2_leastFarFrom :=
  mMet (T := TX2_leastFarFrom) (S := SX2_leastFarFrom) hst hT cutX2_leastFarFrom (by decide) okX2_leastFarFrom ⟨_, _, rfl, rfl⟩ trivial (fun t bs h => by rcases cutsX2_leastFarFrom h with ⟨-, rfl⟩ <;> rfl) (fun a => match a with
    | 0 => ctrX3_mayHold hst hT
    | 1 => ctrX10_apart hst hT
    | _ + 2 => mCtr_no) vcX2_leastFarFrom

def Lf (t : Int → Int) (b h : Int) : Int → Int := fun k => lfN t (cellT t b h k) 289
theorem lfN_cong {e t : Int → Int} (h1 : e 1 = t 1) (h5 : e 5 = t 5) (c : Int) : ∀ n : Nat, lfN e c n = lfN t c n
  | 0 => rfl
  | n + 1 => by
    have em : mayT e n = mayT t n := by
      unfold mayT insT
      rw [h1, h5]
    simp only [lfN, em]
    rw [lfN_cong h1 h5 c n]
def chAl (t : Int → Int) (b h f : Int) : Int := if (1 ≤ airT t b h ∧ airT t b h ≤ stepsT t b h) ∧ Lf t b h (airT t b h) ≠ -1 ∧ Lf t b h (airT t b h) * pcT t f ≤ tickT t b h (airT t b h) then max 0 (hdT t f - prT t f * Lf t b h (airT t b h)) else 0
def raGo (t : Int → Int) (b h f : Int) : Nat → Int → Int
  | 0, _ => if stepsT t b h < airT t b h then 6 else 4
  | m + 1, k => if Lf t b h k ≠ -1 ∧ Lf t b h k * pcT t f ≤ tickT t b h k then runsByT (amT t) (cellT t b h) (tickT t b h) (t 2) f k else raGo t b h f m (k + 1)
def raAl (t : Int → Int) (b h f : Int) : Int := raGo t b h f (stepsT t b h - airT t b h).toNat (airT t b h + 1)
def spX2_mayReach : mSp := shRIII (fun _ i h k f I Q => i = some 140 ∧ (0 ≤ f ∧ f < 9) ∧ ∃ t b, ctxU I t b ∧ hitB t b h ∧ (1 ≤ k ∧ k ≤ stepsT t b h) ∧ I 150 k = Lf t b h k ∧ (Lf t b h k ≠ -1 ∧ Lf t b h k * pcT t f ≤ tickT t b h k → Q (.inl (some (mI 1))) I) ∧ (¬ (Lf t b h k ≠ -1 ∧ Lf t b h k * pcT t f ≤ tickT t b h k) → Q (.inl (some (mI 0))) I))
def SX2_mayReach : Nat → mSp := fun a => match a with
  | 0 => spX0_tickAt
  | _ => fun _ _ _ _ => False
theorem SX2_mayReach_0 : SX2_mayReach 0 = spX0_tickAt := Eq.trans rfl rfl
set_option maxRecDepth 100000 in
set_option maxHeartbeats 1000000 in
theorem vcX2_mayReach (fl : Nat → Bool) (avs : List mV) (I : mM) (Q : mO → mM → Prop) (hsp : spX2_mayReach fl avs I Q) : mVC0 SX2_mayReach fl Q kX2_mayReach 4 avs I := by
  obtain ⟨i, hh, k, f, rfl, h0⟩ := shRIII_inv hsp
  refine ⟨rfl, ?_⟩
  show mWp _ _ _ _ _ _ kX2_mayReach_0 [some (mR i), some (mI hh), some (mI k), some (mI f)] [] I
  obtain ⟨rfl, hf, t, b, H, hh1, hk, e150, h1, h2⟩ := h0
  have h8 := H.h8 hh1.1 hh1.2
  have lh := H.lh hh1.1 hh1.2
  have lk := (lh.2.2.2.2.2 k hk.1 hk.2).2
  have st8 := (steps_spec H.1 H.2.1 h8).1
  have cl := cell_in H.1 H.2.1 h8 (k := k) ⟨by omega, by omega⟩
  have tk := tickT_bd H.1 H.2.1 h8 (k := k) (by omega) (by omega)
  have lb : -1 ≤ Lf t b hh k ∧ Lf t b hh k ≤ 16 := lfN_bd t cl 289 (by omega)
  have p21 := (H.2.2.2.1 f hf.1 hf.2).1
  have fl1 := H.1.fld hf
  have pb := fun z : Lf t b hh k ≠ -1 => prod_bd (x := Lf t b hh k) (a := 16) ⟨by omega, by omega⟩ (y := pcT t f) (b := 9) ⟨by omega, fl1.2.1.2⟩
  generalize hX : Lf t b hh k = X at *
  by_cases z : X = -1
  · have h2 := h2 (fun w => w.1 z)
    clear h1 pb
    simp only [false_and, and_false, true_or, or_true, false_or, or_false, true_and, and_true, true_implies, false_implies, implies_true, not_true_eq_false, not_false_eq_true, and_self, List.length_cons, List.length_nil, mNoCut_, mCat_n, mCat_I, mCat_L, mCat_R, mIsL_n, mIsL_I, mIsL_R, mIsL_L, Nat.reduceAdd, Nat.reduceSub, Nat.reduceLeDiff, Nat.reduceLT, Nat.reduceEqDiff, Nat.zero_le, Int.reduceEq, Int.reduceLT, Int.reduceLE, Int.reduceNeg, Int.reduceAdd, if_true, if_false, reduceIte, reduceCtorEq, Bool.false_eq_true, ne_eq, qCmp_0, qCmp_1, qCmp_2, qCmp_3, qCmp_4, qCmp_5, ib_0, ib_1, ib_2, lb_0, lb_1, lb_2, dv_0, dv_1, wq_ic, wq_ld_i, wq_ld_a, wq_ib, wq_icmp, wq_goto, wq_get, mGet_0, mGet_1, mGet_2, mGet_3, wq_ald, wq_ret0, wq_ret1, wq_ret2, wq_ret3, wq_ret4, ldR0, fk_2_13, ldI2, mrg_m1_, fk_2_1, fk_6_1, ldI3, fk_2_2, ldI1, wq_callV3_0, mrg_1_, mrg_0_, mGo_n, sfxX2_mayReach_42, cutX2_mayReach_42, sfxX2_mayReach_43, cutX2_mayReach_43, kX2_mayReach_43, kX2_mayReach_42, kX2_mayReach_0, sk_140, al_140, rf_140_13, sk_150, al_150, sn_150, rf_140_1, sk_12, al_12, rf_140_2, sk_120, al_120, rf_12_1, sk_21, al_21, sn_21, ald_n, ro0_n, al_ro, SX2_mayReach_0, shqRII_, spX0_tickAt, mrg, mrl, mSet_ap, ncast, Option.some.injEq, e150, lk, p21]
    (try simp only [mrg, mrl] at *) <;> repeat' (first | (with_reducible assumption) | (with_reducible apply And.intro) | intro _)
    all_goals first | omega | exact h2 | skip
  · have pb := pb z
    have g1 : ∀ _ : Unit, X * pcT t f ≤ tickT t b hh k → Q (.inl (some (mI 1))) I := fun _ w => h1 ⟨z, w⟩
    have g2 : ∀ _ : Unit, ¬ X * pcT t f ≤ tickT t b hh k → Q (.inl (some (mI 0))) I := fun _ w => h2 (fun q => w q.2)
    clear h1 h2
    simp only [false_and, and_false, true_or, or_true, false_or, or_false, true_and, and_true, true_implies, false_implies, implies_true, not_true_eq_false, not_false_eq_true, and_self, List.length_cons, List.length_nil, mNoCut_, mCat_n, mCat_I, mCat_L, mCat_R, mIsL_n, mIsL_I, mIsL_R, mIsL_L, Nat.reduceAdd, Nat.reduceSub, Nat.reduceLeDiff, Nat.reduceLT, Nat.reduceEqDiff, Nat.zero_le, Int.reduceEq, Int.reduceLT, Int.reduceLE, Int.reduceNeg, Int.reduceAdd, if_true, if_false, reduceIte, reduceCtorEq, Bool.false_eq_true, ne_eq, qCmp_0, qCmp_1, qCmp_2, qCmp_3, qCmp_4, qCmp_5, ib_0, ib_1, ib_2, lb_0, lb_1, lb_2, dv_0, dv_1, wq_ic, wq_ld_i, wq_ld_a, wq_ib, wq_icmp, wq_goto, wq_get, mGet_0, mGet_1, mGet_2, mGet_3, wq_ald, wq_ret0, wq_ret1, wq_ret2, wq_ret3, wq_ret4, ldR0, fk_2_13, ldI2, mrg_m1_, fk_2_1, fk_6_1, ldI3, fk_2_2, ldI1, wq_callV3_0, mrg_1_, mrg_0_, mGo_n, sfxX2_mayReach_42, cutX2_mayReach_42, sfxX2_mayReach_43, cutX2_mayReach_43, kX2_mayReach_43, kX2_mayReach_42, kX2_mayReach_0, sk_140, al_140, rf_140_13, sk_150, al_150, sn_150, rf_140_1, sk_12, al_12, rf_140_2, sk_120, al_120, rf_12_1, sk_21, al_21, sn_21, ald_n, ro0_n, al_ro, SX2_mayReach_0, shqRII_, spX0_tickAt, mrg, mrl, mSet_ap, ncast, Option.some.injEq, e150, lk, p21]
    (try simp only [mrg, mrl] at *) <;> repeat' (first | (with_reducible assumption) | (with_reducible apply And.intro) | intro _)
    all_goals first | omega | exact g1 () (by omega) | exact g2 () (by omega) | skip
theorem ctrX2_mayReach {l : Launch} (hst : l.stackTraces = false) (hT : mTxM l) : mCtr l calX2_mayReach spX2_mayReach :=
  mMet0 (T := TX2_mayReach) (S := SX2_mayReach) hst hT (by decide) okX2_mayReach ⟨_, _, rfl, rfl⟩ (fun a => match a with
    | 0 => ctrX0_tickAt hst hT
    | _ + 1 => mCtr_no) vcX2_mayReach

def spX2_chanceAlone : mSp := shRII (fun _ i h f I Q => i = some 140 ∧ (0 ≤ f ∧ f < 9) ∧ ∃ t b, ctxU I t b ∧ hitB t b h ∧ (∀ k : Int, 1 ≤ k → k ≤ stepsT t b h → I 150 k = Lf t b h k) ∧ Q (.inl (some (mI (chAl t b h f)))) I)
def SX2_chanceAlone : Nat → mSp := fun a => match a with
  | 0 => spX0_isHigh
  | 1 => spX2_mayReach
  | 2 => spX9_chanceAt
  | _ => fun _ _ _ _ => False
theorem SX2_chanceAlone_0 : SX2_chanceAlone 0 = spX0_isHigh := Eq.trans rfl rfl
theorem SX2_chanceAlone_1 : SX2_chanceAlone 1 = spX2_mayReach := Eq.trans rfl rfl
theorem SX2_chanceAlone_2 : SX2_chanceAlone 2 = spX9_chanceAt := Eq.trans rfl rfl
set_option maxRecDepth 100000 in
set_option maxHeartbeats 1000000 in
theorem vcX2_chanceAlone (fl : Nat → Bool) (avs : List mV) (I : mM) (Q : mO → mM → Prop) (hsp : spX2_chanceAlone fl avs I Q) : mVC0 SX2_chanceAlone fl Q kX2_chanceAlone 4 avs I := by
  obtain ⟨i, hh, f, rfl, h0⟩ := shRII_inv hsp
  refine ⟨rfl, ?_⟩
  show mWp _ _ _ _ _ _ kX2_chanceAlone_0 [some (mR i), some (mI hh), some (mI f), none] [] I
  obtain ⟨rfl, hf, t, b, H, hh1, e150, h⟩ := h0
  have h8 := H.h8 hh1.1 hh1.2
  have lh := H.lh hh1.1 hh1.2
  have e3 := lh.2.2.1
  have e5 := lh.2.2.2.2.1
  have st8 := (steps_spec H.1 H.2.1 h8).1
  have ha := H.1.air H.2.1 h8
  have fl1 := H.1.fld hf
  have pp := H.2.2.2.1 f hf.1 hf.2
  have p22 := pp.2.1
  have p23 := pp.2.2.1
  by_cases hi : 1 ≤ airT t b hh ∧ airT t b hh ≤ stepsT t b hh
  · have cl := cell_in H.1 H.2.1 h8 (k := airT t b hh) ⟨by omega, hi.2⟩
    have lb : -1 ≤ Lf t b hh (airT t b hh) ∧ Lf t b hh (airT t b hh) ≤ 16 := lfN_bd t cl 289 (by omega)
    have ea := e150 (airT t b hh) hi.1 hi.2
    have g1 : ∀ _ : Unit, Lf t b hh (airT t b hh) ≠ -1 ∧ Lf t b hh (airT t b hh) * pcT t f ≤ tickT t b hh (airT t b hh) → Q (.inl (some (mI (max 0 (hdT t f - prT t f * Lf t b hh (airT t b hh)))))) I := fun _ w => q_I (by unfold chAl; rw [if_pos ⟨hi, w⟩]) h
    have g2 : ∀ _ : Unit, ¬ (Lf t b hh (airT t b hh) ≠ -1 ∧ Lf t b hh (airT t b hh) * pcT t f ≤ tickT t b hh (airT t b hh)) → Q (.inl (some (mI 0))) I := fun _ w => q_I (by unfold chAl; rw [if_neg (fun q => w q.2)]) h
    clear h
    simp only [false_and, and_false, true_or, or_true, false_or, or_false, true_and, and_true, true_implies, false_implies, implies_true, not_true_eq_false, not_false_eq_true, and_self, List.length_cons, List.length_nil, mNoCut_, mCat_n, mCat_I, mCat_L, mCat_R, mIsL_n, mIsL_I, mIsL_R, mIsL_L, Nat.reduceAdd, Nat.reduceSub, Nat.reduceLeDiff, Nat.reduceLT, Nat.reduceEqDiff, Nat.zero_le, Int.reduceEq, Int.reduceLT, Int.reduceLE, Int.reduceNeg, Int.reduceAdd, if_true, if_false, reduceIte, reduceCtorEq, Bool.false_eq_true, ne_eq, qCmp_0, qCmp_1, qCmp_2, qCmp_3, qCmp_4, qCmp_5, ib_0, ib_1, ib_2, lb_0, lb_1, lb_2, dv_0, dv_1, wq_ic, wq_ld_i, wq_ld_a, wq_st_i, wq_if, wq_goto, wq_get, mGet_0, mGet_1, mGet_2, mGet_3, wq_ald, wq_ret0, wq_ret1, wq_ret2, wq_ret3, wq_ret4, ldR0, fk_2_2, fk_0_5, ldI1, stI3, wq_callV2_0, ldI3, ldI2, wq_callV4_0, fk_2_3, fk_2_13, wq_callV3_0, mrg_0_, mPut_s, mPut_I0, mPut_R0, mPut_L0, mPut_I1, mPut_R1, mPut_L1, mGo_n, sfxX2_chanceAlone_48, cutX2_chanceAlone_48, sfxX2_chanceAlone_49, cutX2_chanceAlone_49, kX2_chanceAlone_49, kX2_chanceAlone_48, kX2_chanceAlone_0, sk_120, al_120, rf_120_5, sk_123, al_123, sn_123, sk_140, al_140, rf_140_2, rf_140_3, sk_130, al_130, rf_140_13, sk_150, al_150, sn_150, ald_n, ro0_n, al_ro, SX2_chanceAlone_0, SX2_chanceAlone_1, SX2_chanceAlone_2, shqRI_, shqRIII_, shqRII_, spX0_isHigh, spX2_mayReach, spX9_chanceAt, mrg, mrl, mSet_ap, ncast, Option.some.injEq, e3, e5]
    refine ⟨h8, h8, ⟨by omega, by omega⟩, ⟨by omega, by omega⟩, fun _ => ⟨hf, t, b, H, hh1, hi, ea, fun w => ?_, fun w => g2 () w⟩, fun w => absurd hi w⟩
    have pb := prod_bd (x := prT t f) (a := 50) ⟨by omega, by omega⟩ (y := Lf t b hh (airT t b hh)) (b := 16) ⟨by omega, lb.2⟩
    have g1 := g1 () w
    rw [← ea, ← p22, ← p23] at g1
    rw [← ea, ← p23] at pb
    clear g2 w
    (try simp only [mrg, mrl] at *) <;> repeat' (first | (with_reducible assumption) | (with_reducible apply And.intro) | intro _)
    all_goals first | omega | exact g1 | skip
  · have g2 : Q (.inl (some (mI 0))) I := q_I (by unfold chAl; rw [if_neg (fun q => hi q.1)]) h
    clear h
    simp only [false_and, and_false, true_or, or_true, false_or, or_false, true_and, and_true, true_implies, false_implies, implies_true, not_true_eq_false, not_false_eq_true, and_self, List.length_cons, List.length_nil, mNoCut_, mCat_n, mCat_I, mCat_L, mCat_R, mIsL_n, mIsL_I, mIsL_R, mIsL_L, Nat.reduceAdd, Nat.reduceSub, Nat.reduceLeDiff, Nat.reduceLT, Nat.reduceEqDiff, Nat.zero_le, Int.reduceEq, Int.reduceLT, Int.reduceLE, Int.reduceNeg, Int.reduceAdd, if_true, if_false, reduceIte, reduceCtorEq, Bool.false_eq_true, ne_eq, qCmp_0, qCmp_1, qCmp_2, qCmp_3, qCmp_4, qCmp_5, ib_0, ib_1, ib_2, lb_0, lb_1, lb_2, dv_0, dv_1, wq_ic, wq_ld_i, wq_ld_a, wq_st_i, wq_if, wq_goto, wq_get, mGet_0, mGet_1, mGet_2, mGet_3, wq_ald, wq_ret0, wq_ret1, wq_ret2, wq_ret3, wq_ret4, ldR0, fk_2_2, fk_0_5, ldI1, stI3, wq_callV2_0, ldI3, ldI2, wq_callV4_0, fk_2_3, fk_2_13, wq_callV3_0, mrg_0_, mPut_s, mPut_I0, mPut_R0, mPut_L0, mPut_I1, mPut_R1, mPut_L1, mGo_n, sfxX2_chanceAlone_48, cutX2_chanceAlone_48, sfxX2_chanceAlone_49, cutX2_chanceAlone_49, kX2_chanceAlone_49, kX2_chanceAlone_48, kX2_chanceAlone_0, sk_120, al_120, rf_120_5, sk_123, al_123, sn_123, sk_140, al_140, rf_140_2, rf_140_3, sk_130, al_130, rf_140_13, sk_150, al_150, sn_150, ald_n, ro0_n, al_ro, SX2_chanceAlone_0, SX2_chanceAlone_1, SX2_chanceAlone_2, shqRI_, shqRIII_, shqRII_, spX0_isHigh, spX2_mayReach, spX9_chanceAt, mrg, mrl, mSet_ap, ncast, Option.some.injEq, e3, e5]
    refine ⟨h8, h8, ⟨by omega, by omega⟩, ⟨by omega, by omega⟩, fun w => absurd w hi, fun _ => g2⟩
theorem ctrX2_chanceAlone {l : Launch} (hst : l.stackTraces = false) (hT : mTxM l) : mCtr l calX2_chanceAlone spX2_chanceAlone :=
  mMet0 (T := TX2_chanceAlone) (S := SX2_chanceAlone) hst hT (by decide) okX2_chanceAlone ⟨_, _, rfl, rfl⟩ (fun a => match a with
    | 0 => ctrX0_isHigh hst hT
    | 1 => ctrX2_mayReach hst hT
    | 2 => ctrX9_chanceAt hst hT
    | _ + 3 => mCtr_no) vcX2_chanceAlone

def spX2_runsAlone : mSp := shRII (fun _ i h f I Q => i = some 140 ∧ (0 ≤ f ∧ f < 9) ∧ ∃ t b, ctxU I t b ∧ hitB t b h ∧ (∀ k : Int, 1 ≤ k → k ≤ stepsT t b h → I 150 k = Lf t b h k) ∧ Q (.inl (some (mI (raAl t b h f)))) I)
def SX2_runsAlone : Nat → mSp := fun a => match a with
  | 0 => spX2_mayReach
  | 1 => spX9_runsBy
  | 2 => spX0_runsUnstopped
  | _ => fun _ _ _ _ => False
theorem SX2_runsAlone_0 : SX2_runsAlone 0 = spX2_mayReach := Eq.trans rfl rfl
theorem SX2_runsAlone_1 : SX2_runsAlone 1 = spX9_runsBy := Eq.trans rfl rfl
theorem SX2_runsAlone_2 : SX2_runsAlone 2 = spX0_runsUnstopped := Eq.trans rfl rfl
theorem cutsX2_runsAlone {t : Nat} {bs : List Bool} (h : cutX2_runsAlone t = some bs) : (t = 12 ∧ bs = [true, true, true, true]) := by
  unfold cutX2_runsAlone at h
  simp only [mLk] at h
  by_cases h0 : 12 = t
  · subst h0
    simp at h
    exact ⟨rfl, h.symm⟩
  rw [if_neg h0] at h
  cases h
set_option maxRecDepth 100000 in
set_option maxHeartbeats 1000000 in
theorem vcX2_runsAlone (fl : Nat → Bool) (avs : List mV) (I : mM) (Q : mO → mM → Prop) (hsp : spX2_runsAlone fl avs I Q) : mVC SX2_runsAlone fl Q kX2_runsAlone cutX2_runsAlone 4 avs I := by
  obtain ⟨i, hh, f, rfl, h0⟩ := shRII_inv hsp
  obtain ⟨rfl, hf, t, b, H, hh1, e150, h⟩ := h0
  have h8 := H.h8 hh1.1 hh1.2
  have lh := H.lh hh1.1 hh1.2
  have e3 := lh.2.2.1
  have e5 := lh.2.2.2.2.1
  have st8 := (steps_spec H.1 H.2.1 h8).1
  have ha := H.1.air H.2.1 h8
  refine ⟨rfl, (fun m pc lv st I1 => st = [] ∧ I1 = I ∧ ∃ k : Int, lv = [some (mR (some 140)), some (mI hh), some (mI f), some (mI k)] ∧ (airT t b hh + 1 ≤ k ∧ k ≤ 9) ∧ m = (stepsT t b hh + 1 - k).toNat ∧ raAl t b hh f = raGo t b hh f (stepsT t b hh + 1 - k).toNat k), ?_, ?_⟩
  · intro n t bs hbs lv st I1 hc
    rcases cutsX2_runsAlone hbs with ⟨rfl, rfl⟩
    rw [sfxX2_runsAlone_12]
    obtain ⟨rfl, rfl, k, rfl, hk, hm, he⟩ := hc
    rcases Int.lt_or_le (stepsT t b hh) k with z | z
    · rw [he, show (stepsT t b hh + 1 - k).toNat = 0 by omega] at h
      have h2 : Q (.inl (some (mI (if stepsT t b hh < airT t b hh then 6 else 4)))) I1 := h
      clear h
      simp only [false_and, and_false, true_or, or_true, false_or, or_false, true_and, and_true, true_implies, false_implies, implies_true, not_true_eq_false, not_false_eq_true, and_self, List.length_cons, List.length_nil, mNoCut_, mCat_n, mCat_I, mCat_L, mCat_R, mIsL_n, mIsL_I, mIsL_R, mIsL_L, Nat.reduceAdd, Nat.reduceSub, Nat.reduceLeDiff, Nat.reduceLT, Nat.reduceEqDiff, Nat.zero_le, Int.reduceEq, Int.reduceLT, Int.reduceLE, Int.reduceNeg, Int.reduceAdd, if_true, if_false, reduceIte, reduceCtorEq, Bool.false_eq_true, ne_eq, qCmp_0, qCmp_1, qCmp_2, qCmp_3, qCmp_4, qCmp_5, ib_0, ib_1, ib_2, lb_0, lb_1, lb_2, dv_0, dv_1, wq_ic, wq_ld_i, wq_ld_a, wq_st_i, wq_iinc, wq_ib, wq_icmp, wq_if, wq_goto, wq_get, mGet_0, mGet_1, mGet_2, mGet_3, wq_ald, wq_ret0, wq_ret1, wq_ret2, wq_ret3, wq_ret4, ldR0, fk_2_2, fk_0_5, ldI1, mrg_1_, stI3, ldI3, fk_0_7, ldI2, wq_callV4_0, fk_2_3, wqinc3, wq_callV2_0, mPut_s, mPut_I0, mPut_R0, mPut_L0, mPut_I1, mPut_R1, mPut_L1, mrg_0_, mGo_n, sfxX2_runsAlone_12, cutX2_runsAlone_12, sfxX2_runsAlone_46, cutX2_runsAlone_46, sfxX2_runsAlone_52, cutX2_runsAlone_52, wq_cut, mGo_c, mMask_t, mMask_f, mMask_n, kX2_runsAlone_52, kX2_runsAlone_46, kX2_runsAlone_12, kX2_runsAlone_0, sk_120, al_120, rf_120_5, sk_123, al_123, sn_123, rf_120_7, sk_125, al_125, sn_125, sk_140, al_140, rf_140_2, rf_140_3, sk_130, al_130, ald_n, ro0_n, al_ro, SX2_runsAlone_0, SX2_runsAlone_1, SX2_runsAlone_2, shqRIII_, shqRI_, spX2_mayReach, spX9_runsBy, spX0_runsUnstopped, mrg, mrl, mSet_ap, ncast, Option.some.injEq, e3, e5]
      (try simp only [mrg, mrl] at *) <;> repeat' (first | (with_reducible assumption) | (with_reducible apply And.intro) | intro _)
      all_goals first | omega | exact h2 | skip
    · have gs : raGo t b hh f (stepsT t b hh + 1 - k).toNat k = if Lf t b hh k ≠ -1 ∧ Lf t b hh k * pcT t f ≤ tickT t b hh k then runsByT (amT t) (cellT t b hh) (tickT t b hh) (t 2) f k else raGo t b hh f (stepsT t b hh + 1 - (k + 1)).toNat (k + 1) := by
        rw [show (stepsT t b hh + 1 - k).toNat = (stepsT t b hh + 1 - (k + 1)).toNat + 1 by omega]
        rfl
      simp only [false_and, and_false, true_or, or_true, false_or, or_false, true_and, and_true, true_implies, false_implies, implies_true, not_true_eq_false, not_false_eq_true, and_self, List.length_cons, List.length_nil, mNoCut_, mCat_n, mCat_I, mCat_L, mCat_R, mIsL_n, mIsL_I, mIsL_R, mIsL_L, Nat.reduceAdd, Nat.reduceSub, Nat.reduceLeDiff, Nat.reduceLT, Nat.reduceEqDiff, Nat.zero_le, Int.reduceEq, Int.reduceLT, Int.reduceLE, Int.reduceNeg, Int.reduceAdd, if_true, if_false, reduceIte, reduceCtorEq, Bool.false_eq_true, ne_eq, qCmp_0, qCmp_1, qCmp_2, qCmp_3, qCmp_4, qCmp_5, ib_0, ib_1, ib_2, lb_0, lb_1, lb_2, dv_0, dv_1, wq_ic, wq_ld_i, wq_ld_a, wq_st_i, wq_iinc, wq_ib, wq_icmp, wq_if, wq_goto, wq_get, mGet_0, mGet_1, mGet_2, mGet_3, wq_ald, wq_ret0, wq_ret1, wq_ret2, wq_ret3, wq_ret4, ldR0, fk_2_2, fk_0_5, ldI1, mrg_1_, stI3, ldI3, fk_0_7, ldI2, wq_callV4_0, fk_2_3, wqinc3, wq_callV2_0, mPut_s, mPut_I0, mPut_R0, mPut_L0, mPut_I1, mPut_R1, mPut_L1, mrg_0_, mGo_n, sfxX2_runsAlone_12, cutX2_runsAlone_12, sfxX2_runsAlone_46, cutX2_runsAlone_46, sfxX2_runsAlone_52, cutX2_runsAlone_52, wq_cut, mGo_c, mMask_t, mMask_f, mMask_n, kX2_runsAlone_52, kX2_runsAlone_46, kX2_runsAlone_12, kX2_runsAlone_0, sk_120, al_120, rf_120_5, sk_123, al_123, sn_123, rf_120_7, sk_125, al_125, sn_125, sk_140, al_140, rf_140_2, rf_140_3, sk_130, al_130, ald_n, ro0_n, al_ro, SX2_runsAlone_0, SX2_runsAlone_1, SX2_runsAlone_2, shqRIII_, shqRI_, spX2_mayReach, spX9_runsBy, spX0_runsUnstopped, mrg, mrl, mSet_ap, ncast, Option.some.injEq, e3, e5]
      refine ⟨h8, ⟨⟨by omega, by omega⟩, by omega, by omega⟩, fun w => by omega, fun _ => ⟨hf, t, b, H, hh1, ⟨by omega, z⟩, e150 k (by omega) z, fun w => ⟨⟨by omega, by omega⟩, t, b, H, hh1, fun _ => ⟨by omega, z⟩, ⟨by omega, by omega⟩, q_I (by rw [he, gs, if_pos w, if_neg (by omega)]) h⟩, fun w => ⟨_, (by omega), _, rfl, ⟨by omega, by omega⟩, rfl, by rw [he, gs, if_neg w]⟩⟩⟩
  · show mWp _ _ _ _ _ _ kX2_runsAlone_0 [some (mR (some 140)), some (mI hh), some (mI f), none] [] I
    simp only [false_and, and_false, true_or, or_true, false_or, or_false, true_and, and_true, true_implies, false_implies, implies_true, not_true_eq_false, not_false_eq_true, and_self, List.length_cons, List.length_nil, mNoCut_, mCat_n, mCat_I, mCat_L, mCat_R, mIsL_n, mIsL_I, mIsL_R, mIsL_L, Nat.reduceAdd, Nat.reduceSub, Nat.reduceLeDiff, Nat.reduceLT, Nat.reduceEqDiff, Nat.zero_le, Int.reduceEq, Int.reduceLT, Int.reduceLE, Int.reduceNeg, Int.reduceAdd, if_true, if_false, reduceIte, reduceCtorEq, Bool.false_eq_true, ne_eq, qCmp_0, qCmp_1, qCmp_2, qCmp_3, qCmp_4, qCmp_5, ib_0, ib_1, ib_2, lb_0, lb_1, lb_2, dv_0, dv_1, wq_ic, wq_ld_i, wq_ld_a, wq_st_i, wq_iinc, wq_ib, wq_icmp, wq_if, wq_goto, wq_get, mGet_0, mGet_1, mGet_2, mGet_3, wq_ald, wq_ret0, wq_ret1, wq_ret2, wq_ret3, wq_ret4, ldR0, fk_2_2, fk_0_5, ldI1, mrg_1_, stI3, ldI3, fk_0_7, ldI2, wq_callV4_0, fk_2_3, wqinc3, wq_callV2_0, mPut_s, mPut_I0, mPut_R0, mPut_L0, mPut_I1, mPut_R1, mPut_L1, mrg_0_, mGo_n, sfxX2_runsAlone_12, cutX2_runsAlone_12, sfxX2_runsAlone_46, cutX2_runsAlone_46, sfxX2_runsAlone_52, cutX2_runsAlone_52, wq_cut, mGo_c, mMask_t, mMask_f, mMask_n, kX2_runsAlone_52, kX2_runsAlone_46, kX2_runsAlone_12, kX2_runsAlone_0, sk_120, al_120, rf_120_5, sk_123, al_123, sn_123, rf_120_7, sk_125, al_125, sn_125, sk_140, al_140, rf_140_2, rf_140_3, sk_130, al_130, ald_n, ro0_n, al_ro, SX2_runsAlone_0, SX2_runsAlone_1, SX2_runsAlone_2, shqRIII_, shqRI_, spX2_mayReach, spX9_runsBy, spX0_runsUnstopped, mrg, mrl, mSet_ap, ncast, Option.some.injEq, e3]
    exact ⟨h8, _, _, rfl, ⟨by omega, by omega⟩, rfl, by unfold raAl; rw [show stepsT t b hh + 1 - (airT t b hh + 1) = stepsT t b hh - airT t b hh by omega]⟩
theorem ctrX2_runsAlone {l : Launch} (hst : l.stackTraces = false) (hT : mTxM l) : mCtr l calX2_runsAlone spX2_runsAlone :=
  mMet (T := TX2_runsAlone) (S := SX2_runsAlone) hst hT cutX2_runsAlone (by decide) okX2_runsAlone ⟨_, _, rfl, rfl⟩ trivial (fun t bs h => by rcases cutsX2_runsAlone h with ⟨-, rfl⟩ <;> rfl) (fun a => match a with
    | 0 => ctrX2_mayReach hst hT
    | 1 => ctrX9_runsBy hst hT
    | 2 => ctrX0_runsUnstopped hst hT
    | _ + 3 => mCtr_no) vcX2_runsAlone

def bmN (t s : Int → Int) (b h : Int) : Nat → Int × Int
  | 0 => (0, if stepsT t b h < airT t b h then 6 else 4)
  | n + 1 => if s n = -1 then bmN t s b h n else (max (bmN t s b h n).1 (chAl t b h n), min (bmN t s b h n).2 (raAl t b h n))
theorem chAl_bd {t : Int → Int} (H : WFt t) {b h f : Int} (hb : 0 ≤ b ∧ b < 6) (hh : 0 ≤ h ∧ h < 8) (hf : 0 ≤ f ∧ f < 9) : 0 ≤ chAl t b h f ∧ chAl t b h f ≤ 100 := by
  have ha := H.air hb hh
  have fl1 := H.fld hf
  unfold chAl
  split
  · rename_i z
    have cl := cell_in H hb hh (k := airT t b h) ⟨by omega, by omega⟩
    have lb : -1 ≤ Lf t b h (airT t b h) ∧ Lf t b h (airT t b h) ≤ 16 := lfN_bd t cl 289 (by omega)
    have pb := prod_bd (x := prT t f) (a := 50) ⟨by omega, by omega⟩ (y := Lf t b h (airT t b h)) (b := 16) ⟨by omega, lb.2⟩
    omega
  · omega
theorem raGo_bd {t : Int → Int} (H : WFt t) {b h f : Int} (hb : 0 ≤ b ∧ b < 6) (hh : 0 ≤ h ∧ h < 8) (hf : 0 ≤ f ∧ f < 9) : ∀ (m : Nat) (k : Int), 1 ≤ k → k + m ≤ stepsT t b h + 1 → 0 ≤ raGo t b h f m k ∧ raGo t b h f m k ≤ 6
  | 0, k, _, _ => by
    simp only [raGo]
    split <;> omega
  | m + 1, k, k0, k1 => by
    have ih := raGo_bd H hb hh hf m (k + 1) (by omega) (by omega)
    have cl := cell_in H hb hh (k := k) ⟨by omega, by omega⟩
    have tk := tickT_bd H hb hh (k := k) (by omega) (by omega)
    have fl1 := H.fld hf
    have f1 := far_bd cl (b := 144) ⟨by omega, by omega⟩
    have p1 := prod_bd (x := amT t f) (a := 9) ⟨by omega, by omega⟩ f1
    have hr := H.1.2.2.1
    have d0 : 0 ≤ (tickT t b h k + amT t f * far (cellT t b h k) 144) / t 2 := Int.ediv_nonneg (by omega) (by omega)
    simp only [raGo]
    split
    · unfold runsByT
      omega
    · exact ih
theorem raAl_bd {t : Int → Int} (H : WFt t) {b h f : Int} (hb : 0 ≤ b ∧ b < 6) (hh : 0 ≤ h ∧ h < 8) (hf : 0 ≤ f ∧ f < 9) : 0 ≤ raAl t b h f ∧ raAl t b h f ≤ 6 := by
  have ha := H.air hb hh
  have st8 := (steps_spec H hb hh).1
  unfold raAl
  rcases Int.lt_or_le (stepsT t b h) (airT t b h) with z | z
  · rw [show (stepsT t b h - airT t b h).toNat = 0 by omega]
    exact raGo_bd H hb hh hf 0 1 (by omega) (by omega)
  · exact raGo_bd H hb hh hf _ _ (by omega) (by omega)
theorem bmN_bd {t : Int → Int} (H : WFt t) (s : Int → Int) {b h : Int} (hb : 0 ≤ b ∧ b < 6) (hh : 0 ≤ h ∧ h < 8) : ∀ n : Nat, n ≤ 9 → (0 ≤ (bmN t s b h n).1 ∧ (bmN t s b h n).1 ≤ 100) ∧ (0 ≤ (bmN t s b h n).2 ∧ (bmN t s b h n).2 ≤ 6)
  | 0, _ => by
    simp only [bmN]
    split <;> omega
  | n + 1, hn => by
    have ih := bmN_bd H s hb hh n (by omega)
    have c := chAl_bd H (f := n) hb hh ⟨by omega, by omega⟩
    have r := raAl_bd H (f := n) hb hh ⟨by omega, by omega⟩
    simp only [bmN]
    split
    · exact ih
    · dsimp only
      omega
def spX2_boundCost : mSp := shRI (fun _ i h I Q => i = some 140 ∧ stB (I 20) ∧ ∃ t b, ctxU I t b ∧ hitB t b h ∧ ∀ J : mM, Q (.inl (some (mI (priceT (t 3) (bmN t (I 20) b h 9).1 (bmN t (I 20) b h 9).2)))) (fr 150 150 J I))
def SX2_boundCost : Nat → mSp := fun a => match a with
  | 0 => spX0_cellAt
  | 1 => spX2_leastFarFrom
  | 2 => spX0_runsUnstopped
  | 3 => spX2_chanceAlone
  | 4 => spX2_runsAlone
  | 5 => spX9_price
  | _ => fun _ _ _ _ => False
theorem SX2_boundCost_0 : SX2_boundCost 0 = spX0_cellAt := Eq.trans rfl rfl
theorem SX2_boundCost_1 : SX2_boundCost 1 = spX2_leastFarFrom := Eq.trans rfl rfl
theorem SX2_boundCost_2 : SX2_boundCost 2 = spX0_runsUnstopped := Eq.trans rfl rfl
theorem SX2_boundCost_3 : SX2_boundCost 3 = spX2_chanceAlone := Eq.trans rfl rfl
theorem SX2_boundCost_4 : SX2_boundCost 4 = spX2_runsAlone := Eq.trans rfl rfl
theorem SX2_boundCost_5 : SX2_boundCost 5 = spX9_price := Eq.trans rfl rfl
theorem cutsX2_boundCost {t : Nat} {bs : List Bool} (h : cutX2_boundCost t = some bs) : (t = 2 ∧ bs = [true, true, true, false, false]) ∨ (t = 54 ∧ bs = [true, true, true, true, true]) := by
  unfold cutX2_boundCost at h
  simp only [mLk] at h
  by_cases h0 : 2 = t
  · subst h0
    simp at h
    exact Or.inl ⟨rfl, h.symm⟩
  rw [if_neg h0] at h
  by_cases h1 : 54 = t
  · subst h1
    simp at h
    exact Or.inr (⟨rfl, h.symm⟩)
  rw [if_neg h1] at h
  cases h
set_option maxRecDepth 100000 in
set_option maxHeartbeats 1000000 in
theorem vcX2_boundCost (fl : Nat → Bool) (avs : List mV) (I : mM) (Q : mO → mM → Prop) (hsp : spX2_boundCost fl avs I Q) : mVC SX2_boundCost fl Q kX2_boundCost cutX2_boundCost 5 avs I := by
  obtain ⟨i, hh, rfl, h0⟩ := shRI_inv hsp
  obtain ⟨rfl, hB, t, b, H, hh1, h⟩ := h0
  have h8 := H.h8 hh1.1 hh1.2
  have lh := H.lh hh1.1 hh1.2
  have e3 := lh.2.2.1
  have e5 := lh.2.2.2.2.1
  have st8 := (steps_spec H.1 H.2.1 h8).1
  have ha := H.1.air H.2.1 h8
  have g1 := H.2.2.2.2 1 (by omega) (by omega)
  have g5 := H.2.2.2.2 5 (by omega) (by omega)
  have h0 := H.1.1
  refine ⟨rfl, (fun m pc lv st I1 => st = [] ∧ ∃ (j : Nat) (J : mM), I1 = fr 150 150 J I ∧ (if pc = 2 then lv = [some (mR (some 140)), some (mI hh), some (mI ((j : Int) + 1)), none, none] ∧ (j : Int) ≤ stepsT t b hh ∧ m = 20 + (8 - j) ∧ (∀ k : Int, 1 ≤ k → k ≤ j → J 150 k = Lf t b hh k) else lv = [some (mR (some 140)), some (mI hh), some (mI (bmN t (I 20) b hh j).1), some (mI (bmN t (I 20) b hh j).2), some (mI j)] ∧ j ≤ 9 ∧ m = 9 - j ∧ (∀ k : Int, 1 ≤ k → k ≤ stepsT t b hh → J 150 k = Lf t b hh k))), ?_, ?_⟩
  · intro n t bs hbs lv st I1 hc
    rcases cutsX2_boundCost hbs with ⟨rfl, rfl⟩ | ⟨rfl, rfl⟩
    · skip
      rw [sfxX2_boundCost_2]
      obtain ⟨rfl, j, J, rfl, rfl, hj, hm, hL⟩ := hc
      clear h
      rcases Int.lt_or_le (j : Int) (stepsT t b hh) with z | z
      · have lk := (lh.2.2.2.2.2 ((j : Int) + 1) (by omega) (by omega)).1
        have cl := cell_in H.1 H.2.1 h8 (k := (j : Int) + 1) ⟨by omega, by omega⟩
        have eL : lfN (I 11) (cellT t b hh ((j : Int) + 1)) 289 = Lf t b hh ((j : Int) + 1) := lfN_cong g1 g5 _ 289
        have key : ∃ n', n' < n ∧ ∃ (j_1 : Nat) (J_1 : mM), mSet (fr 150 150 J I) 150 ((j : Int) + 1) (Lf t b hh ((j : Int) + 1)) = fr 150 150 J_1 I ∧ [some (mR (some 140)), some (mI hh), some (mI ((j : Int) + 1 + 1)), none, none] = [some (mR (some 140)), some (mI hh), some (mI ((j_1 : Int) + 1)), none, none] ∧ (j_1 : Int) ≤ stepsT t b hh ∧ n' = 20 + (8 - j_1) ∧ (∀ k : Int, 1 ≤ k → k ≤ j_1 → J_1 150 k = Lf t b hh k) := by
          refine ⟨20 + (8 - (j + 1)), by omega, j + 1, mSet (fr 150 150 J I) 150 ((j : Int) + 1) (Lf t b hh ((j : Int) + 1)), (fr_of (fun i hi => by rw [set_ne (by omega), fr_ne hi])).symm, rfl, by omega, rfl, fun k k0 k1 => ?_⟩
          by_cases q : k = (j : Int) + 1
          · rw [q, set_eq]
          · rw [set_nq q]
            exact hL k k0 (by omega)
        simp only [false_and, and_false, true_or, or_true, false_or, or_false, true_and, and_true, true_implies, false_implies, implies_true, not_true_eq_false, not_false_eq_true, and_self, List.length_cons, List.length_nil, mNoCut_, mCat_n, mCat_I, mCat_L, mCat_R, mIsL_n, mIsL_I, mIsL_R, mIsL_L, Nat.reduceAdd, Nat.reduceSub, Nat.reduceLeDiff, Nat.reduceLT, Nat.reduceEqDiff, Nat.zero_le, Int.reduceEq, Int.reduceLT, Int.reduceLE, Int.reduceNeg, Int.reduceAdd, if_true, if_false, reduceIte, reduceCtorEq, Bool.false_eq_true, ne_eq, qCmp_0, qCmp_1, qCmp_2, qCmp_3, qCmp_4, qCmp_5, ib_0, ib_1, ib_2, lb_0, lb_1, lb_2, dv_0, dv_1, wq_ic, wq_ld_i, wq_ld_a, wq_st_i, wq_iinc, wq_icmp, wq_goto, wq_get, mGet_0, mGet_1, mGet_2, mGet_3, wq_ald, wq_astI, wq_astL, wq_ret0, wq_ret1, wq_ret2, wq_ret3, wq_ret4, wq_max, wq_min, wq_abs, wq_lmax, mrg_1_, stI2, ldI2, ldR0, fk_2_2, fk_0_7, ldI1, fk_2_13, wq_callV3_0, wq_callV2_0, wqinc2, mrg_0_, stI3, stI4, ldI4, mrg_9_, fk_2_1, fk_6_0, mrg_m1_, ldI3, wqinc4, fk_2_3, mPut_s, mPut_I0, mPut_R0, mPut_L0, mPut_I1, mPut_R1, mPut_L1, mGo_n, sfxX2_boundCost_2, cutX2_boundCost_2, sfxX2_boundCost_40, cutX2_boundCost_40, sfxX2_boundCost_54, cutX2_boundCost_54, sfxX2_boundCost_99, cutX2_boundCost_99, sfxX2_boundCost_105, cutX2_boundCost_105, wq_cut, mGo_c, mMask_t, mMask_f, mMask_n, kX2_boundCost_105, kX2_boundCost_99, kX2_boundCost_54, kX2_boundCost_40, kX2_boundCost_2, kX2_boundCost_0, sk_120, al_120, rf_120_7, sk_125, al_125, sn_125, sk_140, al_140, rf_140_2, rf_140_13, sk_150, al_150, sn_150, rf_140_1, sk_12, al_12, rf_140_3, sk_130, al_130, rf_12_0, sk_20, al_20, sn_20, ald_n, ro0_n, al_ro, SX2_boundCost_0, SX2_boundCost_1, SX2_boundCost_2, SX2_boundCost_3, SX2_boundCost_4, SX2_boundCost_5, shqRII_, shqRI_, spX0_cellAt, spX2_leastFarFrom, spX0_runsUnstopped, spX2_chanceAlone, spX2_runsAlone, spX9_price, mrg, mrl, mSet_ap, ncast, Option.some.injEq, fr_ne, e5, lk, eL]
        (try simp only [mrg, mrl] at *) <;> repeat' (first | (with_reducible assumption) | (with_reducible apply And.intro) | intro _)
        all_goals first | omega | exact key | skip
      · simp only [false_and, and_false, true_or, or_true, false_or, or_false, true_and, and_true, true_implies, false_implies, implies_true, not_true_eq_false, not_false_eq_true, and_self, List.length_cons, List.length_nil, mNoCut_, mCat_n, mCat_I, mCat_L, mCat_R, mIsL_n, mIsL_I, mIsL_R, mIsL_L, Nat.reduceAdd, Nat.reduceSub, Nat.reduceLeDiff, Nat.reduceLT, Nat.reduceEqDiff, Nat.zero_le, Int.reduceEq, Int.reduceLT, Int.reduceLE, Int.reduceNeg, Int.reduceAdd, if_true, if_false, reduceIte, reduceCtorEq, Bool.false_eq_true, ne_eq, qCmp_0, qCmp_1, qCmp_2, qCmp_3, qCmp_4, qCmp_5, ib_0, ib_1, ib_2, lb_0, lb_1, lb_2, dv_0, dv_1, wq_ic, wq_ld_i, wq_ld_a, wq_st_i, wq_iinc, wq_icmp, wq_goto, wq_get, mGet_0, mGet_1, mGet_2, mGet_3, wq_ald, wq_astI, wq_astL, wq_ret0, wq_ret1, wq_ret2, wq_ret3, wq_ret4, wq_max, wq_min, wq_abs, wq_lmax, mrg_1_, stI2, ldI2, ldR0, fk_2_2, fk_0_7, ldI1, fk_2_13, wq_callV3_0, wq_callV2_0, wqinc2, mrg_0_, stI3, stI4, ldI4, mrg_9_, fk_2_1, fk_6_0, mrg_m1_, ldI3, wqinc4, fk_2_3, mPut_s, mPut_I0, mPut_R0, mPut_L0, mPut_I1, mPut_R1, mPut_L1, mGo_n, sfxX2_boundCost_2, cutX2_boundCost_2, sfxX2_boundCost_40, cutX2_boundCost_40, sfxX2_boundCost_54, cutX2_boundCost_54, sfxX2_boundCost_99, cutX2_boundCost_99, sfxX2_boundCost_105, cutX2_boundCost_105, wq_cut, mGo_c, mMask_t, mMask_f, mMask_n, kX2_boundCost_105, kX2_boundCost_99, kX2_boundCost_54, kX2_boundCost_40, kX2_boundCost_2, kX2_boundCost_0, sk_120, al_120, rf_120_7, sk_125, al_125, sn_125, sk_140, al_140, rf_140_2, rf_140_13, sk_150, al_150, sn_150, rf_140_1, sk_12, al_12, rf_140_3, sk_130, al_130, rf_12_0, sk_20, al_20, sn_20, ald_n, ro0_n, al_ro, SX2_boundCost_0, SX2_boundCost_1, SX2_boundCost_2, SX2_boundCost_3, SX2_boundCost_4, SX2_boundCost_5, shqRII_, shqRI_, spX0_cellAt, spX2_leastFarFrom, spX0_runsUnstopped, spX2_chanceAlone, spX2_runsAlone, spX9_price, mrg, mrl, mSet_ap, ncast, Option.some.injEq, fr_ne, e5]
        (try simp only [mrg, mrl] at *) <;> repeat' (first | (with_reducible assumption) | (with_reducible apply And.intro) | intro _)
        all_goals first | omega | exact ⟨9, by omega, 0, J, rfl, by (first | rw [e3] | skip); rfl, by omega, rfl, fun k k0 k1 => hL k k0 (by omega)⟩ | skip
    · skip
      rw [sfxX2_boundCost_54]
      obtain ⟨rfl, j, J, rfl, rfl, hj, hm, hL⟩ := hc
      have bd := bmN_bd H.1 (I 20) H.2.1 h8 j hj
      have hC : ctxU (fr 150 150 J I) t b := by
        rw [ctxU_fr (by decide)]
        exact H
      have g3 := H.2.2.2.2 3 (by omega) (by omega)
      have hfin : ∀ _ : Unit, j = 9 → Q (.inl (some (mI (priceT (t 3) (bmN t (I 20) b hh j).1 (bmN t (I 20) b hh j).2)))) (fr 150 150 J I) := fun _ e => by
        subst e
        exact h J
      have bs : bmN t (I 20) b hh (j + 1) = if I 20 j = -1 then bmN t (I 20) b hh j else (max (bmN t (I 20) b hh j).1 (chAl t b hh j), min (bmN t (I 20) b hh j).2 (raAl t b hh j)) := rfl
      clear h
      rcases Nat.lt_or_ge j 9 with z | z
      · have bj := hB j (by omega) (by omega)
        have c := chAl_bd H.1 (f := j) H.2.1 h8 ⟨by omega, by omega⟩
        have r := raAl_bd H.1 (f := j) H.2.1 h8 ⟨by omega, by omega⟩
        simp only [false_and, and_false, true_or, or_true, false_or, or_false, true_and, and_true, true_implies, false_implies, implies_true, not_true_eq_false, not_false_eq_true, and_self, List.length_cons, List.length_nil, mNoCut_, mCat_n, mCat_I, mCat_L, mCat_R, mIsL_n, mIsL_I, mIsL_R, mIsL_L, Nat.reduceAdd, Nat.reduceSub, Nat.reduceLeDiff, Nat.reduceLT, Nat.reduceEqDiff, Nat.zero_le, Int.reduceEq, Int.reduceLT, Int.reduceLE, Int.reduceNeg, Int.reduceAdd, if_true, if_false, reduceIte, reduceCtorEq, Bool.false_eq_true, ne_eq, qCmp_0, qCmp_1, qCmp_2, qCmp_3, qCmp_4, qCmp_5, ib_0, ib_1, ib_2, lb_0, lb_1, lb_2, dv_0, dv_1, wq_ic, wq_ld_i, wq_ld_a, wq_st_i, wq_iinc, wq_icmp, wq_goto, wq_get, mGet_0, mGet_1, mGet_2, mGet_3, wq_ald, wq_astI, wq_astL, wq_ret0, wq_ret1, wq_ret2, wq_ret3, wq_ret4, wq_max, wq_min, wq_abs, wq_lmax, mrg_1_, stI2, ldI2, ldR0, fk_2_2, fk_0_7, ldI1, fk_2_13, wq_callV3_0, wq_callV2_0, wqinc2, mrg_0_, stI3, stI4, ldI4, mrg_9_, fk_2_1, fk_6_0, mrg_m1_, ldI3, wqinc4, fk_2_3, mPut_s, mPut_I0, mPut_R0, mPut_L0, mPut_I1, mPut_R1, mPut_L1, mGo_n, sfxX2_boundCost_2, cutX2_boundCost_2, sfxX2_boundCost_40, cutX2_boundCost_40, sfxX2_boundCost_54, cutX2_boundCost_54, sfxX2_boundCost_99, cutX2_boundCost_99, sfxX2_boundCost_105, cutX2_boundCost_105, wq_cut, mGo_c, mMask_t, mMask_f, mMask_n, kX2_boundCost_105, kX2_boundCost_99, kX2_boundCost_54, kX2_boundCost_40, kX2_boundCost_2, kX2_boundCost_0, sk_120, al_120, rf_120_7, sk_125, al_125, sn_125, sk_140, al_140, rf_140_2, rf_140_13, sk_150, al_150, sn_150, rf_140_1, sk_12, al_12, rf_140_3, sk_130, al_130, rf_12_0, sk_20, al_20, sn_20, ald_n, ro0_n, al_ro, SX2_boundCost_0, SX2_boundCost_1, SX2_boundCost_2, SX2_boundCost_3, SX2_boundCost_4, SX2_boundCost_5, shqRII_, shqRI_, spX0_cellAt, spX2_leastFarFrom, spX0_runsUnstopped, spX2_chanceAlone, spX2_runsAlone, spX9_price, mrg, mrl, mSet_ap, ncast, Option.some.injEq, fr_ne]
        refine ⟨⟨by omega, by omega⟩, fun w => by omega, fun _ => ⟨⟨by omega, by omega⟩, ⟨by omega, by omega⟩, fun x => ?_, fun x => ?_⟩⟩
        · exact ⟨9 - (j + 1), by omega, j + 1, J, rfl, by rw [bs, if_pos (by omega)]; rfl, by omega, rfl, hL⟩
        · refine ⟨⟨by omega, by omega⟩, t, b, hC, hh1, hL, ⟨⟨by omega, by omega⟩, by omega, by omega⟩, ⟨by omega, by omega⟩, t, b, hC, hh1, hL, ⟨⟨by omega, by omega⟩, by omega, by omega⟩, ?_⟩
          exact ⟨9 - (j + 1), by omega, j + 1, J, rfl, by rw [bs, if_neg (by omega)]; rfl, by omega, rfl, hL⟩
      · simp only [false_and, and_false, true_or, or_true, false_or, or_false, true_and, and_true, true_implies, false_implies, implies_true, not_true_eq_false, not_false_eq_true, and_self, List.length_cons, List.length_nil, mNoCut_, mCat_n, mCat_I, mCat_L, mCat_R, mIsL_n, mIsL_I, mIsL_R, mIsL_L, Nat.reduceAdd, Nat.reduceSub, Nat.reduceLeDiff, Nat.reduceLT, Nat.reduceEqDiff, Nat.zero_le, Int.reduceEq, Int.reduceLT, Int.reduceLE, Int.reduceNeg, Int.reduceAdd, if_true, if_false, reduceIte, reduceCtorEq, Bool.false_eq_true, ne_eq, qCmp_0, qCmp_1, qCmp_2, qCmp_3, qCmp_4, qCmp_5, ib_0, ib_1, ib_2, lb_0, lb_1, lb_2, dv_0, dv_1, wq_ic, wq_ld_i, wq_ld_a, wq_st_i, wq_iinc, wq_icmp, wq_goto, wq_get, mGet_0, mGet_1, mGet_2, mGet_3, wq_ald, wq_astI, wq_astL, wq_ret0, wq_ret1, wq_ret2, wq_ret3, wq_ret4, wq_max, wq_min, wq_abs, wq_lmax, mrg_1_, stI2, ldI2, ldR0, fk_2_2, fk_0_7, ldI1, fk_2_13, wq_callV3_0, wq_callV2_0, wqinc2, mrg_0_, stI3, stI4, ldI4, mrg_9_, fk_2_1, fk_6_0, mrg_m1_, ldI3, wqinc4, fk_2_3, mPut_s, mPut_I0, mPut_R0, mPut_L0, mPut_I1, mPut_R1, mPut_L1, mGo_n, sfxX2_boundCost_2, cutX2_boundCost_2, sfxX2_boundCost_40, cutX2_boundCost_40, sfxX2_boundCost_54, cutX2_boundCost_54, sfxX2_boundCost_99, cutX2_boundCost_99, sfxX2_boundCost_105, cutX2_boundCost_105, wq_cut, mGo_c, mMask_t, mMask_f, mMask_n, kX2_boundCost_105, kX2_boundCost_99, kX2_boundCost_54, kX2_boundCost_40, kX2_boundCost_2, kX2_boundCost_0, sk_120, al_120, rf_120_7, sk_125, al_125, sn_125, sk_140, al_140, rf_140_2, rf_140_13, sk_150, al_150, sn_150, rf_140_1, sk_12, al_12, rf_140_3, sk_130, al_130, rf_12_0, sk_20, al_20, sn_20, ald_n, ro0_n, al_ro, SX2_boundCost_0, SX2_boundCost_1, SX2_boundCost_2, SX2_boundCost_3, SX2_boundCost_4, SX2_boundCost_5, shqRII_, shqRI_, spX0_cellAt, spX2_leastFarFrom, spX0_runsUnstopped, spX2_chanceAlone, spX2_runsAlone, spX9_price, mrg, mrl, mSet_ap, ncast, Option.some.injEq, fr_ne, g3]
        (try simp only [mrg, mrl] at *) <;> repeat' (first | (with_reducible assumption) | (with_reducible apply And.intro) | intro _)
        all_goals first | omega | exact hfin () (by omega) | skip
  · show mWp _ _ _ _ _ _ kX2_boundCost_0 [some (mR (some 140)), some (mI hh), none, none, none] [] I
    simp only [false_and, and_false, true_or, or_true, false_or, or_false, true_and, and_true, true_implies, false_implies, implies_true, not_true_eq_false, not_false_eq_true, and_self, List.length_cons, List.length_nil, mNoCut_, mCat_n, mCat_I, mCat_L, mCat_R, mIsL_n, mIsL_I, mIsL_R, mIsL_L, Nat.reduceAdd, Nat.reduceSub, Nat.reduceLeDiff, Nat.reduceLT, Nat.reduceEqDiff, Nat.zero_le, Int.reduceEq, Int.reduceLT, Int.reduceLE, Int.reduceNeg, Int.reduceAdd, if_true, if_false, reduceIte, reduceCtorEq, Bool.false_eq_true, ne_eq, qCmp_0, qCmp_1, qCmp_2, qCmp_3, qCmp_4, qCmp_5, ib_0, ib_1, ib_2, lb_0, lb_1, lb_2, dv_0, dv_1, wq_ic, wq_ld_i, wq_ld_a, wq_st_i, wq_iinc, wq_icmp, wq_goto, wq_get, mGet_0, mGet_1, mGet_2, mGet_3, wq_ald, wq_astI, wq_astL, wq_ret0, wq_ret1, wq_ret2, wq_ret3, wq_ret4, wq_max, wq_min, wq_abs, wq_lmax, mrg_1_, stI2, ldI2, ldR0, fk_2_2, fk_0_7, ldI1, fk_2_13, wq_callV3_0, wq_callV2_0, wqinc2, mrg_0_, stI3, stI4, ldI4, mrg_9_, fk_2_1, fk_6_0, mrg_m1_, ldI3, wqinc4, fk_2_3, mPut_s, mPut_I0, mPut_R0, mPut_L0, mPut_I1, mPut_R1, mPut_L1, mGo_n, sfxX2_boundCost_2, cutX2_boundCost_2, sfxX2_boundCost_40, cutX2_boundCost_40, sfxX2_boundCost_54, cutX2_boundCost_54, sfxX2_boundCost_99, cutX2_boundCost_99, sfxX2_boundCost_105, cutX2_boundCost_105, wq_cut, mGo_c, mMask_t, mMask_f, mMask_n, kX2_boundCost_105, kX2_boundCost_99, kX2_boundCost_54, kX2_boundCost_40, kX2_boundCost_2, kX2_boundCost_0, sk_120, al_120, rf_120_7, sk_125, al_125, sn_125, sk_140, al_140, rf_140_2, rf_140_13, sk_150, al_150, sn_150, rf_140_1, sk_12, al_12, rf_140_3, sk_130, al_130, rf_12_0, sk_20, al_20, sn_20, ald_n, ro0_n, al_ro, SX2_boundCost_0, SX2_boundCost_1, SX2_boundCost_2, SX2_boundCost_3, SX2_boundCost_4, SX2_boundCost_5, shqRII_, shqRI_, spX0_cellAt, spX2_leastFarFrom, spX0_runsUnstopped, spX2_chanceAlone, spX2_runsAlone, spX9_price, mrg, mrl, mSet_ap, ncast, Option.some.injEq]
    exact ⟨28, 0, I, (fr_self _ _ _).symm, rfl, by omega, rfl, fun k k0 k1 => by omega⟩
theorem ctrX2_boundCost {l : Launch} (hst : l.stackTraces = false) (hT : mTxM l) : mCtr l calX2_boundCost spX2_boundCost :=
  mMet (T := TX2_boundCost) (S := SX2_boundCost) hst hT cutX2_boundCost (by decide) okX2_boundCost ⟨_, _, rfl, rfl⟩ trivial (fun t bs h => by rcases cutsX2_boundCost h with ⟨-, rfl⟩ | ⟨-, rfl⟩ <;> rfl) (fun a => match a with
    | 0 => ctrX0_cellAt hst hT
    | 1 => ctrX2_leastFarFrom hst hT
    | 2 => ctrX0_runsUnstopped hst hT
    | 3 => ctrX2_chanceAlone hst hT
    | 4 => ctrX2_runsAlone hst hT
    | 5 => ctrX9_price hst hT
    | _ + 6 => mCtr_no) vcX2_boundCost

end SPC18
