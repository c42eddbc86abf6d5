section SPM6
theorem runsBut_bd {t : Int → Int} (H : WFt t) {b h but : Int} (hb : 0 ≤ b ∧ b < 6) (hh : 0 ≤ h ∧ h < 8) : 0 ≤ runsButT (amT t) (stT t) (pcT t) (cellT t b h) (tickT t b h) (t 2) (airT t b h) (stepsT t b h) but ∧ runsButT (amT t) (stT t) (pcT t) (cellT t b h) (tickT t b h) (t 2) (airT t b h) (stepsT t b h) but ≤ 6 := by
  have st8 := (steps_spec H hb hh).1
  have ha := H.air hb hh
  have sp := stopT_sp (stT t) (pcT t) (cellT t b h) (tickT t b h) (airT t b h) (stepsT t b h) but (by omega)
  unfold runsButT runsByT
  generalize hk : stopT (stT t) (pcT t) (cellT t b h) (tickT t b h) (airT t b h) (stepsT t b h) but = k at *
  have sb := soonT_bd (stT t) (pcT t) (cellT t b h k) (tickT t b h k) but
  generalize hf : soonT (stT t) (pcT t) (cellT t b h k) (tickT t b h k) but = f at *
  split
  · split <;> omega
  · rename_i z
    have cl1 := cell_in H hb hh (k := k) ⟨by omega, by omega⟩
    have tk1 := tickT_bd H hb hh (k := k) (by omega) (by omega)
    have fl1 := H.fld (f := f) ⟨by omega, by omega⟩
    have f1 := far_bd cl1 (b := 144) ⟨by omega, by omega⟩
    have p1 := prod_bd (x := amT t f) (a := 9) ⟨by omega, by omega⟩ f1
    have hr := H.1.2.2.1
    have d0 : 0 ≤ (tickT t b h k + amT t f * far (cellT t b h k) 144) / t 2 := Int.ediv_nonneg (by omega) (by omega)
    omega
theorem runsT_bd {t : Int → Int} (H : WFt t) {b h : Int} (hb : 0 ≤ b ∧ b < 6) (hh : 0 ≤ h ∧ h < 8) : 0 ≤ runsT t b h ∧ runsT t b h ≤ 6 := runsBut_bd H hb hh
theorem caughtT_bd {t : Int → Int} (H : WFt t) {b h : Int} (hb : 0 ≤ b ∧ b < 6) (hh : 0 ≤ h ∧ h < 8) : 0 ≤ caughtT t b h ∧ caughtT t b h ≤ 100 := by
  have cb := catcherT_bd (stT t) (pcT t) (cellT t b h) (tickT t b h) (airT t b h) (stepsT t b h)
  unfold caughtT catchT handsT
  generalize catcherT (stT t) (pcT t) (cellT t b h) (tickT t b h) (airT t b h) (stepsT t b h) = f at *
  split
  · omega
  · rename_i z
    have cl1 := cell_in H hb hh (k := airT t b h) ⟨by omega, by omega⟩
    have fl1 := H.fld (f := f) ⟨by omega, by omega⟩
    have f1 := far_bd (a := stT t f) ⟨by omega, by omega⟩ cl1
    have p1 := prod_bd (x := prT t f) (a := 50) ⟨by omega, by omega⟩ f1
    omega
theorem costT_bd {t : Int → Int} (H : WFt t) {b h : Int} (hb : 0 ≤ b ∧ b < 6) (hh : 0 ≤ h ∧ h < 8) : -9900 ≤ costT t b h ∧ costT t b h ≤ 600 := by
  have h1 := runsT_bd H hb hh
  have h2 := caughtT_bd H hb hh
  have h3 := H.1.2.2.2.1
  have p1 := prod_bd (x := 100 - caughtT t b h) (a := 100) ⟨by omega, by omega⟩ h1
  have p2 := prod_bd h3 h2
  unfold costT priceT
  omega
theorem forT_bd {t : Int → Int} (H : WFt t) {b h : Int} (hb : 0 ≤ b ∧ b < 6) (hh : 0 ≤ h ∧ h < 8) : 0 ≤ rawT t b h 3 ∧ rawT t b h 3 ≤ 99 := by
  have := H.raw hb hh
  omega
theorem allN_bd {t : Int → Int} (H : WFt t) {b : Int} (hb : 0 ≤ b ∧ b < 6) : ∀ n : Nat, n ≤ 8 → 0 ≤ allN t b n ∧ allN t b n ≤ 99 * n
  | 0, _ => by simp [allN]
  | n + 1, hn => by
    have h1 := allN_bd H hb n (by omega)
    have h2 := forT_bd H hb (h := n) ⟨by omega, by omega⟩
    simp only [allN]
    omega
theorem mul_abs_bd {x y a b : Int} (hx : 0 ≤ x ∧ x ≤ a) (hy : -b ≤ y ∧ y ≤ b) : -(a * b) ≤ x * y ∧ x * y ≤ a * b := by
  have h1 := Int.mul_le_mul_of_nonneg_left hy.2 hx.1
  have h2 := Int.mul_le_mul_of_nonneg_left hy.1 hx.1
  have h3 := Int.mul_le_mul_of_nonneg_right (c := b) hx.2 (by omega)
  rw [Int.mul_neg] at h2
  omega
theorem sumN_bd {t : Int → Int} (H : WFt t) {b : Int} (hb : 0 ≤ b ∧ b < 6) : ∀ n : Nat, n ≤ 8 → -(980100 * n) ≤ sumN t b n ∧ sumN t b n ≤ 980100 * n
  | 0, _ => by simp [sumN]
  | n + 1, hn => by
    have h1 := sumN_bd H hb n (by omega)
    have h2 := forT_bd H hb (h := n) ⟨by omega, by omega⟩
    have h3 := costT_bd H hb (h := n) ⟨by omega, by omega⟩
    have h4 := mul_abs_bd (b := 9900) h2 (y := costT t b n) ⟨by omega, by omega⟩
    simp only [sumN]
    omega
theorem mostN_bd {t : Int → Int} (H : WFt t) {b : Int} (hb : 0 ≤ b ∧ b < 6) : ∀ n : Nat, n ≤ 8 → -9900 ≤ mostN t b n ∧ mostN t b n ≤ 600
  | 0, _ => by simp [mostN]
  | n + 1, hn => by
    have h1 := mostN_bd H hb n (by omega)
    have h3 := costT_bd H hb (h := n) ⟨by omega, by omega⟩
    simp only [mostN]
    split <;> omega
def spX11_allFor : mSp := shRI (fun _ i b I Q => i = some 200 ∧ WFt (I 201) ∧ (0 ≤ b ∧ b < 6) ∧ Q (.inl (some (mL (allT (I 201) b)))) I)
def SX11_allFor : Nat → mSp := fun a => match a with
  | 0 => spX11_raw
  | _ => fun _ _ _ _ => False
theorem SX11_allFor_0 : SX11_allFor 0 = spX11_raw := Eq.trans rfl rfl
theorem cutsX11_allFor {t : Nat} {bs : List Bool} (h : cutX11_allFor t = some bs) : (t = 5 ∧ bs = [true, true, true, false, true]) := by
  unfold cutX11_allFor at h
  simp only [mLk] at h
  by_cases h0 : 5 = t
  · subst h0
    simp at h
    exact ⟨rfl, h.symm⟩
  rw [if_neg h0] at h
  cases h
set_option maxRecDepth 100000 in
set_option maxHeartbeats 4000000 in
theorem vcX11_allFor (fl : Nat → Bool) (avs : List mV) (I : mM) (Q : mO → mM → Prop) (hsp : spX11_allFor fl avs I Q) : mVC SX11_allFor fl Q kX11_allFor cutX11_allFor 5 avs I := by
  obtain ⟨i, b, rfl, h0⟩ := shRI_inv hsp
  obtain ⟨rfl, H, hb, h⟩ := h0
  have hn := H.2.1 b hb.1 hb.2
  refine ⟨rfl, (fun m t lv st I1 => I1 = I ∧ st = [] ∧ ∃ (v : Int) (j : Nat), lv = [some (mR (some 200)), some (mI b), some (mL v), none, some (mI j)] ∧ v = allN (I 201) b j ∧ j ≤ (I 201 (13 + b)).toNat ∧ m = 8 - j), ?_, ?_⟩
  · intro n t bs hbs lv st I1 hc
    rcases cutsX11_allFor hbs with ⟨rfl, rfl⟩
    rw [sfxX11_allFor_5]
    obtain ⟨rfl, rfl, v, j, rfl, ev, hj, hm⟩ := hc
    simp only [true_or, or_true, false_or, or_false, true_and, and_true, true_implies, false_implies, implies_true, not_true_eq_false, not_false_eq_true, and_self, List.length_cons, List.length_nil, mNoCut_, mCat_n, mCat_I, mCat_L, mCat_R, mIsL_n, mIsL_I, mIsL_R, mIsL_L, Nat.reduceAdd, Nat.reduceSub, Nat.reduceLeDiff, Nat.reduceLT, Nat.reduceEqDiff, Nat.zero_le, Int.reduceEq, Int.reduceLT, Int.reduceLE, Int.reduceNeg, Int.reduceAdd, if_true, if_false, reduceIte, reduceCtorEq, Bool.false_eq_true, ne_eq, qCmp_0, qCmp_1, qCmp_2, qCmp_3, qCmp_4, qCmp_5, ib_0, ib_1, ib_2, lb_0, lb_1, lb_2, dv_0, dv_1, wq_ic, wq_lc, wq_ld_i, wq_ld_l, wq_ld_a, wq_st_i, wq_st_l, wq_iinc, wq_ib, wq_lb, wq_i2l, wq_icmp, wq_goto, wq_get, mGet_0, mGet_1, mGet_2, mGet_3, wq_ald, wq_ret0, wq_ret1, wq_ret2, wq_ret3, wq_ret4, stL2, mrg_0_, stI4, ldI4, ldR0, fk_11_0, mrg_13_, ldI1, ldL2, mrg_3_, wq_callV4_0, wqinc4, mPut_s, mPut_I0, mPut_R0, mPut_L0, mPut_I1, mPut_R1, mPut_L1, mGo_n, sfxX11_allFor_5, cutX11_allFor_5, sfxX11_allFor_37, cutX11_allFor_37, wq_cut, mGo_c, mMask_t, mMask_f, mMask_n, kX11_allFor_37, kX11_allFor_5, kX11_allFor_0, sk_200, al_200, rf_200_0, sk_201, al_201, sn_201, ald_n, ro0_n, al_ro, SX11_allFor_0, shqRIII_, spX11_raw, mrg, mrl, mSet_ap, ncast, Option.some.injEq]
    refine ⟨⟨by omega, by omega⟩, ⟨⟨by omega, by omega⟩, by omega, by omega⟩, fun z => ?_, fun z => ?_⟩
    · have : j = (I1 201 (13 + b)).toNat := by omega
      subst this
      exact q_L ev.symm h
    · have fb := forT_bd H hb (h := j) ⟨by omega, by omega⟩
      exact ⟨hb, ⟨by omega, by omega⟩, ⟨by omega, by omega⟩, _, by omega, _, j + 1, rfl, by rw [ev]; rfl, by omega, rfl⟩
  · show mWp _ _ _ _ _ _ kX11_allFor_0 [some (mR (some 200)), some (mI b), none, none, none] [] I
    simp only [true_or, or_true, false_or, or_false, true_and, and_true, true_implies, false_implies, implies_true, not_true_eq_false, not_false_eq_true, and_self, List.length_cons, List.length_nil, mNoCut_, mCat_n, mCat_I, mCat_L, mCat_R, mIsL_n, mIsL_I, mIsL_R, mIsL_L, Nat.reduceAdd, Nat.reduceSub, Nat.reduceLeDiff, Nat.reduceLT, Nat.reduceEqDiff, Nat.zero_le, Int.reduceEq, Int.reduceLT, Int.reduceLE, Int.reduceNeg, Int.reduceAdd, if_true, if_false, reduceIte, reduceCtorEq, Bool.false_eq_true, ne_eq, qCmp_0, qCmp_1, qCmp_2, qCmp_3, qCmp_4, qCmp_5, ib_0, ib_1, ib_2, lb_0, lb_1, lb_2, dv_0, dv_1, wq_ic, wq_lc, wq_ld_i, wq_ld_l, wq_ld_a, wq_st_i, wq_st_l, wq_iinc, wq_ib, wq_lb, wq_i2l, wq_icmp, wq_goto, wq_get, mGet_0, mGet_1, mGet_2, mGet_3, wq_ald, wq_ret0, wq_ret1, wq_ret2, wq_ret3, wq_ret4, stL2, mrg_0_, stI4, ldI4, ldR0, fk_11_0, mrg_13_, ldI1, ldL2, mrg_3_, wq_callV4_0, wqinc4, mPut_s, mPut_I0, mPut_R0, mPut_L0, mPut_I1, mPut_R1, mPut_L1, mGo_n, sfxX11_allFor_5, cutX11_allFor_5, sfxX11_allFor_37, cutX11_allFor_37, wq_cut, mGo_c, mMask_t, mMask_f, mMask_n, kX11_allFor_37, kX11_allFor_5, kX11_allFor_0, sk_200, al_200, rf_200_0, sk_201, al_201, sn_201, ald_n, ro0_n, al_ro, SX11_allFor_0, shqRIII_, spX11_raw, mrg, mrl, mSet_ap, ncast, Option.some.injEq]
    exact ⟨8, 0, 0, rfl, rfl, by omega, rfl⟩
theorem ctrX11_allFor {l : Launch} (hst : l.stackTraces = false) (hT : mTxM l) : mCtr l calX11_allFor spX11_allFor :=
  mMet (T := TX11_allFor) (S := SX11_allFor) hst hT cutX11_allFor (by decide) okX11_allFor ⟨_, _, rfl, rfl⟩ trivial (fun t bs h => by rcases cutsX11_allFor h with ⟨-, rfl⟩ <;> rfl) (fun a => match a with
    | 0 => ctrX11_raw hst hT
    | _ + 1 => mCtr_no) vcX11_allFor

def spX11_lowOf : mSp := shRI (fun _ i b I Q => i = some 200 ∧ WFt (I 201) ∧ (0 ≤ b ∧ b < 6) ∧ Q (.inl (some (mL (10000 * allT (I 201) b)))) I)
def SX11_lowOf : Nat → mSp := fun a => match a with
  | 0 => spX11_allFor
  | _ => fun _ _ _ _ => False
theorem SX11_lowOf_0 : SX11_lowOf 0 = spX11_allFor := Eq.trans rfl rfl
set_option maxRecDepth 100000 in
set_option maxHeartbeats 4000000 in
theorem vcX11_lowOf (fl : Nat → Bool) (avs : List mV) (I : mM) (Q : mO → mM → Prop) (hsp : spX11_lowOf fl avs I Q) : mVC0 SX11_lowOf fl Q kX11_lowOf 2 avs I := by
  obtain ⟨i, b, rfl, h0⟩ := shRI_inv hsp
  refine ⟨rfl, ?_⟩
  show mWp _ _ _ _ _ _ kX11_lowOf_0 [some (mR i), some (mI b)] [] I
  obtain ⟨rfl, H, hb, h⟩ := h0
  have hn := H.2.1 b hb.1 hb.2
  have ab := allN_bd H hb (I 201 (13 + b)).toNat (by omega)
  simp only [true_or, or_true, false_or, or_false, true_and, and_true, true_implies, false_implies, implies_true, not_true_eq_false, not_false_eq_true, and_self, List.length_cons, List.length_nil, mNoCut_, mCat_n, mCat_I, mCat_L, mCat_R, mIsL_n, mIsL_I, mIsL_R, mIsL_L, Nat.reduceAdd, Nat.reduceSub, Nat.reduceLeDiff, Nat.reduceLT, Nat.reduceEqDiff, Nat.zero_le, Int.reduceEq, Int.reduceLT, Int.reduceLE, Int.reduceNeg, Int.reduceAdd, if_true, if_false, reduceIte, reduceCtorEq, Bool.false_eq_true, ne_eq, qCmp_0, qCmp_1, qCmp_2, qCmp_3, qCmp_4, qCmp_5, ib_0, ib_1, ib_2, lb_0, lb_1, lb_2, dv_0, dv_1, wq_lc, wq_ld_i, wq_ld_a, wq_lb, wq_ret0, wq_ret1, wq_ret2, wq_ret3, wq_ret4, ldR0, ldI1, wq_callV2_0, kX11_lowOf_0, sk_200, al_200, SX11_lowOf_0, shqRI_, spX11_allFor, mrg, mrl, mSet_ap, ncast, Option.some.injEq]
  exact ⟨H, hb, h⟩
theorem ctrX11_lowOf {l : Launch} (hst : l.stackTraces = false) (hT : mTxM l) : mCtr l calX11_lowOf spX11_lowOf :=
  mMet0 (T := TX11_lowOf) (S := SX11_lowOf) hst hT (by decide) okX11_lowOf ⟨_, _, rfl, rfl⟩ (fun a => match a with
    | 0 => ctrX11_allFor hst hT
    | _ + 1 => mCtr_no) vcX11_lowOf

def spX11_meanOf : mSp := shRI (fun _ i b I Q => i = some 200 ∧ WFt (I 201) ∧ (0 ≤ b ∧ b < 6) ∧ Q (.inl (some (mL (meanT (I 201) b)))) I)
def SX11_meanOf : Nat → mSp := fun a => match a with
  | 0 => spX11_costOf
  | 1 => spX11_raw
  | 2 => spX11_allFor
  | _ => fun _ _ _ _ => False
theorem SX11_meanOf_0 : SX11_meanOf 0 = spX11_costOf := Eq.trans rfl rfl
theorem SX11_meanOf_1 : SX11_meanOf 1 = spX11_raw := Eq.trans rfl rfl
theorem SX11_meanOf_2 : SX11_meanOf 2 = spX11_allFor := Eq.trans rfl rfl
theorem cutsX11_meanOf {t : Nat} {bs : List Bool} (h : cutX11_meanOf t = some bs) : (t = 8 ∧ bs = [true, true, true, false, true, false, true, false, false]) := by
  unfold cutX11_meanOf at h
  simp only [mLk] at h
  by_cases h0 : 8 = t
  · subst h0
    simp at h
    exact ⟨rfl, h.symm⟩
  rw [if_neg h0] at h
  cases h
set_option maxRecDepth 100000 in
set_option maxHeartbeats 4000000 in
theorem vcX11_meanOf (fl : Nat → Bool) (avs : List mV) (I : mM) (Q : mO → mM → Prop) (hsp : spX11_meanOf fl avs I Q) : mVC SX11_meanOf fl Q kX11_meanOf cutX11_meanOf 9 avs I := by
  obtain ⟨i, b, rfl, h0⟩ := shRI_inv hsp
  obtain ⟨rfl, H, hb, h⟩ := h0
  have hn := H.2.1 b hb.1 hb.2
  refine ⟨rfl, (fun m t lv st I1 => I1 = I ∧ st = [] ∧ ∃ (v w : Int) (j : Nat), lv = [some (mR (some 200)), some (mI b), some (mL v), none, some (mL w), none, some (mI j), none, none] ∧ v = sumN (I 201) b j ∧ w = mostN (I 201) b j ∧ j ≤ (I 201 (13 + b)).toNat ∧ m = 8 - j), ?_, ?_⟩
  · intro n t bs hbs lv st I1 hc
    rcases cutsX11_meanOf hbs with ⟨rfl, rfl⟩
    rw [sfxX11_meanOf_8]
    obtain ⟨rfl, rfl, v, w, j, rfl, ev, ew, hj, hm⟩ := hc
    simp only [true_or, or_true, false_or, or_false, true_and, and_true, true_implies, false_implies, implies_true, not_true_eq_false, not_false_eq_true, and_self, List.length_cons, List.length_nil, mNoCut_, mCat_n, mCat_I, mCat_L, mCat_R, mIsL_n, mIsL_I, mIsL_R, mIsL_L, Nat.reduceAdd, Nat.reduceSub, Nat.reduceLeDiff, Nat.reduceLT, Nat.reduceEqDiff, Nat.zero_le, Int.reduceEq, Int.reduceLT, Int.reduceLE, Int.reduceNeg, Int.reduceAdd, if_true, if_false, reduceIte, reduceCtorEq, Bool.false_eq_true, ne_eq, qCmp_0, qCmp_1, qCmp_2, qCmp_3, qCmp_4, qCmp_5, ib_0, ib_1, ib_2, lb_0, lb_1, lb_2, dv_0, dv_1, wq_ic, wq_lc, wq_ld_i, wq_ld_l, wq_ld_a, wq_st_i, wq_st_l, wq_iinc, wq_ib, wq_lb, wq_i2l, wq_icmp, wq_if, wq_lcmp, wq_goto, wq_get, mGet_0, mGet_1, mGet_2, mGet_3, wq_ald, wq_ret0, wq_ret1, wq_ret2, wq_ret3, wq_ret4, stL2, stL4, mrg_0_, stI6, ldI6, ldR0, fk_11_0, mrg_13_, ldI1, wq_callV3_0, stL7, ldL2, mrg_3_, wq_callV4_0, ldL7, ldL4, wqinc6, mrg_6_, mrg_1_, mrg_7_, stL6, ldL6, wq_callV2_0, mPut_s, mPut_I0, mPut_R0, mPut_L0, mPut_I1, mPut_R1, mPut_L1, mGo_n, sfxX11_meanOf_8, cutX11_meanOf_8, sfxX11_meanOf_60, cutX11_meanOf_60, sfxX11_meanOf_65, cutX11_meanOf_65, sfxX11_meanOf_67, cutX11_meanOf_67, sfxX11_meanOf_75, cutX11_meanOf_75, sfxX11_meanOf_97, cutX11_meanOf_97, sfxX11_meanOf_98, cutX11_meanOf_98, wq_cut, mGo_c, mMask_t, mMask_f, mMask_n, kX11_meanOf_98, kX11_meanOf_97, kX11_meanOf_75, kX11_meanOf_67, kX11_meanOf_65, kX11_meanOf_60, kX11_meanOf_8, kX11_meanOf_0, sk_200, al_200, rf_200_0, sk_201, al_201, sn_201, ald_n, ro0_n, al_ro, SX11_meanOf_0, SX11_meanOf_1, SX11_meanOf_2, shqRII_, shqRIII_, shqRI_, spX11_costOf, spX11_raw, spX11_allFor, mrg, mrl, mSet_ap, ncast, Option.some.injEq]
    have mb := mostN_bd H hb j (by omega)
    have sN : sumN (I1 201) b (j + 1) = sumN (I1 201) b j + rawT (I1 201) b j 3 * costT (I1 201) b j := rfl
    have mN : mostN (I1 201) b (j + 1) = if j = 0 ∨ costT (I1 201) b j > mostN (I1 201) b j then costT (I1 201) b j else mostN (I1 201) b j := rfl
    rw [← ew] at mb mN
    rw [← ev] at sN
    have go : ∀ w', ¬ I1 201 (13 + b) ≤ j → w' = mostN (I1 201) b (j + 1) → ∃ n', n' < n ∧ ∃ (v_1 w_1 : Int) (j_1 : Nat), [some (mR (some 200)), some (mI b), some (mL (v + rawT (I1 201) b j 3 * costT (I1 201) b j)), none, some (mL w'), none, some (mI ((j : Int) + 1)), none, none] = [some (mR (some 200)), some (mI b), some (mL v_1), none, some (mL w_1), none, some (mI j_1), none, none] ∧ v_1 = sumN (I1 201) b j_1 ∧ w_1 = mostN (I1 201) b j_1 ∧ j_1 ≤ (I1 201 (13 + b)).toNat ∧ n' = 8 - j_1 := fun w' hz e => ⟨8 - (j + 1), by omega, _, w', j + 1, rfl, sN.symm, e, by omega, rfl⟩
    refine ⟨⟨by omega, by omega⟩, ⟨⟨by omega, by omega⟩, by omega, by omega⟩, fun z => ?_, fun z => ?_⟩
    · have : j = (I1 201 (13 + b)).toNat := by omega
      subst this
      have h6 := H.1.2.2.2.2.2.2
      refine ⟨⟨by omega, by omega⟩, fun y => ⟨H, hb, q_L ?_ h⟩, fun y => ⟨⟨by omega, by omega⟩, H, hb, q_L ?_ h⟩⟩
      · unfold meanT shareT
        rw [if_neg y, ev, ew]
      · unfold meanT shareT
        rw [if_pos (by omega), ev, ew]
    · have fb := forT_bd H hb (h := j) ⟨by omega, by omega⟩
      have cb := costT_bd H hb (h := j) ⟨by omega, by omega⟩
      refine ⟨H, hb, ⟨by omega, by omega⟩, ⟨by omega, by omega⟩, hb, ⟨by omega, by omega⟩, ⟨by omega, by omega⟩, ⟨by omega, by omega⟩, fun y => go _ z ?_, fun y => ⟨⟨⟨by omega, by omega⟩, by omega, by omega⟩, fun x => go _ z ?_, fun x => go _ z ?_⟩⟩
      · rw [mN, if_pos (Or.inl (by omega))]
      · rw [mN, if_neg (by omega)]
      · rw [mN, if_pos (Or.inr (by omega))]
  · show mWp _ _ _ _ _ _ kX11_meanOf_0 [some (mR (some 200)), some (mI b), none, none, none, none, none, none, none] [] I
    simp only [true_or, or_true, false_or, or_false, true_and, and_true, true_implies, false_implies, implies_true, not_true_eq_false, not_false_eq_true, and_self, List.length_cons, List.length_nil, mNoCut_, mCat_n, mCat_I, mCat_L, mCat_R, mIsL_n, mIsL_I, mIsL_R, mIsL_L, Nat.reduceAdd, Nat.reduceSub, Nat.reduceLeDiff, Nat.reduceLT, Nat.reduceEqDiff, Nat.zero_le, Int.reduceEq, Int.reduceLT, Int.reduceLE, Int.reduceNeg, Int.reduceAdd, if_true, if_false, reduceIte, reduceCtorEq, Bool.false_eq_true, ne_eq, qCmp_0, qCmp_1, qCmp_2, qCmp_3, qCmp_4, qCmp_5, ib_0, ib_1, ib_2, lb_0, lb_1, lb_2, dv_0, dv_1, wq_ic, wq_lc, wq_ld_i, wq_ld_l, wq_ld_a, wq_st_i, wq_st_l, wq_iinc, wq_ib, wq_lb, wq_i2l, wq_icmp, wq_if, wq_lcmp, wq_goto, wq_get, mGet_0, mGet_1, mGet_2, mGet_3, wq_ald, wq_ret0, wq_ret1, wq_ret2, wq_ret3, wq_ret4, stL2, stL4, mrg_0_, stI6, ldI6, ldR0, fk_11_0, mrg_13_, ldI1, wq_callV3_0, stL7, ldL2, mrg_3_, wq_callV4_0, ldL7, ldL4, wqinc6, mrg_6_, mrg_1_, mrg_7_, stL6, ldL6, wq_callV2_0, mPut_s, mPut_I0, mPut_R0, mPut_L0, mPut_I1, mPut_R1, mPut_L1, mGo_n, sfxX11_meanOf_8, cutX11_meanOf_8, sfxX11_meanOf_60, cutX11_meanOf_60, sfxX11_meanOf_65, cutX11_meanOf_65, sfxX11_meanOf_67, cutX11_meanOf_67, sfxX11_meanOf_75, cutX11_meanOf_75, sfxX11_meanOf_97, cutX11_meanOf_97, sfxX11_meanOf_98, cutX11_meanOf_98, wq_cut, mGo_c, mMask_t, mMask_f, mMask_n, kX11_meanOf_98, kX11_meanOf_97, kX11_meanOf_75, kX11_meanOf_67, kX11_meanOf_65, kX11_meanOf_60, kX11_meanOf_8, kX11_meanOf_0, sk_200, al_200, rf_200_0, sk_201, al_201, sn_201, ald_n, ro0_n, al_ro, SX11_meanOf_0, SX11_meanOf_1, SX11_meanOf_2, shqRII_, shqRIII_, shqRI_, spX11_costOf, spX11_raw, spX11_allFor, mrg, mrl, mSet_ap, ncast, Option.some.injEq]
    exact ⟨8, 0, 0, 0, rfl, rfl, rfl, by omega, rfl⟩
theorem ctrX11_meanOf {l : Launch} (hst : l.stackTraces = false) (hT : mTxM l) : mCtr l calX11_meanOf spX11_meanOf :=
  mMet (T := TX11_meanOf) (S := SX11_meanOf) hst hT cutX11_meanOf (by decide) okX11_meanOf ⟨_, _, rfl, rfl⟩ trivial (fun t bs h => by rcases cutsX11_meanOf h with ⟨-, rfl⟩ <;> rfl) (fun a => match a with
    | 0 => ctrX11_costOf hst hT
    | 1 => ctrX11_raw hst hT
    | 2 => ctrX11_allFor hst hT
    | _ + 3 => mCtr_no) vcX11_meanOf

end SPM6
