section SPC8
theorem half_mod {x y : Nat} (h : y < x) (h0 : 0 < y) : 2 * (x % y) ≤ x := by
  have e : x % y = (x - y) % y := Nat.mod_eq_sub_mod (by omega)
  have h1 : (x - y) % y ≤ x - y := Nat.mod_le _ _
  have h2 : x % y < y := Nat.mod_lt _ h0
  omega
def gcdI (x y k : Nat) : Prop := y * 2 ^ (k / 2) ≤ 4000000000000000000 ∧ (k % 2 = 1 → x * 2 ^ (k / 2) ≤ 4000000000000000000 ∧ y < x)
theorem gcdI_s {x y k : Nat} (h : gcdI x y k) (h0 : 0 < y) : gcdI y (x % y) (k + 1) := by
  have hm : x % y < y := Nat.mod_lt _ h0
  rcases Nat.mod_two_eq_zero_or_one k with e | e
  · have e1 : (k + 1) / 2 = k / 2 := by omega
    refine ⟨?_, fun _ => ⟨?_, hm⟩⟩
    · rw [e1]
      exact Nat.le_trans (Nat.mul_le_mul_right _ (Nat.le_of_lt hm)) h.1
    · rw [e1]
      exact h.1
  · have e1 : (k + 1) / 2 = k / 2 + 1 := by omega
    have h2 := h.2 e
    refine ⟨?_, fun z => by omega⟩
    rw [e1, Nat.pow_succ, Nat.mul_comm (2 ^ (k / 2)) 2, ← Nat.mul_assoc]
    refine Nat.le_trans (Nat.mul_le_mul_right _ ?_) h2.1
    have := half_mod h2.2 h0
    omega
theorem gcdI_e {x y : Nat} (h : gcdI x y 200) : y = 0 := by
  rcases Nat.eq_zero_or_pos y with q | q
  · exact q
  · have h1 := h.1
    have h2 : 1 * 2 ^ (200 / 2) ≤ y * 2 ^ (200 / 2) := Nat.mul_le_mul_right _ q
    have h3 : ¬ (1 * 2 ^ (200 / 2) ≤ 4000000000000000000) := by decide +kernel
    exact absurd (Nat.le_trans h2 h1) h3
def spX10_commonDivisor : mSp := shLL (fun _ x y I Q => (0 ≤ x ∧ x ≤ 4000000000000000000) ∧ (0 ≤ y ∧ y ≤ 4000000000000000000) ∧ Q (.inl (some (mL (Nat.gcd x.natAbs y.natAbs)))) I)
def SX10_commonDivisor : Nat → mSp := fun a => match a with
  | _ => fun _ _ _ _ => False
theorem cutsX10_commonDivisor {t : Nat} {bs : List Bool} (h : cutX10_commonDivisor t = some bs) : (t = 9 ∧ bs = [false, false, false, false, true, false, true, false, true, false, false]) := by
  unfold cutX10_commonDivisor at h
  simp only [mLk] at h
  by_cases h0 : 9 = t
  · subst h0
    simp at h
    exact ⟨rfl, h.symm⟩
  rw [if_neg h0] at h
  cases h
set_option maxRecDepth 100000 in
set_option maxHeartbeats 1000000 in
theorem vcX10_commonDivisor (fl : Nat → Bool) (avs : List mV) (I : mM) (Q : mO → mM → Prop) (hsp : spX10_commonDivisor fl avs I Q) : mVC SX10_commonDivisor fl Q kX10_commonDivisor cutX10_commonDivisor 11 avs I := by
  obtain ⟨x, y, rfl, h0⟩ := shLL_inv hsp
  obtain ⟨hx, hy, h⟩ := h0
  refine ⟨rfl, (fun m pc lv st I1 => st = [] ∧ I1 = I ∧ ∃ (u v k : Nat), lv = [none, none, none, none, some (mL u), none, some (mL v), none, some (mI k), none, none] ∧ Nat.gcd u v = Nat.gcd x.natAbs y.natAbs ∧ u ≤ 4000000000000000000 ∧ v ≤ 4000000000000000000 ∧ k ≤ 200 ∧ gcdI u v k ∧ m = 200 - k), ?_, ?_⟩
  · intro n t bs hbs lv st I1 hc
    rcases cutsX10_commonDivisor hbs with ⟨rfl, rfl⟩
    rw [sfxX10_commonDivisor_9]
    obtain ⟨rfl, rfl, u, v, k, rfl, hg, hu, hv, hk, hi, hm⟩ := hc
    have ht : (u : Int).tmod v = ((u % v : Nat) : Int) := rfl
    have hlt : v ≠ 0 → u % v < v := fun z => Nat.mod_lt _ (by omega)
    have hz : k = 200 → v = 0 := fun z => by
      subst z
      exact gcdI_e hi
    simp only [false_and, and_false, true_or, or_true, false_or, or_false, true_and, and_true, true_implies, false_implies, implies_true, not_true_eq_false, not_false_eq_true, and_self, List.length_cons, List.length_nil, mNoCut_, mCat_n, mCat_I, mCat_L, mCat_R, mIsL_n, mIsL_I, mIsL_R, mIsL_L, Nat.reduceAdd, Nat.reduceSub, Nat.reduceLeDiff, Nat.reduceLT, Nat.reduceEqDiff, Nat.zero_le, Int.reduceEq, Int.reduceLT, Int.reduceLE, Int.reduceNeg, Int.reduceAdd, if_true, if_false, reduceIte, reduceCtorEq, Bool.false_eq_true, ne_eq, qCmp_0, qCmp_1, qCmp_2, qCmp_3, qCmp_4, qCmp_5, ib_0, ib_1, ib_2, lb_0, lb_1, lb_2, dv_0, dv_1, wq_ic, wq_lc, wq_ld_i, wq_ld_l, wq_st_i, wq_st_l, wq_iinc, wq_ldv, wq_icmp, wq_lcmp, wq_goto, wq_ret0, wq_ret1, wq_ret2, wq_ret3, wq_ret4, ldL0, stL4, ldL2, stL6, mrg_0_, stI8, ldI8, mrg_200_, ldL6, ldL4, stL9, ldL9, wqinc8, mPut_s, mPut_I0, mPut_R0, mPut_L0, mPut_I1, mPut_R1, mPut_L1, mGo_n, sfxX10_commonDivisor_9, cutX10_commonDivisor_9, sfxX10_commonDivisor_45, cutX10_commonDivisor_45, wq_cut, mGo_c, mMask_t, mMask_f, mMask_n, kX10_commonDivisor_45, kX10_commonDivisor_9, kX10_commonDivisor_0, mrg, mrl, mSet_ap, ncast, Option.some.injEq, ht]
    (try simp only [mrg, mrl] at *) <;> repeat' (first | (with_reducible assumption) | (with_reducible apply And.intro) | intro _)
    all_goals first | omega | (have e : v = 0 := by omega); subst e; rw [Nat.gcd_zero_right] at hg; rw [← hg] at h; exact h | exact ⟨200 - (k + 1), by omega, v, u % v, k + 1, rfl, by rw [← hg, Nat.gcd_comm v, Nat.gcd_comm u, ← Nat.gcd_rec], by omega, by have := hlt (by omega); omega, by omega, gcdI_s hi (by omega), rfl⟩ | skip
  · show mWp _ _ _ _ _ _ kX10_commonDivisor_0 [some (mL x), none, some (mL y), none, none, none, none, none, none, none, none] [] I
    have e1 : ((x.natAbs : Nat) : Int) = x := by omega
    have e2 : ((y.natAbs : Nat) : Int) = y := by omega
    simp only [false_and, and_false, true_or, or_true, false_or, or_false, true_and, and_true, true_implies, false_implies, implies_true, not_true_eq_false, not_false_eq_true, and_self, List.length_cons, List.length_nil, mNoCut_, mCat_n, mCat_I, mCat_L, mCat_R, mIsL_n, mIsL_I, mIsL_R, mIsL_L, Nat.reduceAdd, Nat.reduceSub, Nat.reduceLeDiff, Nat.reduceLT, Nat.reduceEqDiff, Nat.zero_le, Int.reduceEq, Int.reduceLT, Int.reduceLE, Int.reduceNeg, Int.reduceAdd, if_true, if_false, reduceIte, reduceCtorEq, Bool.false_eq_true, ne_eq, qCmp_0, qCmp_1, qCmp_2, qCmp_3, qCmp_4, qCmp_5, ib_0, ib_1, ib_2, lb_0, lb_1, lb_2, dv_0, dv_1, wq_ic, wq_lc, wq_ld_i, wq_ld_l, wq_st_i, wq_st_l, wq_iinc, wq_ldv, wq_icmp, wq_lcmp, wq_goto, wq_ret0, wq_ret1, wq_ret2, wq_ret3, wq_ret4, ldL0, stL4, ldL2, stL6, mrg_0_, stI8, ldI8, mrg_200_, ldL6, ldL4, stL9, ldL9, wqinc8, mPut_s, mPut_I0, mPut_R0, mPut_L0, mPut_I1, mPut_R1, mPut_L1, mGo_n, sfxX10_commonDivisor_9, cutX10_commonDivisor_9, sfxX10_commonDivisor_45, cutX10_commonDivisor_45, wq_cut, mGo_c, mMask_t, mMask_f, mMask_n, kX10_commonDivisor_45, kX10_commonDivisor_9, kX10_commonDivisor_0, mrg, mrl, mSet_ap, ncast, Option.some.injEq]
    exact ⟨200, x.natAbs, y.natAbs, 0, by rw [e1, e2]; rfl, rfl, by omega, by omega, by omega, ⟨by simp; omega, fun z => by omega⟩, rfl⟩
theorem ctrX10_commonDivisor {l : Launch} (hst : l.stackTraces = false) (hT : mTxM l) : mCtr l calX10_commonDivisor spX10_commonDivisor :=
  mMet (T := TX10_commonDivisor) (S := SX10_commonDivisor) hst hT cutX10_commonDivisor (by decide) okX10_commonDivisor ⟨_, _, rfl, rfl⟩ trivial (fun t bs h => by rcases cutsX10_commonDivisor h with ⟨-, rfl⟩ <;> rfl) (fun a => mCtr_no) vcX10_commonDivisor

def spX10_tell : mSp := shRLL (fun _ i a b I Q => i = some 0 ∧ (-4000000000000000000 ≤ a ∧ a ≤ 4000000000000000000) ∧ (0 ≤ b ∧ b ≤ 4000000000000000000) ∧ (b = 0 → Q (.inl (some (mI 0))) (mSet (mSet I 0 13 0) 0 14 0)) ∧ (¬ b = 0 → Q (.inl (some (mI 1))) (mSet (mSet I 0 13 (upT a b)) 0 14 (loT a b))))
def SX10_tell : Nat → mSp := fun a => match a with
  | 0 => spX10_commonDivisor
  | _ => fun _ _ _ _ => False
theorem SX10_tell_0 : SX10_tell 0 = spX10_commonDivisor := Eq.trans rfl rfl
set_option maxRecDepth 100000 in
set_option maxHeartbeats 1000000 in
theorem vcX10_tell (fl : Nat → Bool) (avs : List mV) (I : mM) (Q : mO → mM → Prop) (hsp : spX10_tell fl avs I Q) : mVC0 SX10_tell fl Q kX10_tell 7 avs I := by
  obtain ⟨i, a, b, rfl, h0⟩ := shRLL_inv hsp
  refine ⟨rfl, ?_⟩
  show mWp _ _ _ _ _ _ kX10_tell_0 [some (mR i), some (mL a), none, some (mL b), none, none, none] [] I
  obtain ⟨rfl, ha, hb, h1, h2⟩ := h0
  by_cases z : b = 0
  · have h1 := h1 z
    simp only [false_and, and_false, true_or, or_true, false_or, or_false, true_and, and_true, true_implies, false_implies, implies_true, not_true_eq_false, not_false_eq_true, and_self, List.length_cons, List.length_nil, mNoCut_, mCat_n, mCat_I, mCat_L, mCat_R, mIsL_n, mIsL_I, mIsL_R, mIsL_L, Nat.reduceAdd, Nat.reduceSub, Nat.reduceLeDiff, Nat.reduceLT, Nat.reduceEqDiff, Nat.zero_le, Int.reduceEq, Int.reduceLT, Int.reduceLE, Int.reduceNeg, Int.reduceAdd, if_true, if_false, reduceIte, reduceCtorEq, Bool.false_eq_true, ne_eq, qCmp_0, qCmp_1, qCmp_2, qCmp_3, qCmp_4, qCmp_5, ib_0, ib_1, ib_2, lb_0, lb_1, lb_2, dv_0, dv_1, wq_ic, wq_lc, wq_ld_l, wq_ld_a, wq_st_l, wq_lneg, wq_ldv, wq_lcmp, wq_goto, wq_putI, wq_putL, wq_ret0, wq_ret1, wq_ret2, wq_ret3, wq_ret4, ldL3, ldR0, fk_10_13, fk_10_14, mrg_0_, ldL1, wq_callS2_1, stL5, ldL5, mrg_1_, mPut_s, mPut_I0, mPut_R0, mPut_L0, mPut_I1, mPut_R1, mPut_L1, mGo_n, sfxX10_tell_18, cutX10_tell_18, sfxX10_tell_29, cutX10_tell_29, sfxX10_tell_30, cutX10_tell_30, sfxX10_tell_46, cutX10_tell_46, kX10_tell_46, kX10_tell_30, kX10_tell_29, kX10_tell_18, kX10_tell_0, sk_0, al_0, SX10_tell_0, shqLL_, spX10_commonDivisor, mrg, mrl, mSet_ap, ncast, Option.some.injEq]
    (try simp only [mrg, mrl] at *) <;> repeat' (first | (with_reducible assumption) | (with_reducible apply And.intro) | intro _)
    all_goals first | omega | exact h1 | skip
  · have h2 := h2 z
    have gp : 0 < Nat.gcd a.natAbs b.natAbs := Nat.gcd_pos_of_pos_right _ (by omega)
    have gb : Nat.gcd a.natAbs b.natAbs ≤ b.natAbs := Nat.gcd_le_right _ (by omega)
    have ga : (-a).natAbs = a.natAbs := by omega
    unfold upT loT at h2
    generalize hg : Nat.gcd a.natAbs b.natAbs = g at *
    simp only [false_and, and_false, true_or, or_true, false_or, or_false, true_and, and_true, true_implies, false_implies, implies_true, not_true_eq_false, not_false_eq_true, and_self, List.length_cons, List.length_nil, mNoCut_, mCat_n, mCat_I, mCat_L, mCat_R, mIsL_n, mIsL_I, mIsL_R, mIsL_L, Nat.reduceAdd, Nat.reduceSub, Nat.reduceLeDiff, Nat.reduceLT, Nat.reduceEqDiff, Nat.zero_le, Int.reduceEq, Int.reduceLT, Int.reduceLE, Int.reduceNeg, Int.reduceAdd, if_true, if_false, reduceIte, reduceCtorEq, Bool.false_eq_true, ne_eq, qCmp_0, qCmp_1, qCmp_2, qCmp_3, qCmp_4, qCmp_5, ib_0, ib_1, ib_2, lb_0, lb_1, lb_2, dv_0, dv_1, wq_ic, wq_lc, wq_ld_l, wq_ld_a, wq_st_l, wq_lneg, wq_ldv, wq_lcmp, wq_goto, wq_putI, wq_putL, wq_ret0, wq_ret1, wq_ret2, wq_ret3, wq_ret4, ldL3, ldR0, fk_10_13, fk_10_14, mrg_0_, ldL1, wq_callS2_1, stL5, ldL5, mrg_1_, mPut_s, mPut_I0, mPut_R0, mPut_L0, mPut_I1, mPut_R1, mPut_L1, mGo_n, sfxX10_tell_18, cutX10_tell_18, sfxX10_tell_29, cutX10_tell_29, sfxX10_tell_30, cutX10_tell_30, sfxX10_tell_46, cutX10_tell_46, kX10_tell_46, kX10_tell_30, kX10_tell_29, kX10_tell_18, kX10_tell_0, sk_0, al_0, SX10_tell_0, shqLL_, spX10_commonDivisor, mrg, mrl, mSet_ap, ncast, Option.some.injEq, ga, hg]
    (try simp only [mrg, mrl] at *) <;> repeat' (first | (with_reducible assumption) | (with_reducible apply And.intro) | intro _)
    all_goals first | omega | exact h2 | skip
theorem ctrX10_tell {l : Launch} (hst : l.stackTraces = false) (hT : mTxM l) : mCtr l calX10_tell spX10_tell :=
  mMet0 (T := TX10_tell) (S := SX10_tell) hst hT (by decide) okX10_tell ⟨_, _, rfl, rfl⟩ (fun a => match a with
    | 0 => ctrX10_commonDivisor hst hT
    | _ + 1 => mCtr_no) vcX10_tell

def spX10_mean : mSp := shRI (fun _ i b I Q => i = some 0 ∧ clsI I ∧ mrg b ∧ (¬ ballP b → Q (.inr (mEx 0)) I) ∧ (ballP b → allT (I 201) b = 0 → ∀ I', cPost I I' 0 0 → Q (.inl (some (mI 0))) I') ∧ (ballP b → ¬ allT (I 201) b = 0 → ∀ I', cPost I I' (upT (meanT (I 201) b) (10000 * allT (I 201) b)) (loT (meanT (I 201) b) (10000 * allT (I 201) b)) → Q (.inl (some (mI 1))) I'))
def SX10_mean : Nat → mSp := fun a => match a with
  | 0 => spX10_needBall
  | 1 => spX10_lay
  | 2 => spX9_meanTop
  | 3 => spX0_meanBase
  | 4 => spX10_tell
  | _ => fun _ _ _ _ => False
theorem SX10_mean_0 : SX10_mean 0 = spX10_needBall := Eq.trans rfl rfl
theorem SX10_mean_1 : SX10_mean 1 = spX10_lay := Eq.trans rfl rfl
theorem SX10_mean_2 : SX10_mean 2 = spX9_meanTop := Eq.trans rfl rfl
theorem SX10_mean_3 : SX10_mean 3 = spX0_meanBase := Eq.trans rfl rfl
theorem SX10_mean_4 : SX10_mean 4 = spX10_tell := Eq.trans rfl rfl
set_option maxRecDepth 100000 in
set_option maxHeartbeats 1000000 in
theorem vcX10_mean (fl : Nat → Bool) (avs : List mV) (I : mM) (Q : mO → mM → Prop) (hsp : spX10_mean fl avs I Q) : mVC0 SX10_mean fl Q kX10_mean 2 avs I := by
  obtain ⟨i, b, rfl, h0⟩ := shRI_inv hsp
  refine ⟨rfl, ?_⟩
  show mWp _ _ _ _ _ _ kX10_mean_0 [some (mR i), some (mI b)] [] I
  obtain ⟨rfl, H, hb, h1, h2, h3⟩ := h0
  simp only [false_and, and_false, true_or, or_true, false_or, or_false, true_and, and_true, true_implies, false_implies, implies_true, not_true_eq_false, not_false_eq_true, and_self, List.length_cons, List.length_nil, mNoCut_, mCat_n, mCat_I, mCat_L, mCat_R, mIsL_n, mIsL_I, mIsL_R, mIsL_L, Nat.reduceAdd, Nat.reduceSub, Nat.reduceLeDiff, Nat.reduceLT, Nat.reduceEqDiff, Nat.zero_le, Int.reduceEq, Int.reduceLT, Int.reduceLE, Int.reduceNeg, Int.reduceAdd, if_true, if_false, reduceIte, reduceCtorEq, Bool.false_eq_true, ne_eq, qCmp_0, qCmp_1, qCmp_2, qCmp_3, qCmp_4, qCmp_5, ib_0, ib_1, ib_2, lb_0, lb_1, lb_2, dv_0, dv_1, wq_ld_i, wq_ld_a, wq_get, mGet_0, mGet_1, mGet_2, mGet_3, wq_ret0, wq_ret1, wq_ret2, wq_ret3, wq_ret4, ldI1, wq_callS1_1, ldR0, wq_callV2_0, fk_10_5, fk_10_0, fk_7_1, fk_6_0, fk_10_4, wq_callV1_0, wq_callV3_0, kX10_mean_0, sk_0, al_0, rf_0_5, sk_130, al_130, rf_0_0, sk_10, al_10, rf_0_4, sk_120, al_120, sk_12, al_12, rf_12_0, sk_20, al_20, sn_20, rf_10_1, SX10_mean_0, SX10_mean_1, SX10_mean_2, SX10_mean_3, SX10_mean_4, shqI_, shqRI_, shqRR_, shqR_, shqRLL_, spX10_needBall, spX10_lay, spX9_meanTop, spX0_meanBase, spX10_tell, mrg, mrl, mSet_ap, ncast, Option.some.injEq, Option.getD_some, fr_ne]
  refine ⟨hb, fun z => ⟨H, z, fun J hJ => ⟨Or.inr (Or.inl rfl), H.b20, I 201, b, H.ctx z hJ, fun J2 => ?_⟩⟩, h1⟩
  have e1 : fr 120 127 J I 120 1 = allT (I 201) b := hJ.2.1
  have e20 := H.s20
  have mb := meanT_bd H.1 z
  have ab := allT_bd H.1 z
  have cp := ((cPost.rfl I).fr (J := J) (lo := 120) (hi := 127) (by decide) (by decide)).fr (J := J2) (lo := 130) (hi := 130) (by decide) (by decide)
  have e1' : J 120 1 = allT (I 201) b := hJ.2.1
  simp only [e1, e1', e20]
  (try simp only [mrg, mrl] at *) <;> repeat' (first | (with_reducible assumption) | (with_reducible apply And.intro) | intro _)
  all_goals first | omega | exact h2 z (by omega) _ (cp.frac _ _) | exact h3 z (by omega) _ (cp.frac _ _) | skip
theorem ctrX10_mean {l : Launch} (hst : l.stackTraces = false) (hT : mTxM l) : mCtr l calX10_mean spX10_mean :=
  mMet0 (T := TX10_mean) (S := SX10_mean) hst hT (by decide) okX10_mean ⟨_, _, rfl, rfl⟩ (fun a => match a with
    | 0 => ctrX10_needBall hst hT
    | 1 => ctrX10_lay hst hT
    | 2 => ctrX9_meanTop hst hT
    | 3 => ctrX0_meanBase hst hT
    | 4 => ctrX10_tell hst hT
    | _ + 5 => mCtr_no) vcX10_mean

def spX10_catcher : mSp := shRII (fun _ i b h I Q => i = some 0 ∧ clsI I ∧ mrg b ∧ mrg h ∧ (¬ hitP (I 201) b h → Q (.inr (mEx 0)) I) ∧ (hitP (I 201) b h → ∀ I', cPost I I' (I 0 13) (I 0 14) → Q (.inl (some (mI (catcherT (stT (I 201)) (pcT (I 201)) (cellT (I 201) b h) (tickT (I 201) b h) (airT (I 201) b h) (stepsT (I 201) b h))))) I'))
def SX10_catcher : Nat → mSp := fun a => match a with
  | 0 => spX10_weighNow
  | _ => fun _ _ _ _ => False
theorem SX10_catcher_0 : SX10_catcher 0 = spX10_weighNow := Eq.trans rfl rfl
set_option maxRecDepth 100000 in
set_option maxHeartbeats 1000000 in
theorem vcX10_catcher (fl : Nat → Bool) (avs : List mV) (I : mM) (Q : mO → mM → Prop) (hsp : spX10_catcher fl avs I Q) : mVC0 SX10_catcher fl Q kX10_catcher 3 avs I := by
  obtain ⟨i, b, hh, rfl, h0⟩ := shRII_inv hsp
  refine ⟨rfl, ?_⟩
  show mWp _ _ _ _ _ _ kX10_catcher_0 [some (mR i), some (mI b), some (mI hh)] [] I
  obtain ⟨rfl, H, hb, hh1, h1, h2⟩ := h0
  simp only [false_and, and_false, true_or, or_true, false_or, or_false, true_and, and_true, true_implies, false_implies, implies_true, not_true_eq_false, not_false_eq_true, and_self, List.length_cons, List.length_nil, mNoCut_, mCat_n, mCat_I, mCat_L, mCat_R, mIsL_n, mIsL_I, mIsL_R, mIsL_L, Nat.reduceAdd, Nat.reduceSub, Nat.reduceLeDiff, Nat.reduceLT, Nat.reduceEqDiff, Nat.zero_le, Int.reduceEq, Int.reduceLT, Int.reduceLE, Int.reduceNeg, Int.reduceAdd, if_true, if_false, reduceIte, reduceCtorEq, Bool.false_eq_true, ne_eq, qCmp_0, qCmp_1, qCmp_2, qCmp_3, qCmp_4, qCmp_5, ib_0, ib_1, ib_2, lb_0, lb_1, lb_2, dv_0, dv_1, wq_ld_i, wq_ld_a, wq_get, mGet_0, mGet_1, mGet_2, mGet_3, wq_ret0, wq_ret1, wq_ret2, wq_ret3, wq_ret4, ldR0, ldI1, ldI2, wq_callV3_0, fk_10_5, fk_9_3, kX10_catcher_0, sk_130, al_130, sk_0, al_0, rf_0_5, SX10_catcher_0, shqRII_, spX10_weighNow, mrg, mrl, mSet_ap, ncast, Option.some.injEq, fr_130]
  refine ⟨H, hb, hh1, h1, fun z J J2 hJ q3 q4 q5 q6 q7 q8 => ?_⟩
  exact q_I (by rw [q3]; exact (H.cat z).1.symm) (h2 z _ (((cPost.rfl I).fr (by decide) (by decide)).fr (by decide) (by decide)))
theorem ctrX10_catcher {l : Launch} (hst : l.stackTraces = false) (hT : mTxM l) : mCtr l calX10_catcher spX10_catcher :=
  mMet0 (T := TX10_catcher) (S := SX10_catcher) hst hT (by decide) okX10_catcher ⟨_, _, rfl, rfl⟩ (fun a => match a with
    | 0 => ctrX10_weighNow hst hT
    | _ + 1 => mCtr_no) vcX10_catcher

def spX10_caught : mSp := shRII (fun _ i b h I Q => i = some 0 ∧ clsI I ∧ mrg b ∧ mrg h ∧ (¬ hitP (I 201) b h → Q (.inr (mEx 0)) I) ∧ (hitP (I 201) b h → ∀ I', cPost I I' (I 0 13) (I 0 14) → Q (.inl (some (mI (caughtT (I 201) b h)))) I'))
def SX10_caught : Nat → mSp := fun a => match a with
  | 0 => spX10_weighNow
  | _ => fun _ _ _ _ => False
theorem SX10_caught_0 : SX10_caught 0 = spX10_weighNow := Eq.trans rfl rfl
set_option maxRecDepth 100000 in
set_option maxHeartbeats 1000000 in
theorem vcX10_caught (fl : Nat → Bool) (avs : List mV) (I : mM) (Q : mO → mM → Prop) (hsp : spX10_caught fl avs I Q) : mVC0 SX10_caught fl Q kX10_caught 3 avs I := by
  obtain ⟨i, b, hh, rfl, h0⟩ := shRII_inv hsp
  refine ⟨rfl, ?_⟩
  show mWp _ _ _ _ _ _ kX10_caught_0 [some (mR i), some (mI b), some (mI hh)] [] I
  obtain ⟨rfl, H, hb, hh1, h1, h2⟩ := h0
  simp only [false_and, and_false, true_or, or_true, false_or, or_false, true_and, and_true, true_implies, false_implies, implies_true, not_true_eq_false, not_false_eq_true, and_self, List.length_cons, List.length_nil, mNoCut_, mCat_n, mCat_I, mCat_L, mCat_R, mIsL_n, mIsL_I, mIsL_R, mIsL_L, Nat.reduceAdd, Nat.reduceSub, Nat.reduceLeDiff, Nat.reduceLT, Nat.reduceEqDiff, Nat.zero_le, Int.reduceEq, Int.reduceLT, Int.reduceLE, Int.reduceNeg, Int.reduceAdd, if_true, if_false, reduceIte, reduceCtorEq, Bool.false_eq_true, ne_eq, qCmp_0, qCmp_1, qCmp_2, qCmp_3, qCmp_4, qCmp_5, ib_0, ib_1, ib_2, lb_0, lb_1, lb_2, dv_0, dv_1, wq_ld_i, wq_ld_a, wq_get, mGet_0, mGet_1, mGet_2, mGet_3, wq_ret0, wq_ret1, wq_ret2, wq_ret3, wq_ret4, ldR0, ldI1, ldI2, wq_callV3_0, fk_10_5, fk_9_4, kX10_caught_0, sk_130, al_130, sk_0, al_0, rf_0_5, SX10_caught_0, shqRII_, spX10_weighNow, mrg, mrl, mSet_ap, ncast, Option.some.injEq, fr_130]
  refine ⟨H, hb, hh1, h1, fun z J J2 hJ q3 q4 q5 q6 q7 q8 => ?_⟩
  exact q_I (by rw [q4]; exact (H.cat z).2.1.symm) (h2 z _ (((cPost.rfl I).fr (by decide) (by decide)).fr (by decide) (by decide)))
theorem ctrX10_caught {l : Launch} (hst : l.stackTraces = false) (hT : mTxM l) : mCtr l calX10_caught spX10_caught :=
  mMet0 (T := TX10_caught) (S := SX10_caught) hst hT (by decide) okX10_caught ⟨_, _, rfl, rfl⟩ (fun a => match a with
    | 0 => ctrX10_weighNow hst hT
    | _ + 1 => mCtr_no) vcX10_caught

def spX10_stopper : mSp := shRII (fun _ i b h I Q => i = some 0 ∧ clsI I ∧ mrg b ∧ mrg h ∧ (¬ hitP (I 201) b h → Q (.inr (mEx 0)) I) ∧ (hitP (I 201) b h → ∀ I', cPost I I' (I 0 13) (I 0 14) → Q (.inl (some (mI (stopperT (I 201) b h)))) I'))
def SX10_stopper : Nat → mSp := fun a => match a with
  | 0 => spX10_weighNow
  | _ => fun _ _ _ _ => False
theorem SX10_stopper_0 : SX10_stopper 0 = spX10_weighNow := Eq.trans rfl rfl
set_option maxRecDepth 100000 in
set_option maxHeartbeats 1000000 in
theorem vcX10_stopper (fl : Nat → Bool) (avs : List mV) (I : mM) (Q : mO → mM → Prop) (hsp : spX10_stopper fl avs I Q) : mVC0 SX10_stopper fl Q kX10_stopper 3 avs I := by
  obtain ⟨i, b, hh, rfl, h0⟩ := shRII_inv hsp
  refine ⟨rfl, ?_⟩
  show mWp _ _ _ _ _ _ kX10_stopper_0 [some (mR i), some (mI b), some (mI hh)] [] I
  obtain ⟨rfl, H, hb, hh1, h1, h2⟩ := h0
  simp only [false_and, and_false, true_or, or_true, false_or, or_false, true_and, and_true, true_implies, false_implies, implies_true, not_true_eq_false, not_false_eq_true, and_self, List.length_cons, List.length_nil, mNoCut_, mCat_n, mCat_I, mCat_L, mCat_R, mIsL_n, mIsL_I, mIsL_R, mIsL_L, Nat.reduceAdd, Nat.reduceSub, Nat.reduceLeDiff, Nat.reduceLT, Nat.reduceEqDiff, Nat.zero_le, Int.reduceEq, Int.reduceLT, Int.reduceLE, Int.reduceNeg, Int.reduceAdd, if_true, if_false, reduceIte, reduceCtorEq, Bool.false_eq_true, ne_eq, qCmp_0, qCmp_1, qCmp_2, qCmp_3, qCmp_4, qCmp_5, ib_0, ib_1, ib_2, lb_0, lb_1, lb_2, dv_0, dv_1, wq_ld_i, wq_ld_a, wq_get, mGet_0, mGet_1, mGet_2, mGet_3, wq_ret0, wq_ret1, wq_ret2, wq_ret3, wq_ret4, ldR0, ldI1, ldI2, wq_callV3_0, fk_10_5, fk_9_5, kX10_stopper_0, sk_130, al_130, sk_0, al_0, rf_0_5, SX10_stopper_0, shqRII_, spX10_weighNow, mrg, mrl, mSet_ap, ncast, Option.some.injEq, fr_130]
  refine ⟨H, hb, hh1, h1, fun z J J2 hJ q3 q4 q5 q6 q7 q8 => ?_⟩
  exact q_I (by rw [q5]; exact (H.cat z).2.2.1.symm) (h2 z _ (((cPost.rfl I).fr (by decide) (by decide)).fr (by decide) (by decide)))
theorem ctrX10_stopper {l : Launch} (hst : l.stackTraces = false) (hT : mTxM l) : mCtr l calX10_stopper spX10_stopper :=
  mMet0 (T := TX10_stopper) (S := SX10_stopper) hst hT (by decide) okX10_stopper ⟨_, _, rfl, rfl⟩ (fun a => match a with
    | 0 => ctrX10_weighNow hst hT
    | _ + 1 => mCtr_no) vcX10_stopper

def spX10_stops : mSp := shRII (fun _ i b h I Q => i = some 0 ∧ clsI I ∧ mrg b ∧ mrg h ∧ (¬ hitP (I 201) b h → Q (.inr (mEx 0)) I) ∧ (hitP (I 201) b h → ∀ I', cPost I I' (I 0 13) (I 0 14) → Q (.inl (some (mI (stopsT (I 201) b h)))) I'))
def SX10_stops : Nat → mSp := fun a => match a with
  | 0 => spX10_weighNow
  | _ => fun _ _ _ _ => False
theorem SX10_stops_0 : SX10_stops 0 = spX10_weighNow := Eq.trans rfl rfl
set_option maxRecDepth 100000 in
set_option maxHeartbeats 1000000 in
theorem vcX10_stops (fl : Nat → Bool) (avs : List mV) (I : mM) (Q : mO → mM → Prop) (hsp : spX10_stops fl avs I Q) : mVC0 SX10_stops fl Q kX10_stops 3 avs I := by
  obtain ⟨i, b, hh, rfl, h0⟩ := shRII_inv hsp
  refine ⟨rfl, ?_⟩
  show mWp _ _ _ _ _ _ kX10_stops_0 [some (mR i), some (mI b), some (mI hh)] [] I
  obtain ⟨rfl, H, hb, hh1, h1, h2⟩ := h0
  simp only [false_and, and_false, true_or, or_true, false_or, or_false, true_and, and_true, true_implies, false_implies, implies_true, not_true_eq_false, not_false_eq_true, and_self, List.length_cons, List.length_nil, mNoCut_, mCat_n, mCat_I, mCat_L, mCat_R, mIsL_n, mIsL_I, mIsL_R, mIsL_L, Nat.reduceAdd, Nat.reduceSub, Nat.reduceLeDiff, Nat.reduceLT, Nat.reduceEqDiff, Nat.zero_le, Int.reduceEq, Int.reduceLT, Int.reduceLE, Int.reduceNeg, Int.reduceAdd, if_true, if_false, reduceIte, reduceCtorEq, Bool.false_eq_true, ne_eq, qCmp_0, qCmp_1, qCmp_2, qCmp_3, qCmp_4, qCmp_5, ib_0, ib_1, ib_2, lb_0, lb_1, lb_2, dv_0, dv_1, wq_ld_i, wq_ld_a, wq_get, mGet_0, mGet_1, mGet_2, mGet_3, wq_ret0, wq_ret1, wq_ret2, wq_ret3, wq_ret4, ldR0, ldI1, ldI2, wq_callV3_0, fk_10_5, fk_9_6, kX10_stops_0, sk_130, al_130, sk_0, al_0, rf_0_5, SX10_stops_0, shqRII_, spX10_weighNow, mrg, mrl, mSet_ap, ncast, Option.some.injEq, fr_130]
  refine ⟨H, hb, hh1, h1, fun z J J2 hJ q3 q4 q5 q6 q7 q8 => ?_⟩
  exact q_I (by rw [q6]; exact (H.cat z).2.2.2.1.symm) (h2 z _ (((cPost.rfl I).fr (by decide) (by decide)).fr (by decide) (by decide)))
theorem ctrX10_stops {l : Launch} (hst : l.stackTraces = false) (hT : mTxM l) : mCtr l calX10_stops spX10_stops :=
  mMet0 (T := TX10_stops) (S := SX10_stops) hst hT (by decide) okX10_stops ⟨_, _, rfl, rfl⟩ (fun a => match a with
    | 0 => ctrX10_weighNow hst hT
    | _ + 1 => mCtr_no) vcX10_stops

def spX10_runs : mSp := shRII (fun _ i b h I Q => i = some 0 ∧ clsI I ∧ mrg b ∧ mrg h ∧ (¬ hitP (I 201) b h → Q (.inr (mEx 0)) I) ∧ (hitP (I 201) b h → ∀ I', cPost I I' (I 0 13) (I 0 14) → Q (.inl (some (mI (runsT (I 201) b h)))) I'))
def SX10_runs : Nat → mSp := fun a => match a with
  | 0 => spX10_weighNow
  | _ => fun _ _ _ _ => False
theorem SX10_runs_0 : SX10_runs 0 = spX10_weighNow := Eq.trans rfl rfl
set_option maxRecDepth 100000 in
set_option maxHeartbeats 1000000 in
theorem vcX10_runs (fl : Nat → Bool) (avs : List mV) (I : mM) (Q : mO → mM → Prop) (hsp : spX10_runs fl avs I Q) : mVC0 SX10_runs fl Q kX10_runs 3 avs I := by
  obtain ⟨i, b, hh, rfl, h0⟩ := shRII_inv hsp
  refine ⟨rfl, ?_⟩
  show mWp _ _ _ _ _ _ kX10_runs_0 [some (mR i), some (mI b), some (mI hh)] [] I
  obtain ⟨rfl, H, hb, hh1, h1, h2⟩ := h0
  simp only [false_and, and_false, true_or, or_true, false_or, or_false, true_and, and_true, true_implies, false_implies, implies_true, not_true_eq_false, not_false_eq_true, and_self, List.length_cons, List.length_nil, mNoCut_, mCat_n, mCat_I, mCat_L, mCat_R, mIsL_n, mIsL_I, mIsL_R, mIsL_L, Nat.reduceAdd, Nat.reduceSub, Nat.reduceLeDiff, Nat.reduceLT, Nat.reduceEqDiff, Nat.zero_le, Int.reduceEq, Int.reduceLT, Int.reduceLE, Int.reduceNeg, Int.reduceAdd, if_true, if_false, reduceIte, reduceCtorEq, Bool.false_eq_true, ne_eq, qCmp_0, qCmp_1, qCmp_2, qCmp_3, qCmp_4, qCmp_5, ib_0, ib_1, ib_2, lb_0, lb_1, lb_2, dv_0, dv_1, wq_ld_i, wq_ld_a, wq_get, mGet_0, mGet_1, mGet_2, mGet_3, wq_ret0, wq_ret1, wq_ret2, wq_ret3, wq_ret4, ldR0, ldI1, ldI2, wq_callV3_0, fk_10_5, fk_9_7, kX10_runs_0, sk_130, al_130, sk_0, al_0, rf_0_5, SX10_runs_0, shqRII_, spX10_weighNow, mrg, mrl, mSet_ap, ncast, Option.some.injEq, fr_130]
  refine ⟨H, hb, hh1, h1, fun z J J2 hJ q3 q4 q5 q6 q7 q8 => ?_⟩
  exact q_I (by rw [q7]; exact (H.cat z).2.2.2.2.1.symm) (h2 z _ (((cPost.rfl I).fr (by decide) (by decide)).fr (by decide) (by decide)))
theorem ctrX10_runs {l : Launch} (hst : l.stackTraces = false) (hT : mTxM l) : mCtr l calX10_runs spX10_runs :=
  mMet0 (T := TX10_runs) (S := SX10_runs) hst hT (by decide) okX10_runs ⟨_, _, rfl, rfl⟩ (fun a => match a with
    | 0 => ctrX10_weighNow hst hT
    | _ + 1 => mCtr_no) vcX10_runs

def spX10_cost : mSp := shRII (fun _ i b h I Q => i = some 0 ∧ clsI I ∧ mrg b ∧ mrg h ∧ (¬ hitP (I 201) b h → Q (.inr (mEx 0)) I) ∧ (hitP (I 201) b h → ∀ I', cPost I I' (I 0 13) (I 0 14) → Q (.inl (some (mI (costT (I 201) b h)))) I'))
def SX10_cost : Nat → mSp := fun a => match a with
  | 0 => spX10_weighNow
  | _ => fun _ _ _ _ => False
theorem SX10_cost_0 : SX10_cost 0 = spX10_weighNow := Eq.trans rfl rfl
set_option maxRecDepth 100000 in
set_option maxHeartbeats 1000000 in
theorem vcX10_cost (fl : Nat → Bool) (avs : List mV) (I : mM) (Q : mO → mM → Prop) (hsp : spX10_cost fl avs I Q) : mVC0 SX10_cost fl Q kX10_cost 3 avs I := by
  obtain ⟨i, b, hh, rfl, h0⟩ := shRII_inv hsp
  refine ⟨rfl, ?_⟩
  show mWp _ _ _ _ _ _ kX10_cost_0 [some (mR i), some (mI b), some (mI hh)] [] I
  obtain ⟨rfl, H, hb, hh1, h1, h2⟩ := h0
  simp only [false_and, and_false, true_or, or_true, false_or, or_false, true_and, and_true, true_implies, false_implies, implies_true, not_true_eq_false, not_false_eq_true, and_self, List.length_cons, List.length_nil, mNoCut_, mCat_n, mCat_I, mCat_L, mCat_R, mIsL_n, mIsL_I, mIsL_R, mIsL_L, Nat.reduceAdd, Nat.reduceSub, Nat.reduceLeDiff, Nat.reduceLT, Nat.reduceEqDiff, Nat.zero_le, Int.reduceEq, Int.reduceLT, Int.reduceLE, Int.reduceNeg, Int.reduceAdd, if_true, if_false, reduceIte, reduceCtorEq, Bool.false_eq_true, ne_eq, qCmp_0, qCmp_1, qCmp_2, qCmp_3, qCmp_4, qCmp_5, ib_0, ib_1, ib_2, lb_0, lb_1, lb_2, dv_0, dv_1, wq_ld_i, wq_ld_a, wq_get, mGet_0, mGet_1, mGet_2, mGet_3, wq_ret0, wq_ret1, wq_ret2, wq_ret3, wq_ret4, ldR0, ldI1, ldI2, wq_callV3_0, fk_10_5, fk_9_8, kX10_cost_0, sk_130, al_130, sk_0, al_0, rf_0_5, SX10_cost_0, shqRII_, spX10_weighNow, mrg, mrl, mSet_ap, ncast, Option.some.injEq, fr_130]
  refine ⟨H, hb, hh1, h1, fun z J J2 hJ q3 q4 q5 q6 q7 q8 => ?_⟩
  exact q_I (by rw [q8]; exact (H.cat z).2.2.2.2.2.symm) (h2 z _ (((cPost.rfl I).fr (by decide) (by decide)).fr (by decide) (by decide)))
theorem ctrX10_cost {l : Launch} (hst : l.stackTraces = false) (hT : mTxM l) : mCtr l calX10_cost spX10_cost :=
  mMet0 (T := TX10_cost) (S := SX10_cost) hst hT (by decide) okX10_cost ⟨_, _, rfl, rfl⟩ (fun a => match a with
    | 0 => ctrX10_weighNow hst hT
    | _ + 1 => mCtr_no) vcX10_cost

def spX10_upper : mSp := shR (fun _ i I Q => i = some 0 ∧ Q (.inl (some (mL (I 0 13)))) I)
def SX10_upper : Nat → mSp := fun a => match a with
  | _ => fun _ _ _ _ => False
set_option maxRecDepth 100000 in
set_option maxHeartbeats 1000000 in
theorem vcX10_upper (fl : Nat → Bool) (avs : List mV) (I : mM) (Q : mO → mM → Prop) (hsp : spX10_upper fl avs I Q) : mVC0 SX10_upper fl Q kX10_upper 1 avs I := by
  obtain ⟨i, rfl, h0⟩ := shR_inv hsp
  refine ⟨rfl, ?_⟩
  show mWp _ _ _ _ _ _ kX10_upper_0 [some (mR i)] [] I
  obtain ⟨rfl, h⟩ := h0
  simp only [false_and, and_false, true_or, or_true, false_or, or_false, true_and, and_true, true_implies, false_implies, implies_true, not_true_eq_false, not_false_eq_true, and_self, List.length_cons, List.length_nil, mNoCut_, mCat_n, mCat_I, mCat_L, mCat_R, mIsL_n, mIsL_I, mIsL_R, mIsL_L, Nat.reduceAdd, Nat.reduceSub, Nat.reduceLeDiff, Nat.reduceLT, Nat.reduceEqDiff, Nat.zero_le, Int.reduceEq, Int.reduceLT, Int.reduceLE, Int.reduceNeg, Int.reduceAdd, if_true, if_false, reduceIte, reduceCtorEq, Bool.false_eq_true, ne_eq, qCmp_0, qCmp_1, qCmp_2, qCmp_3, qCmp_4, qCmp_5, ib_0, ib_1, ib_2, lb_0, lb_1, lb_2, dv_0, dv_1, wq_ld_a, wq_get, mGet_0, mGet_1, mGet_2, mGet_3, wq_ret0, wq_ret1, wq_ret2, wq_ret3, wq_ret4, ldR0, fk_10_13, kX10_upper_0, sk_0, al_0, mrg, mrl, mSet_ap, ncast, Option.some.injEq]
  exact h
theorem ctrX10_upper {l : Launch} (hst : l.stackTraces = false) (hT : mTxM l) : mCtr l calX10_upper spX10_upper :=
  mMet0 (T := TX10_upper) (S := SX10_upper) hst hT (by decide) okX10_upper ⟨_, _, rfl, rfl⟩ (fun a => mCtr_no) vcX10_upper

def spX10_lower : mSp := shR (fun _ i I Q => i = some 0 ∧ Q (.inl (some (mL (I 0 14)))) I)
def SX10_lower : Nat → mSp := fun a => match a with
  | _ => fun _ _ _ _ => False
set_option maxRecDepth 100000 in
set_option maxHeartbeats 1000000 in
theorem vcX10_lower (fl : Nat → Bool) (avs : List mV) (I : mM) (Q : mO → mM → Prop) (hsp : spX10_lower fl avs I Q) : mVC0 SX10_lower fl Q kX10_lower 1 avs I := by
  obtain ⟨i, rfl, h0⟩ := shR_inv hsp
  refine ⟨rfl, ?_⟩
  show mWp _ _ _ _ _ _ kX10_lower_0 [some (mR i)] [] I
  obtain ⟨rfl, h⟩ := h0
  simp only [false_and, and_false, true_or, or_true, false_or, or_false, true_and, and_true, true_implies, false_implies, implies_true, not_true_eq_false, not_false_eq_true, and_self, List.length_cons, List.length_nil, mNoCut_, mCat_n, mCat_I, mCat_L, mCat_R, mIsL_n, mIsL_I, mIsL_R, mIsL_L, Nat.reduceAdd, Nat.reduceSub, Nat.reduceLeDiff, Nat.reduceLT, Nat.reduceEqDiff, Nat.zero_le, Int.reduceEq, Int.reduceLT, Int.reduceLE, Int.reduceNeg, Int.reduceAdd, if_true, if_false, reduceIte, reduceCtorEq, Bool.false_eq_true, ne_eq, qCmp_0, qCmp_1, qCmp_2, qCmp_3, qCmp_4, qCmp_5, ib_0, ib_1, ib_2, lb_0, lb_1, lb_2, dv_0, dv_1, wq_ld_a, wq_get, mGet_0, mGet_1, mGet_2, mGet_3, wq_ret0, wq_ret1, wq_ret2, wq_ret3, wq_ret4, ldR0, fk_10_14, kX10_lower_0, sk_0, al_0, mrg, mrl, mSet_ap, ncast, Option.some.injEq]
  exact h
theorem ctrX10_lower {l : Launch} (hst : l.stackTraces = false) (hT : mTxM l) : mCtr l calX10_lower spX10_lower :=
  mMet0 (T := TX10_lower) (S := SX10_lower) hst hT (by decide) okX10_lower ⟨_, _, rfl, rfl⟩ (fun a => mCtr_no) vcX10_lower

def spX10_hits : mSp := shRI (fun _ i b I Q => i = some 0 ∧ clsI I ∧ mrg b ∧ (¬ ballP b → Q (.inr (mEx 0)) I) ∧ (ballP b → Q (.inl (some (mI (I 201 (13 + b))))) I))
def SX10_hits : Nat → mSp := fun a => match a with
  | 0 => spX10_needBall
  | 1 => spX3_hitsOf
  | _ => fun _ _ _ _ => False
theorem SX10_hits_0 : SX10_hits 0 = spX10_needBall := Eq.trans rfl rfl
theorem SX10_hits_1 : SX10_hits 1 = spX3_hitsOf := Eq.trans rfl rfl
set_option maxRecDepth 100000 in
set_option maxHeartbeats 1000000 in
theorem vcX10_hits (fl : Nat → Bool) (avs : List mV) (I : mM) (Q : mO → mM → Prop) (hsp : spX10_hits fl avs I Q) : mVC0 SX10_hits fl Q kX10_hits 2 avs I := by
  obtain ⟨i, b, rfl, h0⟩ := shRI_inv hsp
  refine ⟨rfl, ?_⟩
  show mWp _ _ _ _ _ _ kX10_hits_0 [some (mR i), some (mI b)] [] I
  obtain ⟨rfl, H, hb, h1, h2⟩ := h0
  have e15 : ballP b → I 15 b = I 201 (13 + b) := fun z => H.2.1.2.2.1 b z.1 z.2
  simp only [false_and, and_false, true_or, or_true, false_or, or_false, true_and, and_true, true_implies, false_implies, implies_true, not_true_eq_false, not_false_eq_true, and_self, List.length_cons, List.length_nil, mNoCut_, mCat_n, mCat_I, mCat_L, mCat_R, mIsL_n, mIsL_I, mIsL_R, mIsL_L, Nat.reduceAdd, Nat.reduceSub, Nat.reduceLeDiff, Nat.reduceLT, Nat.reduceEqDiff, Nat.zero_le, Int.reduceEq, Int.reduceLT, Int.reduceLE, Int.reduceNeg, Int.reduceAdd, if_true, if_false, reduceIte, reduceCtorEq, Bool.false_eq_true, ne_eq, qCmp_0, qCmp_1, qCmp_2, qCmp_3, qCmp_4, qCmp_5, ib_0, ib_1, ib_2, lb_0, lb_1, lb_2, dv_0, dv_1, wq_ld_i, wq_ld_a, wq_get, mGet_0, mGet_1, mGet_2, mGet_3, wq_ret0, wq_ret1, wq_ret2, wq_ret3, wq_ret4, ldI1, wq_callS1_1, ldR0, fk_10_0, fk_7_0, wq_callV2_0, kX10_hits_0, sk_0, al_0, rf_0_0, sk_10, al_10, rf_10_0, sk_11, al_11, sk_102, al_102, SX10_hits_0, SX10_hits_1, shqI_, shqRI_, spX10_needBall, spX3_hitsOf, mrg, mrl, mSet_ap, ncast, Option.some.injEq, Option.getD_some]
  refine ⟨hb, fun z => ⟨z, q_I (e15 z).symm (h2 z)⟩, h1⟩
theorem ctrX10_hits {l : Launch} (hst : l.stackTraces = false) (hT : mTxM l) : mCtr l calX10_hits spX10_hits :=
  mMet0 (T := TX10_hits) (S := SX10_hits) hst hT (by decide) okX10_hits ⟨_, _, rfl, rfl⟩ (fun a => match a with
    | 0 => ctrX10_needBall hst hT
    | 1 => ctrX3_hitsOf hst hT
    | _ + 2 => mCtr_no) vcX10_hits

def spX10_hit : mSp := shRIII (fun _ i b h w I Q => i = some 0 ∧ clsI I ∧ mrg b ∧ mrg h ∧ mrg w ∧ (¬ hitP (I 201) b h → Q (.inr (mEx 0)) I) ∧ (hitP (I 201) b h → ¬ (0 ≤ w ∧ w ≤ 5) → Q (.inr (mEx 1)) I) ∧ (hitP (I 201) b h → w = 0 → ∀ I', cPost I I' (I 0 13) (I 0 14) → Q (.inl (some (mI (wayT (I 201) b h)))) I') ∧ (hitP (I 201) b h → w = 1 → ∀ I', cPost I I' (I 0 13) (I 0 14) → Q (.inl (some (mI (rawT (I 201) b h 1)))) I') ∧ (hitP (I 201) b h → w = 2 → ∀ I', cPost I I' (I 0 13) (I 0 14) → Q (.inl (some (mI (airT (I 201) b h)))) I') ∧ (hitP (I 201) b h → w = 3 → ∀ I', cPost I I' (I 0 13) (I 0 14) → Q (.inl (some (mI (rawT (I 201) b h 3)))) I') ∧ (hitP (I 201) b h → w = 4 → ∀ I', cPost I I' (I 0 13) (I 0 14) → Q (.inl (some (mI (stepsT (I 201) b h)))) I') ∧ (hitP (I 201) b h → w = 5 → ∀ I', cPost I I' (I 0 13) (I 0 14) → Q (.inl (some (mI (rawT (I 201) b h 4)))) I'))
def SX10_hit : Nat → mSp := fun a => match a with
  | 0 => spX10_needHit
  | 1 => spX10_lay
  | _ => fun _ _ _ _ => False
theorem SX10_hit_0 : SX10_hit 0 = spX10_needHit := Eq.trans rfl rfl
theorem SX10_hit_1 : SX10_hit 1 = spX10_lay := Eq.trans rfl rfl
set_option maxRecDepth 100000 in
set_option maxHeartbeats 1000000 in
theorem vcX10_hit (fl : Nat → Bool) (avs : List mV) (I : mM) (Q : mO → mM → Prop) (hsp : spX10_hit fl avs I Q) : mVC0 SX10_hit fl Q kX10_hit 4 avs I := by
  obtain ⟨i, b, hh, w, rfl, h0⟩ := shRIII_inv hsp
  refine ⟨rfl, ?_⟩
  show mWp _ _ _ _ _ _ kX10_hit_0 [some (mR i), some (mI b), some (mI hh), some (mI w)] [] I
  obtain ⟨rfl, H, hb, hh1, hw, h1, h2, g0, g1, g2, g3, g4, g5⟩ := h0
  simp only [false_and, and_false, true_or, or_true, false_or, or_false, true_and, and_true, true_implies, false_implies, implies_true, not_true_eq_false, not_false_eq_true, and_self, List.length_cons, List.length_nil, mNoCut_, mCat_n, mCat_I, mCat_L, mCat_R, mIsL_n, mIsL_I, mIsL_R, mIsL_L, Nat.reduceAdd, Nat.reduceSub, Nat.reduceLeDiff, Nat.reduceLT, Nat.reduceEqDiff, Nat.zero_le, Int.reduceEq, Int.reduceLT, Int.reduceLE, Int.reduceNeg, Int.reduceAdd, if_true, if_false, reduceIte, reduceCtorEq, Bool.false_eq_true, ne_eq, qCmp_0, qCmp_1, qCmp_2, qCmp_3, qCmp_4, qCmp_5, ib_0, ib_1, ib_2, lb_0, lb_1, lb_2, dv_0, dv_1, wq_ic, wq_ld_i, wq_ld_a, wq_ib, wq_icmp, wq_if, wq_get, mGet_0, mGet_1, mGet_2, mGet_3, wq_ald, wq_ret0, wq_ret1, wq_ret2, wq_ret3, wq_ret4, wq_sw, wqsw_n, wqsw_c, wq_thr, ldR0, ldI1, ldI2, wq_callV3_0, ldI3, mrg_5_, wq_callV2_0, fk_10_4, fk_0_3, fk_0_4, fk_0_5, fk_0_6, fk_0_7, fk_10_0, fk_7_2, fk_1_3, mrg_8_, mrg_0_, mGo_n, sfxX10_hit_15, cutX10_hit_15, sfxX10_hit_25, cutX10_hit_25, sfxX10_hit_64, cutX10_hit_64, sfxX10_hit_74, cutX10_hit_74, sfxX10_hit_84, cutX10_hit_84, sfxX10_hit_94, cutX10_hit_94, sfxX10_hit_104, cutX10_hit_104, sfxX10_hit_114, cutX10_hit_114, kX10_hit_114, kX10_hit_104, kX10_hit_94, kX10_hit_84, kX10_hit_74, kX10_hit_64, kX10_hit_25, kX10_hit_15, kX10_hit_0, sk_120, al_120, rf_120_3, sk_121, al_121, sn_121, rf_120_4, sk_122, al_122, sn_122, rf_120_5, sk_123, al_123, sn_123, rf_120_6, sk_124, al_124, sn_124, rf_120_7, sk_125, al_125, sn_125, sk_13, al_13, rf_13_3, sk_26, al_26, sn_26, sk_0, al_0, rf_0_4, rf_0_0, sk_10, al_10, rf_10_2, ald_n, ro0_n, al_ro, SX10_hit_0, SX10_hit_1, shqRII_, shqRI_, spX10_needHit, spX10_lay, mrg, mrl, mSet_ap, ncast, Option.some.injEq, fr_ne, fr_ap]
  refine ⟨H, hb, hh1, fun z => ?_, h1⟩
  have hn := H.1.2.1 b z.1 z.2.1
  have e26 : I 26 (8 * b + hh) = I 201 (314 + 5 * (8 * b + hh)) := H.2.2.2.2.2.2.1 _ (by have := z.2.2.2; omega) (by have := z.2.2.2; omega)
  have e26b : I 26 (b * 8 + hh) = rawT (I 201) b hh 4 := by
    rw [show b * 8 + hh = 8 * b + hh by omega, e26]
    unfold rawT
    congr 1
    omega
  have cp := fun J : mM => (cPost.rfl I).fr (J := J) (lo := 120) (hi := 127) (by decide) (by decide)
  have f0 := fun (e : w = 0) J => g0 z e _ (cp J)
  have f1 := fun (e : w = 1) J => g1 z e _ (cp J)
  have f2 := fun (e : w = 2) J => g2 z e _ (cp J)
  have f3 := fun (e : w = 3) J => g3 z e _ (cp J)
  have f4 := fun (e : w = 4) J => g4 z e _ (cp J)
  have f5 := fun (e : w = 5) J => g5 z e _ (cp J)
  have z3 := z.2.2.1
  have z4 := z.2.2.2
  have k0 : ∀ J : mM, Laid J (I 201) b → w = 0 → Q (.inl (some (mI (J 121 hh)))) (fr 120 127 J I) := fun J hJ e => q_I (hJ.2.2.2 hh z3 z4).1.symm (f0 e J)
  have k1 : ∀ J : mM, Laid J (I 201) b → w = 1 → Q (.inl (some (mI (J 122 hh)))) (fr 120 127 J I) := fun J hJ e => q_I (hJ.2.2.2 hh z3 z4).2.1.symm (f1 e J)
  have k2 : ∀ J : mM, Laid J (I 201) b → w = 2 → Q (.inl (some (mI (J 123 hh)))) (fr 120 127 J I) := fun J hJ e => q_I (hJ.2.2.2 hh z3 z4).2.2.1.symm (f2 e J)
  have k3 : ∀ J : mM, Laid J (I 201) b → w = 3 → Q (.inl (some (mI (J 124 hh)))) (fr 120 127 J I) := fun J hJ e => q_I (hJ.2.2.2 hh z3 z4).2.2.2.1.symm (f3 e J)
  have k4 : ∀ J : mM, Laid J (I 201) b → w = 4 → Q (.inl (some (mI (J 125 hh)))) (fr 120 127 J I) := fun J hJ e => q_I (hJ.2.2.2 hh z3 z4).2.2.2.2.1.symm (f4 e J)
  have k5 : ∀ J : mM, Laid J (I 201) b → w = 5 → Q (.inl (some (mI (I 26 (b * 8 + hh))))) (fr 120 127 J I) := fun J hJ e => q_I e26b.symm (f5 e J)
  clear g0 g1 g2 g3 g4 g5 cp h1 f0 f1 f2 f3 f4 f5
  (try simp only [mrg, mrl] at *) <;> repeat' (first | (with_reducible assumption) | (with_reducible apply And.intro) | intro _)
  all_goals first | omega | exact H | exact h2 z (by omega) | exact k0 _ (by assumption) (by omega) | exact k1 _ (by assumption) (by omega) | exact k2 _ (by assumption) (by omega) | exact k3 _ (by assumption) (by omega) | exact k4 _ (by assumption) (by omega) | exact k5 _ (by assumption) (by omega) | skip
theorem ctrX10_hit {l : Launch} (hst : l.stackTraces = false) (hT : mTxM l) : mCtr l calX10_hit spX10_hit :=
  mMet0 (T := TX10_hit) (S := SX10_hit) hst hT (by decide) okX10_hit ⟨_, _, rfl, rfl⟩ (fun a => match a with
    | 0 => ctrX10_needHit hst hT
    | 1 => ctrX10_lay hst hT
    | _ + 2 => mCtr_no) vcX10_hit

def spX10_tick : mSp := shRIII (fun _ i b h k I Q => i = some 0 ∧ clsI I ∧ mrg b ∧ mrg h ∧ mrg k ∧ (¬ hitP (I 201) b h → Q (.inr (mEx 0)) I) ∧ (hitP (I 201) b h → ¬ (1 ≤ k ∧ k ≤ stepsT (I 201) b h) → ∀ I', cPost I I' (I 0 13) (I 0 14) → Q (.inr (mEx 1)) I') ∧ (hitP (I 201) b h → (1 ≤ k ∧ k ≤ stepsT (I 201) b h) → ∀ I', cPost I I' (I 0 13) (I 0 14) → Q (.inl (some (mI (tickT (I 201) b h k)))) I'))
def SX10_tick : Nat → mSp := fun a => match a with
  | 0 => spX10_needHit
  | 1 => spX10_lay
  | 2 => spX0_tickAt
  | _ => fun _ _ _ _ => False
theorem SX10_tick_0 : SX10_tick 0 = spX10_needHit := Eq.trans rfl rfl
theorem SX10_tick_1 : SX10_tick 1 = spX10_lay := Eq.trans rfl rfl
theorem SX10_tick_2 : SX10_tick 2 = spX0_tickAt := Eq.trans rfl rfl
set_option maxRecDepth 100000 in
set_option maxHeartbeats 1000000 in
theorem vcX10_tick (fl : Nat → Bool) (avs : List mV) (I : mM) (Q : mO → mM → Prop) (hsp : spX10_tick fl avs I Q) : mVC0 SX10_tick fl Q kX10_tick 4 avs I := by
  obtain ⟨i, b, hh, k, rfl, h0⟩ := shRIII_inv hsp
  refine ⟨rfl, ?_⟩
  show mWp _ _ _ _ _ _ kX10_tick_0 [some (mR i), some (mI b), some (mI hh), some (mI k)] [] I
  obtain ⟨rfl, H, hb, hh1, hk, h1, h2, h3⟩ := h0
  simp only [false_and, and_false, true_or, or_true, false_or, or_false, true_and, and_true, true_implies, false_implies, implies_true, not_true_eq_false, not_false_eq_true, and_self, List.length_cons, List.length_nil, mNoCut_, mCat_n, mCat_I, mCat_L, mCat_R, mIsL_n, mIsL_I, mIsL_R, mIsL_L, Nat.reduceAdd, Nat.reduceSub, Nat.reduceLeDiff, Nat.reduceLT, Nat.reduceEqDiff, Nat.zero_le, Int.reduceEq, Int.reduceLT, Int.reduceLE, Int.reduceNeg, Int.reduceAdd, if_true, if_false, reduceIte, reduceCtorEq, Bool.false_eq_true, ne_eq, qCmp_0, qCmp_1, qCmp_2, qCmp_3, qCmp_4, qCmp_5, ib_0, ib_1, ib_2, lb_0, lb_1, lb_2, dv_0, dv_1, wq_ic, wq_ld_i, wq_ld_a, wq_icmp, wq_get, mGet_0, mGet_1, mGet_2, mGet_3, wq_ald, wq_ret0, wq_ret1, wq_ret2, wq_ret3, wq_ret4, wq_thr, ldR0, ldI1, ldI2, wq_callV3_0, wq_callV2_0, ldI3, mrg_1_, fk_10_4, fk_0_7, mGo_n, sfxX10_tick_29, cutX10_tick_29, sfxX10_tick_39, cutX10_tick_39, kX10_tick_39, kX10_tick_29, kX10_tick_0, sk_120, al_120, rf_120_7, sk_125, al_125, sn_125, sk_0, al_0, rf_0_4, ald_n, ro0_n, al_ro, SX10_tick_0, SX10_tick_1, SX10_tick_2, shqRII_, shqRI_, spX10_needHit, spX10_lay, spX0_tickAt, mrg, mrl, mSet_ap, ncast, Option.some.injEq, fr_ne, fr_ap]
  refine ⟨H, hb, hh1, fun z => ⟨H, ⟨z.1, z.2.1⟩, fun J hJ => ?_⟩, h1⟩
  have hn := H.1.2.1 b z.1 z.2.1
  have z3 := z.2.2.1
  have z4 := z.2.2.2
  have st8 := (steps_spec H.1 (b := b) (h := hh) ⟨z.1, z.2.1⟩ ⟨z3, by omega⟩).1
  have l := hJ.2.2.2 hh z3 z4
  have l5 := l.2.2.2.2.1
  have cp := (cPost.rfl I).fr (J := J) (lo := 120) (hi := 127) (by decide) (by decide)
  have h2 := fun w => h2 z w _ cp
  have h3 := fun w => h3 z w _ cp
  simp only [l5]
  (try simp only [mrg, mrl] at *) <;> repeat' (first | (with_reducible assumption) | (with_reducible apply And.intro) | intro _)
  all_goals first | omega | exact h2 (by omega) | exact q_I ((l.2.2.2.2.2 k (by omega) (by omega)).2).symm (h3 (by omega)) | skip
theorem ctrX10_tick {l : Launch} (hst : l.stackTraces = false) (hT : mTxM l) : mCtr l calX10_tick spX10_tick :=
  mMet0 (T := TX10_tick) (S := SX10_tick) hst hT (by decide) okX10_tick ⟨_, _, rfl, rfl⟩ (fun a => match a with
    | 0 => ctrX10_needHit hst hT
    | 1 => ctrX10_lay hst hT
    | 2 => ctrX0_tickAt hst hT
    | _ + 3 => mCtr_no) vcX10_tick

def spX10_fielder : mSp := shRIIIII (fun _ i f p a r m I Q => i = some 0 ∧ mrg f ∧ mrg p ∧ mrg a ∧ mrg r ∧ mrg m ∧ (¬ fldP f → Q (.inr (mEx 0)) I) ∧ (fldP f → ¬ ((1 ≤ p ∧ p ≤ 9) ∧ (0 ≤ a ∧ a ≤ 100) ∧ (0 ≤ r ∧ r ≤ 50) ∧ (0 ≤ m ∧ m ≤ 9)) → Q (.inr (mEx 1)) I) ∧ (fldP f → ((1 ≤ p ∧ p ≤ 9) ∧ (0 ≤ a ∧ a ≤ 100) ∧ (0 ≤ r ∧ r ≤ 50) ∧ (0 ≤ m ∧ m ≤ 9)) → Q (.inl none) (mSet (mSet (mSet (mSet I 21 f p) 22 f a) 23 f r) 24 f m)))
def SX10_fielder : Nat → mSp := fun a => match a with
  | 0 => spX10_needFielder
  | 1 => spX10_needNumber
  | _ => fun _ _ _ _ => False
theorem SX10_fielder_0 : SX10_fielder 0 = spX10_needFielder := Eq.trans rfl rfl
theorem SX10_fielder_1 : SX10_fielder 1 = spX10_needNumber := Eq.trans rfl rfl
set_option maxRecDepth 100000 in
set_option maxHeartbeats 1000000 in
theorem vcX10_fielder (fl : Nat → Bool) (avs : List mV) (I : mM) (Q : mO → mM → Prop) (hsp : spX10_fielder fl avs I Q) : mVC0 SX10_fielder fl Q kX10_fielder 6 avs I := by
  obtain ⟨i, f, p, a, r, m, rfl, h0⟩ := shRIIIII_inv hsp
  refine ⟨rfl, ?_⟩
  show mWp _ _ _ _ _ _ kX10_fielder_0 [some (mR i), some (mI f), some (mI p), some (mI a), some (mI r), some (mI m)] [] I
  obtain ⟨rfl, hf, hp, ha, hr, hm, h1, h2, h3⟩ := h0
  simp only [false_and, and_false, true_or, or_true, false_or, or_false, true_and, and_true, true_implies, false_implies, implies_true, not_true_eq_false, not_false_eq_true, and_self, List.length_cons, List.length_nil, mNoCut_, mCat_n, mCat_I, mCat_L, mCat_R, mIsL_n, mIsL_I, mIsL_R, mIsL_L, Nat.reduceAdd, Nat.reduceSub, Nat.reduceLeDiff, Nat.reduceLT, Nat.reduceEqDiff, Nat.zero_le, Int.reduceEq, Int.reduceLT, Int.reduceLE, Int.reduceNeg, Int.reduceAdd, if_true, if_false, reduceIte, reduceCtorEq, Bool.false_eq_true, ne_eq, qCmp_0, qCmp_1, qCmp_2, qCmp_3, qCmp_4, qCmp_5, ib_0, ib_1, ib_2, lb_0, lb_1, lb_2, dv_0, dv_1, wq_ic, wq_ld_i, wq_ld_a, wq_get, mGet_0, mGet_1, mGet_2, mGet_3, wq_astI, wq_astL, wq_ret0, wq_ret1, wq_ret2, wq_ret3, wq_ret4, ldI1, wq_callS1_1, ldI2, mrg_1_, mrg_9_, wq_callS3_1, ldI3, mrg_0_, mrg_100_, ldI4, mrg_50_, ldI5, ldR0, fk_10_0, fk_7_1, fk_6_1, fk_6_2, fk_6_3, fk_6_4, kX10_fielder_0, sk_0, al_0, rf_0_0, sk_10, al_10, sk_12, al_12, rf_12_1, sk_21, al_21, sn_21, rf_12_2, sk_22, al_22, sn_22, rf_12_3, sk_23, al_23, sn_23, rf_12_4, sk_24, al_24, sn_24, rf_10_1, SX10_fielder_0, SX10_fielder_1, shqI_, shqIII_, spX10_needFielder, spX10_needNumber, mrg, mrl, mSet_ap, ncast, Option.some.injEq]
  (try simp only [mrg, mrl] at *) <;> repeat' (first | (with_reducible assumption) | (with_reducible apply And.intro) | intro _)
  all_goals first | omega | exact h1 (by omega) | exact h2 (by omega) (by omega) | exact h3 (by omega) (by omega) | skip
theorem ctrX10_fielder {l : Launch} (hst : l.stackTraces = false) (hT : mTxM l) : mCtr l calX10_fielder spX10_fielder :=
  mMet0 (T := TX10_fielder) (S := SX10_fielder) hst hT (by decide) okX10_fielder ⟨_, _, rfl, rfl⟩ (fun a => match a with
    | 0 => ctrX10_needFielder hst hT
    | 1 => ctrX10_needNumber hst hT
    | _ + 2 => mCtr_no) vcX10_fielder

def spX10_stand : mSp := shRII (fun _ i f c I Q => i = some 0 ∧ mrg f ∧ mrg c ∧ (¬ fldP f → Q (.inr (mEx 0)) I) ∧ (fldP f → ¬ (-1 ≤ c ∧ c < 289) → Q (.inr (mEx 1)) I) ∧ (fldP f → (-1 ≤ c ∧ c < 289) → Q (.inl (some (mI (I 20 f)))) (mSet I 20 f c)))
def SX10_stand : Nat → mSp := fun a => match a with
  | 0 => spX10_needFielder
  | 1 => spX10_needNumber
  | _ => fun _ _ _ _ => False
theorem SX10_stand_0 : SX10_stand 0 = spX10_needFielder := Eq.trans rfl rfl
theorem SX10_stand_1 : SX10_stand 1 = spX10_needNumber := Eq.trans rfl rfl
set_option maxRecDepth 100000 in
set_option maxHeartbeats 1000000 in
theorem vcX10_stand (fl : Nat → Bool) (avs : List mV) (I : mM) (Q : mO → mM → Prop) (hsp : spX10_stand fl avs I Q) : mVC0 SX10_stand fl Q kX10_stand 4 avs I := by
  obtain ⟨i, f, c, rfl, h0⟩ := shRII_inv hsp
  refine ⟨rfl, ?_⟩
  show mWp _ _ _ _ _ _ kX10_stand_0 [some (mR i), some (mI f), some (mI c), none] [] I
  obtain ⟨rfl, hf, hc, h1, h2, h3⟩ := h0
  simp only [false_and, and_false, true_or, or_true, false_or, or_false, true_and, and_true, true_implies, false_implies, implies_true, not_true_eq_false, not_false_eq_true, and_self, List.length_cons, List.length_nil, mNoCut_, mCat_n, mCat_I, mCat_L, mCat_R, mIsL_n, mIsL_I, mIsL_R, mIsL_L, Nat.reduceAdd, Nat.reduceSub, Nat.reduceLeDiff, Nat.reduceLT, Nat.reduceEqDiff, Nat.zero_le, Int.reduceEq, Int.reduceLT, Int.reduceLE, Int.reduceNeg, Int.reduceAdd, if_true, if_false, reduceIte, reduceCtorEq, Bool.false_eq_true, ne_eq, qCmp_0, qCmp_1, qCmp_2, qCmp_3, qCmp_4, qCmp_5, ib_0, ib_1, ib_2, lb_0, lb_1, lb_2, dv_0, dv_1, wq_ic, wq_ld_i, wq_ld_a, wq_st_i, wq_get, mGet_0, mGet_1, mGet_2, mGet_3, wq_ald, wq_astI, wq_astL, wq_ret0, wq_ret1, wq_ret2, wq_ret3, wq_ret4, ldI1, wq_callS1_1, ldI2, mrg_m1_, mrg_288_, wq_callS3_1, ldR0, fk_10_0, fk_7_1, fk_6_0, stI3, ldI3, mPut_s, mPut_I0, mPut_R0, mPut_L0, mPut_I1, mPut_R1, mPut_L1, kX10_stand_0, sk_0, al_0, rf_0_0, sk_10, al_10, sk_12, al_12, rf_12_0, sk_20, al_20, sn_20, rf_10_1, ald_n, ro0_n, al_ro, SX10_stand_0, SX10_stand_1, shqI_, shqIII_, spX10_needFielder, spX10_needNumber, mrg, mrl, mSet_ap, ncast, Option.some.injEq]
  (try simp only [mrg, mrl] at *) <;> repeat' (first | (with_reducible assumption) | (with_reducible apply And.intro) | intro _)
  all_goals first | omega | exact h1 (by omega) | exact h2 (by omega) (by omega) | exact h3 (by omega) (by omega) | skip
theorem ctrX10_stand {l : Launch} (hst : l.stackTraces = false) (hT : mTxM l) : mCtr l calX10_stand spX10_stand :=
  mMet0 (T := TX10_stand) (S := SX10_stand) hst hT (by decide) okX10_stand ⟨_, _, rfl, rfl⟩ (fun a => match a with
    | 0 => ctrX10_needFielder hst hT
    | 1 => ctrX10_needNumber hst hT
    | _ + 2 => mCtr_no) vcX10_stand

def spX10_of : mSp := shRII (fun _ i f w I Q => i = some 0 ∧ clsI I ∧ mrg f ∧ mrg w ∧ (¬ fldP f → Q (.inr (mEx 0)) I) ∧ (fldP f → ¬ (0 ≤ w ∧ w ≤ 4) → Q (.inr (mEx 1)) I) ∧ (fldP f → (0 ≤ w ∧ w ≤ 4) → Q (.inl (some (mI (I 201 (550 + 5 * f + w))))) I))
def SX10_of : Nat → mSp := fun a => match a with
  | 0 => spX10_needFielder
  | _ => fun _ _ _ _ => False
theorem SX10_of_0 : SX10_of 0 = spX10_needFielder := Eq.trans rfl rfl
set_option maxRecDepth 100000 in
set_option maxHeartbeats 1000000 in
theorem vcX10_of (fl : Nat → Bool) (avs : List mV) (I : mM) (Q : mO → mM → Prop) (hsp : spX10_of fl avs I Q) : mVC0 SX10_of fl Q kX10_of 3 avs I := by
  obtain ⟨i, f, w, rfl, h0⟩ := shRII_inv hsp
  refine ⟨rfl, ?_⟩
  show mWp _ _ _ _ _ _ kX10_of_0 [some (mR i), some (mI f), some (mI w)] [] I
  obtain ⟨rfl, H, hf, hw, h1, h2, h3⟩ := h0
  simp only [false_and, and_false, true_or, or_true, false_or, or_false, true_and, and_true, true_implies, false_implies, implies_true, not_true_eq_false, not_false_eq_true, and_self, List.length_cons, List.length_nil, mNoCut_, mCat_n, mCat_I, mCat_L, mCat_R, mIsL_n, mIsL_I, mIsL_R, mIsL_L, Nat.reduceAdd, Nat.reduceSub, Nat.reduceLeDiff, Nat.reduceLT, Nat.reduceEqDiff, Nat.zero_le, Int.reduceEq, Int.reduceLT, Int.reduceLE, Int.reduceNeg, Int.reduceAdd, if_true, if_false, reduceIte, reduceCtorEq, Bool.false_eq_true, ne_eq, qCmp_0, qCmp_1, qCmp_2, qCmp_3, qCmp_4, qCmp_5, ib_0, ib_1, ib_2, lb_0, lb_1, lb_2, dv_0, dv_1, wq_ld_i, wq_ld_a, wq_get, mGet_0, mGet_1, mGet_2, mGet_3, wq_ald, wq_ret0, wq_ret1, wq_ret2, wq_ret3, wq_ret4, wq_sw, wqsw_n, wqsw_c, wq_thr, ldI1, wq_callS1_1, ldI2, ldR0, fk_10_0, fk_7_1, fk_6_0, fk_6_1, fk_6_2, fk_6_3, fk_6_4, mGo_n, sfxX10_of_40, cutX10_of_40, sfxX10_of_53, cutX10_of_53, sfxX10_of_66, cutX10_of_66, sfxX10_of_79, cutX10_of_79, sfxX10_of_92, cutX10_of_92, sfxX10_of_105, cutX10_of_105, kX10_of_105, kX10_of_92, kX10_of_79, kX10_of_66, kX10_of_53, kX10_of_40, kX10_of_0, sk_0, al_0, rf_0_0, sk_10, al_10, sk_12, al_12, rf_12_0, sk_20, al_20, sn_20, rf_12_1, sk_21, al_21, sn_21, rf_12_2, sk_22, al_22, sn_22, rf_12_3, sk_23, al_23, sn_23, rf_12_4, sk_24, al_24, sn_24, rf_10_1, ald_n, ro0_n, al_ro, SX10_of_0, shqI_, spX10_needFielder, mrg, mrl, mSet_ap, ncast, Option.some.injEq]
  refine ⟨hf, fun z => ?_, h1⟩
  have q := H.2.2.1.1 f z.1 z.2
  have q0 : I 20 f = stT (I 201) f := q.1
  have q1 : I 21 f = pcT (I 201) f := q.2.1
  have q2 : I 22 f = hdT (I 201) f := q.2.2.1
  have q3 : I 23 f = prT (I 201) f := q.2.2.2.1
  have q4 : I 24 f = amT (I 201) f := q.2.2.2.2
  have g0 : w = 0 → Q (.inl (some (mI (stT (I 201) f)))) I := fun e => q_I (by subst e; unfold stT; congr 1; omega) (h3 z (by omega))
  have g1 : w = 1 → Q (.inl (some (mI (pcT (I 201) f)))) I := fun e => q_I (by subst e; rfl) (h3 z (by omega))
  have g2 : w = 2 → Q (.inl (some (mI (hdT (I 201) f)))) I := fun e => q_I (by subst e; rfl) (h3 z (by omega))
  have g3 : w = 3 → Q (.inl (some (mI (prT (I 201) f)))) I := fun e => q_I (by subst e; rfl) (h3 z (by omega))
  have g4 : w = 4 → Q (.inl (some (mI (amT (I 201) f)))) I := fun e => q_I (by subst e; rfl) (h3 z (by omega))
  clear h1 h3
  simp only [q0, q1, q2, q3, q4]
  (try simp only [mrg, mrl] at *) <;> repeat' (first | (with_reducible assumption) | (with_reducible apply And.intro) | intro _)
  all_goals first | omega | exact g0 (by omega) | exact g1 (by omega) | exact g2 (by omega) | exact g3 (by omega) | exact g4 (by omega) | exact h2 z (by omega) | skip
theorem ctrX10_of {l : Launch} (hst : l.stackTraces = false) (hT : mTxM l) : mCtr l calX10_of spX10_of :=
  mMet0 (T := TX10_of) (S := SX10_of) hst hT (by decide) okX10_of ⟨_, _, rfl, rfl⟩ (fun a => match a with
    | 0 => ctrX10_needFielder hst hT
    | _ + 1 => mCtr_no) vcX10_of

def spX10_judge : mSp := shR (fun _ i I Q => i = some 0 ∧ clsI I ∧ Q (.inl (some (mI (judgeT (I 201))))) I)
def SX10_judge : Nat → mSp := fun a => match a with
  | 0 => spX9_verdict
  | _ => fun _ _ _ _ => False
theorem SX10_judge_0 : SX10_judge 0 = spX9_verdict := Eq.trans rfl rfl
set_option maxRecDepth 100000 in
set_option maxHeartbeats 1000000 in
theorem vcX10_judge (fl : Nat → Bool) (avs : List mV) (I : mM) (Q : mO → mM → Prop) (hsp : spX10_judge fl avs I Q) : mVC0 SX10_judge fl Q kX10_judge 1 avs I := by
  obtain ⟨i, rfl, h0⟩ := shR_inv hsp
  refine ⟨rfl, ?_⟩
  show mWp _ _ _ _ _ _ kX10_judge_0 [some (mR i)] [] I
  obtain ⟨rfl, H, h⟩ := h0
  have e1 := H.2.1.1 1 (by omega) (by omega)
  have e4 := H.2.1.1 4 (by omega) (by omega)
  have e5 := H.2.1.1 5 (by omega) (by omega)
  have h0 := H.1.1
  have v := verd_eq (st := I 20) H.1 H.2.1.1
  rw [H.s20] at v
  simp only [false_and, and_false, true_or, or_true, false_or, or_false, true_and, and_true, true_implies, false_implies, implies_true, not_true_eq_false, not_false_eq_true, and_self, List.length_cons, List.length_nil, mNoCut_, mCat_n, mCat_I, mCat_L, mCat_R, mIsL_n, mIsL_I, mIsL_R, mIsL_L, Nat.reduceAdd, Nat.reduceSub, Nat.reduceLeDiff, Nat.reduceLT, Nat.reduceEqDiff, Nat.zero_le, Int.reduceEq, Int.reduceLT, Int.reduceLE, Int.reduceNeg, Int.reduceAdd, if_true, if_false, reduceIte, reduceCtorEq, Bool.false_eq_true, ne_eq, qCmp_0, qCmp_1, qCmp_2, qCmp_3, qCmp_4, qCmp_5, ib_0, ib_1, ib_2, lb_0, lb_1, lb_2, dv_0, dv_1, wq_ld_a, wq_get, mGet_0, mGet_1, mGet_2, mGet_3, wq_ret0, wq_ret1, wq_ret2, wq_ret3, wq_ret4, ldR0, fk_10_5, fk_10_0, fk_7_1, fk_6_0, wq_callV2_0, kX10_judge_0, sk_0, al_0, rf_0_5, sk_130, al_130, rf_0_0, sk_10, al_10, sk_12, al_12, rf_12_0, sk_20, al_20, sn_20, rf_10_1, SX10_judge_0, shqRR_, spX9_verdict, mrg, mrl, mSet_ap, ncast, Option.some.injEq, Option.getD_some]
  exact ⟨Or.inr (Or.inl rfl), ⟨by omega, by omega⟩, ⟨by omega, by omega⟩, ⟨by omega, by omega⟩, H.b20, q_I v.symm h⟩
theorem ctrX10_judge {l : Launch} (hst : l.stackTraces = false) (hT : mTxM l) : mCtr l calX10_judge spX10_judge :=
  mMet0 (T := TX10_judge) (S := SX10_judge) hst hT (by decide) okX10_judge ⟨_, _, rfl, rfl⟩ (fun a => match a with
    | 0 => ctrX9_verdict hst hT
    | _ + 1 => mCtr_no) vcX10_judge

def spX10_batter : mSp := shRII (fun _ i k s I Q => i = some 0 ∧ mrg k ∧ mrg s ∧ (¬ ((0 ≤ k ∧ k ≤ 4) ∧ (0 ≤ s ∧ s ≤ 100)) → Q (.inr (mEx 1)) I) ∧ (((0 ≤ k ∧ k ≤ 4) ∧ (0 ≤ s ∧ s ≤ 100)) → Q (.inl none) (mSet (mSet I 13 0 k) 13 1 s)))
def SX10_batter : Nat → mSp := fun a => match a with
  | 0 => spX10_needNumber
  | _ => fun _ _ _ _ => False
theorem SX10_batter_0 : SX10_batter 0 = spX10_needNumber := Eq.trans rfl rfl
set_option maxRecDepth 100000 in
set_option maxHeartbeats 1000000 in
theorem vcX10_batter (fl : Nat → Bool) (avs : List mV) (I : mM) (Q : mO → mM → Prop) (hsp : spX10_batter fl avs I Q) : mVC0 SX10_batter fl Q kX10_batter 3 avs I := by
  obtain ⟨i, k, s, rfl, h0⟩ := shRII_inv hsp
  refine ⟨rfl, ?_⟩
  show mWp _ _ _ _ _ _ kX10_batter_0 [some (mR i), some (mI k), some (mI s)] [] I
  obtain ⟨rfl, hk, hs, h1, h2⟩ := h0
  simp only [false_and, and_false, true_or, or_true, false_or, or_false, true_and, and_true, true_implies, false_implies, implies_true, not_true_eq_false, not_false_eq_true, and_self, List.length_cons, List.length_nil, mNoCut_, mCat_n, mCat_I, mCat_L, mCat_R, mIsL_n, mIsL_I, mIsL_R, mIsL_L, Nat.reduceAdd, Nat.reduceSub, Nat.reduceLeDiff, Nat.reduceLT, Nat.reduceEqDiff, Nat.zero_le, Int.reduceEq, Int.reduceLT, Int.reduceLE, Int.reduceNeg, Int.reduceAdd, if_true, if_false, reduceIte, reduceCtorEq, Bool.false_eq_true, ne_eq, qCmp_0, qCmp_1, qCmp_2, qCmp_3, qCmp_4, qCmp_5, ib_0, ib_1, ib_2, lb_0, lb_1, lb_2, dv_0, dv_1, wq_ic, wq_ld_i, wq_ld_a, wq_get, mGet_0, mGet_1, mGet_2, mGet_3, wq_putI, wq_putL, wq_ret0, wq_ret1, wq_ret2, wq_ret3, wq_ret4, ldI1, mrg_0_, mrg_4_, wq_callS3_1, ldI2, mrg_100_, ldR0, fk_10_0, fk_7_2, fk_1_0, fk_1_1, kX10_batter_0, sk_13, al_13, sk_0, al_0, rf_0_0, sk_10, al_10, rf_10_2, SX10_batter_0, shqIII_, spX10_needNumber, mrg, mrl, mSet_ap, ncast, Option.some.injEq]
  (try simp only [mrg, mrl] at *) <;> repeat' (first | (with_reducible assumption) | (with_reducible apply And.intro) | intro _)
  all_goals first | omega | exact h1 (by omega) | exact h2 (by omega) | skip
theorem ctrX10_batter {l : Launch} (hst : l.stackTraces = false) (hT : mTxM l) : mCtr l calX10_batter spX10_batter :=
  mMet0 (T := TX10_batter) (S := SX10_batter) hst hT (by decide) okX10_batter ⟨_, _, rfl, rfl⟩ (fun a => match a with
    | 0 => ctrX10_needNumber hst hT
    | _ + 1 => mCtr_no) vcX10_batter

end SPC8
