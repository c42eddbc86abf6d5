section SPM12
abbrev hitP (t : Int → Int) (b h : Int) : Prop := 0 ≤ b ∧ b < 6 ∧ 0 ≤ h ∧ h < t (13 + b)
abbrev ballP (b : Int) : Prop := 0 ≤ b ∧ b < 6
abbrev fldP (f : Int) : Prop := 0 ≤ f ∧ f < 9
def spX11_isHit : mSp := shRII (fun _ i b h I Q => i = some 200 ∧ WFt (I 201) ∧ mrg b ∧ mrg h ∧ (hitP (I 201) b h → Q (.inl (some (mI 1))) I) ∧ (¬ hitP (I 201) b h → Q (.inl (some (mI 0))) I))
def SX11_isHit : Nat → mSp := fun a => match a with
  | 0 => spX11_isBall
  | 1 => spX11_within
  | _ => fun _ _ _ _ => False
theorem SX11_isHit_0 : SX11_isHit 0 = spX11_isBall := Eq.trans rfl rfl
theorem SX11_isHit_1 : SX11_isHit 1 = spX11_within := Eq.trans rfl rfl
set_option maxRecDepth 100000 in
set_option maxHeartbeats 4000000 in
theorem vcX11_isHit (fl : Nat → Bool) (avs : List mV) (I : mM) (Q : mO → mM → Prop) (hsp : spX11_isHit fl avs I Q) : mVC0 SX11_isHit fl Q kX11_isHit 3 avs I := by
  obtain ⟨i, b, hh, rfl, h0⟩ := shRII_inv hsp
  refine ⟨rfl, ?_⟩
  show mWp _ _ _ _ _ _ kX11_isHit_0 [some (mR i), some (mI b), some (mI hh)] [] I
  obtain ⟨rfl, H, hb, hh1, h1, h2⟩ := h0
  have hn := fun hb : 0 ≤ b ∧ b < 6 => H.2.1 b hb.1 hb.2
  simp only [true_or, or_true, false_or, or_false, true_and, and_true, true_implies, false_implies, implies_true, not_true_eq_false, not_false_eq_true, and_self, List.length_cons, List.length_nil, mNoCut_, mCat_n, mCat_I, mCat_L, mCat_R, mIsL_n, mIsL_I, mIsL_R, mIsL_L, Nat.reduceAdd, Nat.reduceSub, Nat.reduceLeDiff, Nat.reduceLT, Nat.reduceEqDiff, Nat.zero_le, Int.reduceEq, Int.reduceLT, Int.reduceLE, Int.reduceNeg, Int.reduceAdd, if_true, if_false, reduceIte, reduceCtorEq, Bool.false_eq_true, ne_eq, qCmp_0, qCmp_1, qCmp_2, qCmp_3, qCmp_4, qCmp_5, ib_0, ib_1, ib_2, lb_0, lb_1, lb_2, dv_0, dv_1, wq_ic, wq_lc, wq_ld_i, wq_ld_a, wq_ib, wq_i2l, wq_if, wq_goto, wq_get, mGet_0, mGet_1, mGet_2, mGet_3, wq_ald, wq_ret0, wq_ret1, wq_ret2, wq_ret3, wq_ret4, ldI1, wq_callS1_1, ldI2, ldR0, fk_11_0, mrg_13_, mrg_1_, wq_callS3_1, mrg_0_, mGo_n, sfxX11_isHit_32, cutX11_isHit_32, sfxX11_isHit_33, cutX11_isHit_33, kX11_isHit_33, kX11_isHit_32, kX11_isHit_0, sk_200, al_200, rf_200_0, sk_201, al_201, sn_201, ald_n, ro0_n, al_ro, SX11_isHit_0, SX11_isHit_1, shqI_, shqLLL_, spX11_isBall, spX11_within, mrg, mrl, mSet_ap, ncast, Option.some.injEq]
  (try simp only [mrg, mrl] at *) <;> repeat' (first | assumption | (with_reducible apply And.intro) | intro _)
  all_goals first | exact h1 (by omega) | exact h2 (by omega) | omega
theorem ctrX11_isHit {l : Launch} (hst : l.stackTraces = false) (hT : mTxM l) : mCtr l calX11_isHit spX11_isHit :=
  mMet0 (T := TX11_isHit) (S := SX11_isHit) hst hT (by decide) okX11_isHit ⟨_, _, rfl, rfl⟩ (fun a => match a with
    | 0 => ctrX11_isBall hst hT
    | 1 => ctrX11_within hst hT
    | _ + 2 => mCtr_no) vcX11_isHit

def spX11_hits : mSp := shRI (fun _ i b I Q => i = some 200 ∧ WFt (I 201) ∧ mrg b ∧ (¬ ballP b → Q (.inl (some (mI 0))) (mSet I 200 3 1)) ∧ (ballP b → Q (.inl (some (mI (I 201 (13 + b))))) (mSet I 200 3 0)))
def SX11_hits : Nat → mSp := fun a => match a with
  | 0 => spX11_isBall
  | 1 => spX11_fails
  | _ => fun _ _ _ _ => False
theorem SX11_hits_0 : SX11_hits 0 = spX11_isBall := Eq.trans rfl rfl
theorem SX11_hits_1 : SX11_hits 1 = spX11_fails := Eq.trans rfl rfl
set_option maxRecDepth 100000 in
set_option maxHeartbeats 4000000 in
theorem vcX11_hits (fl : Nat → Bool) (avs : List mV) (I : mM) (Q : mO → mM → Prop) (hsp : spX11_hits fl avs I Q) : mVC0 SX11_hits fl Q kX11_hits 2 avs I := by
  obtain ⟨i, b, rfl, h0⟩ := shRI_inv hsp
  refine ⟨rfl, ?_⟩
  show mWp _ _ _ _ _ _ kX11_hits_0 [some (mR i), some (mI b)] [] I
  obtain ⟨rfl, H, hb, h1, h2⟩ := h0
  simp only [true_or, or_true, false_or, or_false, true_and, and_true, true_implies, false_implies, implies_true, not_true_eq_false, not_false_eq_true, and_self, List.length_cons, List.length_nil, mNoCut_, mCat_n, mCat_I, mCat_L, mCat_R, mIsL_n, mIsL_I, mIsL_R, mIsL_L, Nat.reduceAdd, Nat.reduceSub, Nat.reduceLeDiff, Nat.reduceLT, Nat.reduceEqDiff, Nat.zero_le, Int.reduceEq, Int.reduceLT, Int.reduceLE, Int.reduceNeg, Int.reduceAdd, if_true, if_false, reduceIte, reduceCtorEq, Bool.false_eq_true, ne_eq, qCmp_0, qCmp_1, qCmp_2, qCmp_3, qCmp_4, qCmp_5, ib_0, ib_1, ib_2, lb_0, lb_1, lb_2, dv_0, dv_1, wq_ic, wq_ld_i, wq_ld_a, wq_ib, wq_if, wq_goto, wq_get, mGet_0, mGet_1, mGet_2, mGet_3, wq_putI, wq_putL, wq_ald, wq_ret0, wq_ret1, wq_ret2, wq_ret3, wq_ret4, ldR0, mrg_0_, fk_11_3, ldI1, wq_callS1_1, fk_11_0, mrg_13_, mrg_1_, wq_callV2_0, mGo_n, sfxX11_hits_24, cutX11_hits_24, sfxX11_hits_29, cutX11_hits_29, kX11_hits_29, kX11_hits_24, kX11_hits_0, sk_200, al_200, rf_200_0, sk_201, al_201, sn_201, ald_n, ro0_n, al_ro, SX11_hits_0, SX11_hits_1, shqI_, shqRI_, spX11_isBall, spX11_fails, mrg, mrl, mSet_ap, ncast, Option.some.injEq, set_201, set_over1]
  (try simp only [mrg, mrl] at *) <;> repeat' (first | assumption | (with_reducible apply And.intro) | intro _)
  all_goals first | exact h1 (by omega) | exact h2 (by omega) | omega
theorem ctrX11_hits {l : Launch} (hst : l.stackTraces = false) (hT : mTxM l) : mCtr l calX11_hits spX11_hits :=
  mMet0 (T := TX11_hits) (S := SX11_hits) hst hT (by decide) okX11_hits ⟨_, _, rfl, rfl⟩ (fun a => match a with
    | 0 => ctrX11_isBall hst hT
    | 1 => ctrX11_fails hst hT
    | _ + 2 => mCtr_no) vcX11_hits

def spX11_hit : mSp := shRIII (fun _ i b h w I Q => i = some 200 ∧ WFt (I 201) ∧ mrg b ∧ mrg h ∧ mrg w ∧ (¬ hitP (I 201) b h → Q (.inl (some (mI 0))) (mSet I 200 3 1)) ∧ (hitP (I 201) b h → ¬ (0 ≤ w ∧ w ≤ 5) → Q (.inl (some (mI 0))) (mSet I 200 3 2)) ∧ (hitP (I 201) b h → w = 0 → Q (.inl (some (mI (wayT (I 201) b h)))) (mSet I 200 3 0)) ∧ (hitP (I 201) b h → w = 1 → Q (.inl (some (mI (rawT (I 201) b h 1)))) (mSet I 200 3 0)) ∧ (hitP (I 201) b h → w = 2 → Q (.inl (some (mI (airT (I 201) b h)))) (mSet I 200 3 0)) ∧ (hitP (I 201) b h → w = 3 → Q (.inl (some (mI (rawT (I 201) b h 3)))) (mSet I 200 3 0)) ∧ (hitP (I 201) b h → w = 4 → Q (.inl (some (mI (stepsT (I 201) b h)))) (mSet I 200 3 0)) ∧ (hitP (I 201) b h → w = 5 → Q (.inl (some (mI (rawT (I 201) b h 4)))) (mSet I 200 3 0)))
def SX11_hit : Nat → mSp := fun a => match a with
  | 0 => spX11_isHit
  | 1 => spX11_fails
  | 2 => spX11_within
  | 3 => spX11_wayOf
  | 4 => spX11_airOf
  | 5 => spX11_stepsOf
  | 6 => spX11_raw
  | _ => fun _ _ _ _ => False
theorem SX11_hit_0 : SX11_hit 0 = spX11_isHit := Eq.trans rfl rfl
theorem SX11_hit_1 : SX11_hit 1 = spX11_fails := Eq.trans rfl rfl
theorem SX11_hit_2 : SX11_hit 2 = spX11_within := Eq.trans rfl rfl
theorem SX11_hit_3 : SX11_hit 3 = spX11_wayOf := Eq.trans rfl rfl
theorem SX11_hit_4 : SX11_hit 4 = spX11_airOf := Eq.trans rfl rfl
theorem SX11_hit_5 : SX11_hit 5 = spX11_stepsOf := Eq.trans rfl rfl
theorem SX11_hit_6 : SX11_hit 6 = spX11_raw := Eq.trans rfl rfl
set_option maxRecDepth 100000 in
set_option maxHeartbeats 4000000 in
theorem vcX11_hit (fl : Nat → Bool) (avs : List mV) (I : mM) (Q : mO → mM → Prop) (hsp : spX11_hit fl avs I Q) : mVC0 SX11_hit fl Q kX11_hit 4 avs I := by
  obtain ⟨i, b, hh, w, rfl, h0⟩ := shRIII_inv hsp
  refine ⟨rfl, ?_⟩
  show mWp _ _ _ _ _ _ kX11_hit_0 [some (mR i), some (mI b), some (mI hh), some (mI w)] [] I
  obtain ⟨rfl, H, hb, hh1, hw, h1, h2, e0, e1, e2, e3, e4, e5⟩ := h0
  have hn := fun hb : 0 ≤ b ∧ b < 6 => H.2.1 b hb.1 hb.2
  simp only [true_or, or_true, false_or, or_false, true_and, and_true, true_implies, false_implies, implies_true, not_true_eq_false, not_false_eq_true, and_self, List.length_cons, List.length_nil, mNoCut_, mCat_n, mCat_I, mCat_L, mCat_R, mIsL_n, mIsL_I, mIsL_R, mIsL_L, Nat.reduceAdd, Nat.reduceSub, Nat.reduceLeDiff, Nat.reduceLT, Nat.reduceEqDiff, Nat.zero_le, Int.reduceEq, Int.reduceLT, Int.reduceLE, Int.reduceNeg, Int.reduceAdd, if_true, if_false, reduceIte, reduceCtorEq, Bool.false_eq_true, ne_eq, qCmp_0, qCmp_1, qCmp_2, qCmp_3, qCmp_4, qCmp_5, ib_0, ib_1, ib_2, lb_0, lb_1, lb_2, dv_0, dv_1, wq_ic, wq_lc, wq_ld_i, wq_ld_a, wq_i2l, wq_icmp, wq_if, wq_goto, wq_putI, wq_putL, wq_ret0, wq_ret1, wq_ret2, wq_ret3, wq_ret4, ldR0, mrg_0_, fk_11_3, ldI1, ldI2, wq_callV3_0, mrg_1_, wq_callV2_0, ldI3, wq_callS3_1, mrg_2_, mrg_4_, mrg_5_, wq_callV4_0, mGo_n, sfxX11_hit_20, cutX11_hit_20, sfxX11_hit_38, cutX11_hit_38, sfxX11_hit_51, cutX11_hit_51, sfxX11_hit_65, cutX11_hit_65, sfxX11_hit_79, cutX11_hit_79, sfxX11_hit_94, cutX11_hit_94, sfxX11_hit_101, cutX11_hit_101, kX11_hit_101, kX11_hit_94, kX11_hit_79, kX11_hit_65, kX11_hit_51, kX11_hit_38, kX11_hit_20, kX11_hit_0, sk_200, al_200, SX11_hit_0, SX11_hit_1, SX11_hit_2, SX11_hit_3, SX11_hit_4, SX11_hit_5, SX11_hit_6, shqRII_, shqRI_, shqLLL_, shqRIII_, spX11_isHit, spX11_fails, spX11_within, spX11_wayOf, spX11_airOf, spX11_stepsOf, spX11_raw, mrg, mrl, mSet_ap, ncast, Option.some.injEq, set_201, set_over1]
  (try simp only [mrg, mrl] at *) <;> repeat' (first | assumption | (with_reducible apply And.intro) | intro _)
  all_goals first | omega | exact h1 (by omega) | exact h2 (by omega) (by omega) | exact e0 (by omega) (by omega) | exact e2 (by omega) (by omega) | exact e4 (by omega) (by omega) | exact e5 (by omega) (by omega) | (have e : w = 1 ∨ w = 3 := by omega) <;> rcases e with rfl | rfl <;> first | exact e1 (by omega) rfl | exact e3 (by omega) rfl
theorem ctrX11_hit {l : Launch} (hst : l.stackTraces = false) (hT : mTxM l) : mCtr l calX11_hit spX11_hit :=
  mMet0 (T := TX11_hit) (S := SX11_hit) hst hT (by decide) okX11_hit ⟨_, _, rfl, rfl⟩ (fun a => match a with
    | 0 => ctrX11_isHit hst hT
    | 1 => ctrX11_fails hst hT
    | 2 => ctrX11_within hst hT
    | 3 => ctrX11_wayOf hst hT
    | 4 => ctrX11_airOf hst hT
    | 5 => ctrX11_stepsOf hst hT
    | 6 => ctrX11_raw hst hT
    | _ + 7 => mCtr_no) vcX11_hit

def spX11_tick : mSp := shRIII (fun _ i b h k I Q => i = some 200 ∧ WFt (I 201) ∧ mrg b ∧ mrg h ∧ mrg k ∧ (¬ hitP (I 201) b h → Q (.inl (some (mI 0))) (mSet I 200 3 1)) ∧ (hitP (I 201) b h → ¬ (1 ≤ k ∧ k ≤ stepsT (I 201) b h) → Q (.inl (some (mI 0))) (mSet I 200 3 2)) ∧ (hitP (I 201) b h → (1 ≤ k ∧ k ≤ stepsT (I 201) b h) → Q (.inl (some (mI (tickT (I 201) b h k)))) (mSet I 200 3 0)))
def SX11_tick : Nat → mSp := fun a => match a with
  | 0 => spX11_isHit
  | 1 => spX11_fails
  | 2 => spX11_stepsOf
  | 3 => spX11_within
  | 4 => spX11_tickAt
  | _ => fun _ _ _ _ => False
theorem SX11_tick_0 : SX11_tick 0 = spX11_isHit := Eq.trans rfl rfl
theorem SX11_tick_1 : SX11_tick 1 = spX11_fails := Eq.trans rfl rfl
theorem SX11_tick_2 : SX11_tick 2 = spX11_stepsOf := Eq.trans rfl rfl
theorem SX11_tick_3 : SX11_tick 3 = spX11_within := Eq.trans rfl rfl
theorem SX11_tick_4 : SX11_tick 4 = spX11_tickAt := Eq.trans rfl rfl
set_option maxRecDepth 100000 in
set_option maxHeartbeats 4000000 in
theorem vcX11_tick (fl : Nat → Bool) (avs : List mV) (I : mM) (Q : mO → mM → Prop) (hsp : spX11_tick fl avs I Q) : mVC0 SX11_tick fl Q kX11_tick 4 avs I := by
  obtain ⟨i, b, hh, k, rfl, h0⟩ := shRIII_inv hsp
  refine ⟨rfl, ?_⟩
  show mWp _ _ _ _ _ _ kX11_tick_0 [some (mR i), some (mI b), some (mI hh), some (mI k)] [] I
  obtain ⟨rfl, H, hb, hh1, hw, h1, h2, h3⟩ := h0
  have hn := fun hb : 0 ≤ b ∧ b < 6 => H.2.1 b hb.1 hb.2
  have hs := fun z : hitP (I 201) b hh => (steps_spec H (b := b) (h := hh) ⟨z.1, z.2.1⟩ (by omega)).1
  simp only [true_or, or_true, false_or, or_false, true_and, and_true, true_implies, false_implies, implies_true, not_true_eq_false, not_false_eq_true, and_self, List.length_cons, List.length_nil, mNoCut_, mCat_n, mCat_I, mCat_L, mCat_R, mIsL_n, mIsL_I, mIsL_R, mIsL_L, Nat.reduceAdd, Nat.reduceSub, Nat.reduceLeDiff, Nat.reduceLT, Nat.reduceEqDiff, Nat.zero_le, Int.reduceEq, Int.reduceLT, Int.reduceLE, Int.reduceNeg, Int.reduceAdd, if_true, if_false, reduceIte, reduceCtorEq, Bool.false_eq_true, ne_eq, qCmp_0, qCmp_1, qCmp_2, qCmp_3, qCmp_4, qCmp_5, ib_0, ib_1, ib_2, lb_0, lb_1, lb_2, dv_0, dv_1, wq_ic, wq_lc, wq_ld_i, wq_ld_a, wq_i2l, wq_if, wq_goto, wq_putI, wq_putL, wq_ret0, wq_ret1, wq_ret2, wq_ret3, wq_ret4, ldR0, mrg_0_, fk_11_3, ldI1, ldI2, wq_callV3_0, mrg_1_, wq_callV2_0, ldI3, wq_callS3_1, wq_callV4_0, mrg_2_, mGo_n, sfxX11_tick_20, cutX11_tick_20, sfxX11_tick_46, cutX11_tick_46, sfxX11_tick_51, cutX11_tick_51, kX11_tick_51, kX11_tick_46, kX11_tick_20, kX11_tick_0, sk_200, al_200, SX11_tick_0, SX11_tick_1, SX11_tick_2, SX11_tick_3, SX11_tick_4, shqRII_, shqRI_, shqLLL_, shqRIII_, spX11_isHit, spX11_fails, spX11_stepsOf, spX11_within, spX11_tickAt, mrg, mrl, mSet_ap, ncast, Option.some.injEq, set_201, set_over1]
  (try simp only [mrg, mrl] at *) <;> repeat' (first | assumption | (with_reducible apply And.intro) | intro _)
  all_goals first | omega | exact h1 (by omega) | exact h2 (by omega) (by omega) | exact h3 (by omega) (by omega)
theorem ctrX11_tick {l : Launch} (hst : l.stackTraces = false) (hT : mTxM l) : mCtr l calX11_tick spX11_tick :=
  mMet0 (T := TX11_tick) (S := SX11_tick) hst hT (by decide) okX11_tick ⟨_, _, rfl, rfl⟩ (fun a => match a with
    | 0 => ctrX11_isHit hst hT
    | 1 => ctrX11_fails hst hT
    | 2 => ctrX11_stepsOf hst hT
    | 3 => ctrX11_within hst hT
    | 4 => ctrX11_tickAt hst hT
    | _ + 5 => mCtr_no) vcX11_tick

def spX11_fielder : mSp := shRIIIII (fun _ i f p a r m I Q => i = some 200 ∧ mrg f ∧ mrg p ∧ mrg a ∧ mrg r ∧ mrg m ∧ (¬ fldP f → Q (.inl none) (mSet I 200 3 1)) ∧ (fldP f → ¬ ((1 ≤ p ∧ p ≤ 9) ∧ (0 ≤ a ∧ a ≤ 100) ∧ (0 ≤ r ∧ r ≤ 50) ∧ (0 ≤ m ∧ m ≤ 9)) → Q (.inl none) (mSet I 200 3 2)) ∧ (fldP f → ((1 ≤ p ∧ p ≤ 9) ∧ (0 ≤ a ∧ a ≤ 100) ∧ (0 ≤ r ∧ r ≤ 50) ∧ (0 ≤ m ∧ m ≤ 9)) → Q (.inl none) (mSet (mSet (mSet (mSet (mSet I 200 3 0) 201 (550 + 5 * f + 1) p) 201 (550 + 5 * f + 2) a) 201 (550 + 5 * f + 3) r) 201 (550 + 5 * f + 4) m)))
def SX11_fielder : Nat → mSp := fun a => match a with
  | 0 => spX11_isFielder
  | 1 => spX11_within
  | _ => fun _ _ _ _ => False
theorem SX11_fielder_0 : SX11_fielder 0 = spX11_isFielder := Eq.trans rfl rfl
theorem SX11_fielder_1 : SX11_fielder 1 = spX11_within := Eq.trans rfl rfl
set_option maxRecDepth 100000 in
set_option maxHeartbeats 4000000 in
theorem vcX11_fielder (fl : Nat → Bool) (avs : List mV) (I : mM) (Q : mO → mM → Prop) (hsp : spX11_fielder fl avs I Q) : mVC0 SX11_fielder fl Q kX11_fielder 6 avs I := by
  obtain ⟨i, f, p, a, r, m, rfl, h0⟩ := shRIIIII_inv hsp
  refine ⟨rfl, ?_⟩
  show mWp _ _ _ _ _ _ kX11_fielder_0 [some (mR i), some (mI f), some (mI p), some (mI a), some (mI r), some (mI m)] [] I
  obtain ⟨rfl, hf, hp, ha, hr, hm, h1, h2, h3⟩ := h0
  simp only [true_or, or_true, false_or, or_false, true_and, and_true, true_implies, false_implies, implies_true, not_true_eq_false, not_false_eq_true, and_self, List.length_cons, List.length_nil, mNoCut_, mCat_n, mCat_I, mCat_L, mCat_R, mIsL_n, mIsL_I, mIsL_R, mIsL_L, Nat.reduceAdd, Nat.reduceSub, Nat.reduceLeDiff, Nat.reduceLT, Nat.reduceEqDiff, Nat.zero_le, Int.reduceEq, Int.reduceLT, Int.reduceLE, Int.reduceNeg, Int.reduceAdd, if_true, if_false, reduceIte, reduceCtorEq, Bool.false_eq_true, ne_eq, qCmp_0, qCmp_1, qCmp_2, qCmp_3, qCmp_4, qCmp_5, ib_0, ib_1, ib_2, lb_0, lb_1, lb_2, dv_0, dv_1, wq_ic, wq_lc, wq_ld_i, wq_ld_a, wq_ib, wq_i2l, wq_if, wq_goto, wq_get, mGet_0, mGet_1, mGet_2, mGet_3, wq_putI, wq_putL, wq_astI, wq_astL, wq_ret0, wq_ret1, wq_ret2, wq_ret3, wq_ret4, ldR0, ldI1, wq_callS1_1, mrg_1_, ldI2, wq_callS3_1, ldI3, ldI4, ldI5, mrg_0_, mrg_2_, fk_11_3, fk_11_0, mrg_550_, mrg_5_, mrg_3_, mrg_4_, mGo_n, sfxX11_fielder_12, cutX11_fielder_12, sfxX11_fielder_66, cutX11_fielder_66, sfxX11_fielder_67, cutX11_fielder_67, sfxX11_fielder_78, cutX11_fielder_78, kX11_fielder_78, kX11_fielder_67, kX11_fielder_66, kX11_fielder_12, kX11_fielder_0, sk_200, al_200, rf_200_0, sk_201, al_201, sn_201, SX11_fielder_0, SX11_fielder_1, shqI_, shqLLL_, spX11_isFielder, spX11_within, mrg, mrl, mSet_ap, ncast, Option.some.injEq, set_201, set_over1]
  (try simp only [mrg, mrl] at *) <;> repeat' (first | assumption | (with_reducible apply And.intro) | intro _)
  all_goals first | omega | exact h1 (by omega) | exact h2 (by omega) (by omega) | exact h3 (by omega) (by omega)
theorem ctrX11_fielder {l : Launch} (hst : l.stackTraces = false) (hT : mTxM l) : mCtr l calX11_fielder spX11_fielder :=
  mMet0 (T := TX11_fielder) (S := SX11_fielder) hst hT (by decide) okX11_fielder ⟨_, _, rfl, rfl⟩ (fun a => match a with
    | 0 => ctrX11_isFielder hst hT
    | 1 => ctrX11_within hst hT
    | _ + 2 => mCtr_no) vcX11_fielder

def spX11_stand : mSp := shRII (fun _ i f c I Q => i = some 200 ∧ mrg f ∧ mrg c ∧ (¬ fldP f → Q (.inl (some (mI 0))) (mSet I 200 3 1)) ∧ (fldP f → ¬ (-1 ≤ c ∧ c < 289) → Q (.inl (some (mI 0))) (mSet I 200 3 2)) ∧ (fldP f → (-1 ≤ c ∧ c < 289) → Q (.inl (some (mI (stT (I 201) f)))) (mSet (mSet I 200 3 0) 201 (550 + 5 * f) c)))
def SX11_stand : Nat → mSp := fun a => match a with
  | 0 => spX11_isFielder
  | 1 => spX11_fails
  | 2 => spX11_isCell
  | 3 => spX11_standOf
  | 4 => spX11_puts
  | _ => fun _ _ _ _ => False
theorem SX11_stand_0 : SX11_stand 0 = spX11_isFielder := Eq.trans rfl rfl
theorem SX11_stand_1 : SX11_stand 1 = spX11_fails := Eq.trans rfl rfl
theorem SX11_stand_2 : SX11_stand 2 = spX11_isCell := Eq.trans rfl rfl
theorem SX11_stand_3 : SX11_stand 3 = spX11_standOf := Eq.trans rfl rfl
theorem SX11_stand_4 : SX11_stand 4 = spX11_puts := Eq.trans rfl rfl
set_option maxRecDepth 100000 in
set_option maxHeartbeats 4000000 in
theorem vcX11_stand (fl : Nat → Bool) (avs : List mV) (I : mM) (Q : mO → mM → Prop) (hsp : spX11_stand fl avs I Q) : mVC0 SX11_stand fl Q kX11_stand 4 avs I := by
  obtain ⟨i, f, c, rfl, h0⟩ := shRII_inv hsp
  refine ⟨rfl, ?_⟩
  show mWp _ _ _ _ _ _ kX11_stand_0 [some (mR i), some (mI f), some (mI c), none] [] I
  obtain ⟨rfl, hf, hc, h1, h2, h3⟩ := h0
  simp only [true_or, or_true, false_or, or_false, true_and, and_true, true_implies, false_implies, implies_true, not_true_eq_false, not_false_eq_true, and_self, List.length_cons, List.length_nil, mNoCut_, mCat_n, mCat_I, mCat_L, mCat_R, mIsL_n, mIsL_I, mIsL_R, mIsL_L, Nat.reduceAdd, Nat.reduceSub, Nat.reduceLeDiff, Nat.reduceLT, Nat.reduceEqDiff, Nat.zero_le, Int.reduceEq, Int.reduceLT, Int.reduceLE, Int.reduceNeg, Int.reduceAdd, if_true, if_false, reduceIte, reduceCtorEq, Bool.false_eq_true, ne_eq, qCmp_0, qCmp_1, qCmp_2, qCmp_3, qCmp_4, qCmp_5, ib_0, ib_1, ib_2, lb_0, lb_1, lb_2, dv_0, dv_1, wq_ic, wq_ld_i, wq_ld_a, wq_st_i, wq_i2l, wq_icmp, wq_if, wq_putI, wq_putL, wq_ret0, wq_ret1, wq_ret2, wq_ret3, wq_ret4, ldR0, mrg_0_, fk_11_3, ldI1, wq_callS1_1, mrg_1_, wq_callV2_0, ldI2, mrg_m1_, mrg_2_, stI3, wq_callV3_0, ldI3, mPut_s, mPut_I0, mPut_R0, mPut_L0, mPut_I1, mPut_R1, mPut_L1, mGo_n, sfxX11_stand_18, cutX11_stand_18, sfxX11_stand_37, cutX11_stand_37, kX11_stand_37, kX11_stand_18, kX11_stand_0, sk_200, al_200, SX11_stand_0, SX11_stand_1, SX11_stand_2, SX11_stand_3, SX11_stand_4, shqI_, shqRI_, shqL_, shqRII_, spX11_isFielder, spX11_fails, spX11_isCell, spX11_standOf, spX11_puts, mrg, mrl, mSet_ap, ncast, Option.some.injEq, set_201, set_over1]
  (try simp only [mrg, mrl] at *) <;> repeat' (first | assumption | (with_reducible apply And.intro) | intro _)
  all_goals first | omega | exact h1 (by omega) | exact h2 (by omega) (by omega) | exact h3 (by omega) (by omega)
theorem ctrX11_stand {l : Launch} (hst : l.stackTraces = false) (hT : mTxM l) : mCtr l calX11_stand spX11_stand :=
  mMet0 (T := TX11_stand) (S := SX11_stand) hst hT (by decide) okX11_stand ⟨_, _, rfl, rfl⟩ (fun a => match a with
    | 0 => ctrX11_isFielder hst hT
    | 1 => ctrX11_fails hst hT
    | 2 => ctrX11_isCell hst hT
    | 3 => ctrX11_standOf hst hT
    | 4 => ctrX11_puts hst hT
    | _ + 5 => mCtr_no) vcX11_stand

def spX11_of : mSp := shRII (fun _ i f w I Q => i = some 200 ∧ mrg f ∧ mrg w ∧ (¬ fldP f → Q (.inl (some (mI 0))) (mSet I 200 3 1)) ∧ (fldP f → ¬ (0 ≤ w ∧ w ≤ 4) → Q (.inl (some (mI 0))) (mSet I 200 3 2)) ∧ (fldP f → (0 ≤ w ∧ w ≤ 4) → Q (.inl (some (mI (I 201 (550 + 5 * f + w))))) (mSet I 200 3 0)))
def SX11_of : Nat → mSp := fun a => match a with
  | 0 => spX11_isFielder
  | 1 => spX11_fails
  | 2 => spX11_within
  | 3 => spX11_ofFielder
  | _ => fun _ _ _ _ => False
theorem SX11_of_0 : SX11_of 0 = spX11_isFielder := Eq.trans rfl rfl
theorem SX11_of_1 : SX11_of 1 = spX11_fails := Eq.trans rfl rfl
theorem SX11_of_2 : SX11_of 2 = spX11_within := Eq.trans rfl rfl
theorem SX11_of_3 : SX11_of 3 = spX11_ofFielder := Eq.trans rfl rfl
set_option maxRecDepth 100000 in
set_option maxHeartbeats 4000000 in
theorem vcX11_of (fl : Nat → Bool) (avs : List mV) (I : mM) (Q : mO → mM → Prop) (hsp : spX11_of fl avs I Q) : mVC0 SX11_of fl Q kX11_of 3 avs I := by
  obtain ⟨i, f, w, rfl, h0⟩ := shRII_inv hsp
  refine ⟨rfl, ?_⟩
  show mWp _ _ _ _ _ _ kX11_of_0 [some (mR i), some (mI f), some (mI w)] [] I
  obtain ⟨rfl, hf, hc, h1, h2, h3⟩ := h0
  simp only [true_or, or_true, false_or, or_false, true_and, and_true, true_implies, false_implies, implies_true, not_true_eq_false, not_false_eq_true, and_self, List.length_cons, List.length_nil, mNoCut_, mCat_n, mCat_I, mCat_L, mCat_R, mIsL_n, mIsL_I, mIsL_R, mIsL_L, Nat.reduceAdd, Nat.reduceSub, Nat.reduceLeDiff, Nat.reduceLT, Nat.reduceEqDiff, Nat.zero_le, Int.reduceEq, Int.reduceLT, Int.reduceLE, Int.reduceNeg, Int.reduceAdd, if_true, if_false, reduceIte, reduceCtorEq, Bool.false_eq_true, ne_eq, qCmp_0, qCmp_1, qCmp_2, qCmp_3, qCmp_4, qCmp_5, ib_0, ib_1, ib_2, lb_0, lb_1, lb_2, dv_0, dv_1, wq_ic, wq_lc, wq_ld_i, wq_ld_a, wq_i2l, wq_if, wq_goto, wq_putI, wq_putL, wq_ret0, wq_ret1, wq_ret2, wq_ret3, wq_ret4, ldR0, mrg_0_, fk_11_3, ldI1, wq_callS1_1, mrg_1_, wq_callV2_0, ldI2, wq_callS3_1, wq_callV3_0, mrg_2_, mGo_n, sfxX11_of_18, cutX11_of_18, sfxX11_of_39, cutX11_of_39, sfxX11_of_44, cutX11_of_44, kX11_of_44, kX11_of_39, kX11_of_18, kX11_of_0, sk_200, al_200, SX11_of_0, SX11_of_1, SX11_of_2, SX11_of_3, shqI_, shqRI_, shqLLL_, shqRII_, spX11_isFielder, spX11_fails, spX11_within, spX11_ofFielder, mrg, mrl, mSet_ap, ncast, Option.some.injEq, set_201, set_over1]
  (try simp only [mrg, mrl] at *) <;> repeat' (first | assumption | (with_reducible apply And.intro) | intro _)
  all_goals first | omega | exact h1 (by omega) | exact h2 (by omega) (by omega) | exact h3 (by omega) (by omega)
theorem ctrX11_of {l : Launch} (hst : l.stackTraces = false) (hT : mTxM l) : mCtr l calX11_of spX11_of :=
  mMet0 (T := TX11_of) (S := SX11_of) hst hT (by decide) okX11_of ⟨_, _, rfl, rfl⟩ (fun a => match a with
    | 0 => ctrX11_isFielder hst hT
    | 1 => ctrX11_fails hst hT
    | 2 => ctrX11_within hst hT
    | 3 => ctrX11_ofFielder hst hT
    | _ + 4 => mCtr_no) vcX11_of

def spX11_batter : mSp := shRII (fun _ i k s I Q => i = some 200 ∧ mrg k ∧ mrg s ∧ (¬ ((0 ≤ k ∧ k ≤ 4) ∧ (0 ≤ s ∧ s ≤ 100)) → Q (.inl none) (mSet I 200 3 1)) ∧ (((0 ≤ k ∧ k ≤ 4) ∧ (0 ≤ s ∧ s ≤ 100)) → Q (.inl none) (mSet (mSet (mSet I 200 3 0) 201 6 k) 201 7 s)))
def SX11_batter : Nat → mSp := fun a => match a with
  | 0 => spX11_within
  | _ => fun _ _ _ _ => False
theorem SX11_batter_0 : SX11_batter 0 = spX11_within := Eq.trans rfl rfl
set_option maxRecDepth 100000 in
set_option maxHeartbeats 4000000 in
theorem vcX11_batter (fl : Nat → Bool) (avs : List mV) (I : mM) (Q : mO → mM → Prop) (hsp : spX11_batter fl avs I Q) : mVC0 SX11_batter fl Q kX11_batter 3 avs I := by
  obtain ⟨i, k, s, rfl, h0⟩ := shRII_inv hsp
  refine ⟨rfl, ?_⟩
  show mWp _ _ _ _ _ _ kX11_batter_0 [some (mR i), some (mI k), some (mI s)] [] I
  obtain ⟨rfl, hf, hc, h1, h2⟩ := h0
  simp only [true_or, or_true, false_or, or_false, true_and, and_true, true_implies, false_implies, implies_true, not_true_eq_false, not_false_eq_true, and_self, List.length_cons, List.length_nil, mNoCut_, mCat_n, mCat_I, mCat_L, mCat_R, mIsL_n, mIsL_I, mIsL_R, mIsL_L, Nat.reduceAdd, Nat.reduceSub, Nat.reduceLeDiff, Nat.reduceLT, Nat.reduceEqDiff, Nat.zero_le, Int.reduceEq, Int.reduceLT, Int.reduceLE, Int.reduceNeg, Int.reduceAdd, if_true, if_false, reduceIte, reduceCtorEq, Bool.false_eq_true, ne_eq, qCmp_0, qCmp_1, qCmp_2, qCmp_3, qCmp_4, qCmp_5, ib_0, ib_1, ib_2, lb_0, lb_1, lb_2, dv_0, dv_1, wq_ic, wq_lc, wq_ld_i, wq_ld_a, wq_i2l, wq_if, wq_goto, wq_get, mGet_0, mGet_1, mGet_2, mGet_3, wq_putI, wq_putL, wq_astI, wq_astL, wq_ret0, wq_ret1, wq_ret2, wq_ret3, wq_ret4, ldR0, ldI1, wq_callS3_1, ldI2, mrg_0_, mrg_1_, fk_11_3, fk_11_0, mrg_6_, mrg_7_, mGo_n, sfxX11_batter_29, cutX11_batter_29, sfxX11_batter_30, cutX11_batter_30, sfxX11_batter_41, cutX11_batter_41, kX11_batter_41, kX11_batter_30, kX11_batter_29, kX11_batter_0, sk_200, al_200, rf_200_0, sk_201, al_201, sn_201, SX11_batter_0, shqLLL_, spX11_within, mrg, mrl, mSet_ap, ncast, Option.some.injEq, set_201, set_over1]
  (try simp only [mrg, mrl] at *) <;> repeat' (first | assumption | (with_reducible apply And.intro) | intro _)
  all_goals first | omega | exact h1 (by omega) | exact h2 (by omega)
theorem ctrX11_batter {l : Launch} (hst : l.stackTraces = false) (hT : mTxM l) : mCtr l calX11_batter spX11_batter :=
  mMet0 (T := TX11_batter) (S := SX11_batter) hst hT (by decide) okX11_batter ⟨_, _, rfl, rfl⟩ (fun a => match a with
    | 0 => ctrX11_within hst hT
    | _ + 1 => mCtr_no) vcX11_batter

def spX11_catcher : mSp := shRII (fun _ i b h I Q => i = some 200 ∧ WFt (I 201) ∧ mrg b ∧ mrg h ∧ (¬ hitP (I 201) b h → Q (.inl (some (mI 0))) (mSet I 200 3 1)) ∧ (hitP (I 201) b h → Q (.inl (some (mI (catcherT (stT (I 201)) (pcT (I 201)) (cellT (I 201) b h) (tickT (I 201) b h) (airT (I 201) b h) (stepsT (I 201) b h))))) (mSet I 200 3 0)))
def SX11_catcher : Nat → mSp := fun a => match a with
  | 0 => spX11_isHit
  | 1 => spX11_catcherOf
  | 2 => spX11_fails
  | _ => fun _ _ _ _ => False
theorem SX11_catcher_0 : SX11_catcher 0 = spX11_isHit := Eq.trans rfl rfl
theorem SX11_catcher_1 : SX11_catcher 1 = spX11_catcherOf := Eq.trans rfl rfl
theorem SX11_catcher_2 : SX11_catcher 2 = spX11_fails := Eq.trans rfl rfl
set_option maxRecDepth 100000 in
set_option maxHeartbeats 4000000 in
theorem vcX11_catcher (fl : Nat → Bool) (avs : List mV) (I : mM) (Q : mO → mM → Prop) (hsp : spX11_catcher fl avs I Q) : mVC0 SX11_catcher fl Q kX11_catcher 3 avs I := by
  obtain ⟨i, b, hh, rfl, h0⟩ := shRII_inv hsp
  refine ⟨rfl, ?_⟩
  show mWp _ _ _ _ _ _ kX11_catcher_0 [some (mR i), some (mI b), some (mI hh)] [] I
  obtain ⟨rfl, H, hb, hh1, h1, h2⟩ := h0
  have hn := fun hb : 0 ≤ b ∧ b < 6 => H.2.1 b hb.1 hb.2
  simp only [true_or, or_true, false_or, or_false, true_and, and_true, true_implies, false_implies, implies_true, not_true_eq_false, not_false_eq_true, and_self, List.length_cons, List.length_nil, mNoCut_, mCat_n, mCat_I, mCat_L, mCat_R, mIsL_n, mIsL_I, mIsL_R, mIsL_L, Nat.reduceAdd, Nat.reduceSub, Nat.reduceLeDiff, Nat.reduceLT, Nat.reduceEqDiff, Nat.zero_le, Int.reduceEq, Int.reduceLT, Int.reduceLE, Int.reduceNeg, Int.reduceAdd, if_true, if_false, reduceIte, reduceCtorEq, Bool.false_eq_true, ne_eq, qCmp_0, qCmp_1, qCmp_2, qCmp_3, qCmp_4, qCmp_5, ib_0, ib_1, ib_2, lb_0, lb_1, lb_2, dv_0, dv_1, wq_ic, wq_ld_i, wq_ld_a, wq_if, wq_goto, wq_putI, wq_putL, wq_ret0, wq_ret1, wq_ret2, wq_ret3, wq_ret4, ldR0, mrg_0_, fk_11_3, ldI1, ldI2, wq_callV3_0, mrg_1_, wq_callV2_0, mGo_n, sfxX11_catcher_23, cutX11_catcher_23, sfxX11_catcher_28, cutX11_catcher_28, kX11_catcher_28, kX11_catcher_23, kX11_catcher_0, sk_200, al_200, SX11_catcher_0, SX11_catcher_1, SX11_catcher_2, shqRII_, shqRI_, spX11_isHit, spX11_catcherOf, spX11_fails, mrg, mrl, mSet_ap, ncast, Option.some.injEq, set_201, set_over1]
  (try simp only [mrg, mrl] at *) <;> repeat' (first | assumption | (with_reducible apply And.intro) | intro _)
  all_goals first | omega | exact h1 (by omega) | exact h2 (by omega)
theorem ctrX11_catcher {l : Launch} (hst : l.stackTraces = false) (hT : mTxM l) : mCtr l calX11_catcher spX11_catcher :=
  mMet0 (T := TX11_catcher) (S := SX11_catcher) hst hT (by decide) okX11_catcher ⟨_, _, rfl, rfl⟩ (fun a => match a with
    | 0 => ctrX11_isHit hst hT
    | 1 => ctrX11_catcherOf hst hT
    | 2 => ctrX11_fails hst hT
    | _ + 3 => mCtr_no) vcX11_catcher

def spX11_caught : mSp := shRII (fun _ i b h I Q => i = some 200 ∧ WFt (I 201) ∧ mrg b ∧ mrg h ∧ (¬ hitP (I 201) b h → Q (.inl (some (mI 0))) (mSet I 200 3 1)) ∧ (hitP (I 201) b h → Q (.inl (some (mI (caughtT (I 201) b h)))) (mSet I 200 3 0)))
def SX11_caught : Nat → mSp := fun a => match a with
  | 0 => spX11_isHit
  | 1 => spX11_catchOf
  | 2 => spX11_fails
  | _ => fun _ _ _ _ => False
theorem SX11_caught_0 : SX11_caught 0 = spX11_isHit := Eq.trans rfl rfl
theorem SX11_caught_1 : SX11_caught 1 = spX11_catchOf := Eq.trans rfl rfl
theorem SX11_caught_2 : SX11_caught 2 = spX11_fails := Eq.trans rfl rfl
set_option maxRecDepth 100000 in
set_option maxHeartbeats 4000000 in
theorem vcX11_caught (fl : Nat → Bool) (avs : List mV) (I : mM) (Q : mO → mM → Prop) (hsp : spX11_caught fl avs I Q) : mVC0 SX11_caught fl Q kX11_caught 3 avs I := by
  obtain ⟨i, b, hh, rfl, h0⟩ := shRII_inv hsp
  refine ⟨rfl, ?_⟩
  show mWp _ _ _ _ _ _ kX11_caught_0 [some (mR i), some (mI b), some (mI hh)] [] I
  obtain ⟨rfl, H, hb, hh1, h1, h2⟩ := h0
  have hn := fun hb : 0 ≤ b ∧ b < 6 => H.2.1 b hb.1 hb.2
  simp only [true_or, or_true, false_or, or_false, true_and, and_true, true_implies, false_implies, implies_true, not_true_eq_false, not_false_eq_true, and_self, List.length_cons, List.length_nil, mNoCut_, mCat_n, mCat_I, mCat_L, mCat_R, mIsL_n, mIsL_I, mIsL_R, mIsL_L, Nat.reduceAdd, Nat.reduceSub, Nat.reduceLeDiff, Nat.reduceLT, Nat.reduceEqDiff, Nat.zero_le, Int.reduceEq, Int.reduceLT, Int.reduceLE, Int.reduceNeg, Int.reduceAdd, if_true, if_false, reduceIte, reduceCtorEq, Bool.false_eq_true, ne_eq, qCmp_0, qCmp_1, qCmp_2, qCmp_3, qCmp_4, qCmp_5, ib_0, ib_1, ib_2, lb_0, lb_1, lb_2, dv_0, dv_1, wq_ic, wq_ld_i, wq_ld_a, wq_if, wq_goto, wq_putI, wq_putL, wq_ret0, wq_ret1, wq_ret2, wq_ret3, wq_ret4, ldR0, mrg_0_, fk_11_3, ldI1, ldI2, wq_callV3_0, mrg_1_, wq_callV2_0, mGo_n, sfxX11_caught_23, cutX11_caught_23, sfxX11_caught_28, cutX11_caught_28, kX11_caught_28, kX11_caught_23, kX11_caught_0, sk_200, al_200, SX11_caught_0, SX11_caught_1, SX11_caught_2, shqRII_, shqRI_, spX11_isHit, spX11_catchOf, spX11_fails, mrg, mrl, mSet_ap, ncast, Option.some.injEq, set_201, set_over1]
  (try simp only [mrg, mrl] at *) <;> repeat' (first | assumption | (with_reducible apply And.intro) | intro _)
  all_goals first | omega | exact h1 (by omega) | exact h2 (by omega)
theorem ctrX11_caught {l : Launch} (hst : l.stackTraces = false) (hT : mTxM l) : mCtr l calX11_caught spX11_caught :=
  mMet0 (T := TX11_caught) (S := SX11_caught) hst hT (by decide) okX11_caught ⟨_, _, rfl, rfl⟩ (fun a => match a with
    | 0 => ctrX11_isHit hst hT
    | 1 => ctrX11_catchOf hst hT
    | 2 => ctrX11_fails hst hT
    | _ + 3 => mCtr_no) vcX11_caught

def spX11_runs : mSp := shRII (fun _ i b h I Q => i = some 200 ∧ WFt (I 201) ∧ mrg b ∧ mrg h ∧ (¬ hitP (I 201) b h → Q (.inl (some (mI 0))) (mSet I 200 3 1)) ∧ (hitP (I 201) b h → Q (.inl (some (mI (runsT (I 201) b h)))) (mSet I 200 3 0)))
def SX11_runs : Nat → mSp := fun a => match a with
  | 0 => spX11_isHit
  | 1 => spX11_runsOf
  | 2 => spX11_fails
  | _ => fun _ _ _ _ => False
theorem SX11_runs_0 : SX11_runs 0 = spX11_isHit := Eq.trans rfl rfl
theorem SX11_runs_1 : SX11_runs 1 = spX11_runsOf := Eq.trans rfl rfl
theorem SX11_runs_2 : SX11_runs 2 = spX11_fails := Eq.trans rfl rfl
set_option maxRecDepth 100000 in
set_option maxHeartbeats 4000000 in
theorem vcX11_runs (fl : Nat → Bool) (avs : List mV) (I : mM) (Q : mO → mM → Prop) (hsp : spX11_runs fl avs I Q) : mVC0 SX11_runs fl Q kX11_runs 3 avs I := by
  obtain ⟨i, b, hh, rfl, h0⟩ := shRII_inv hsp
  refine ⟨rfl, ?_⟩
  show mWp _ _ _ _ _ _ kX11_runs_0 [some (mR i), some (mI b), some (mI hh)] [] I
  obtain ⟨rfl, H, hb, hh1, h1, h2⟩ := h0
  have hn := fun hb : 0 ≤ b ∧ b < 6 => H.2.1 b hb.1 hb.2
  simp only [true_or, or_true, false_or, or_false, true_and, and_true, true_implies, false_implies, implies_true, not_true_eq_false, not_false_eq_true, and_self, List.length_cons, List.length_nil, mNoCut_, mCat_n, mCat_I, mCat_L, mCat_R, mIsL_n, mIsL_I, mIsL_R, mIsL_L, Nat.reduceAdd, Nat.reduceSub, Nat.reduceLeDiff, Nat.reduceLT, Nat.reduceEqDiff, Nat.zero_le, Int.reduceEq, Int.reduceLT, Int.reduceLE, Int.reduceNeg, Int.reduceAdd, if_true, if_false, reduceIte, reduceCtorEq, Bool.false_eq_true, ne_eq, qCmp_0, qCmp_1, qCmp_2, qCmp_3, qCmp_4, qCmp_5, ib_0, ib_1, ib_2, lb_0, lb_1, lb_2, dv_0, dv_1, wq_ic, wq_ld_i, wq_ld_a, wq_if, wq_goto, wq_putI, wq_putL, wq_ret0, wq_ret1, wq_ret2, wq_ret3, wq_ret4, ldR0, mrg_0_, fk_11_3, ldI1, ldI2, wq_callV3_0, mrg_1_, wq_callV2_0, mGo_n, sfxX11_runs_23, cutX11_runs_23, sfxX11_runs_28, cutX11_runs_28, kX11_runs_28, kX11_runs_23, kX11_runs_0, sk_200, al_200, SX11_runs_0, SX11_runs_1, SX11_runs_2, shqRII_, shqRI_, spX11_isHit, spX11_runsOf, spX11_fails, mrg, mrl, mSet_ap, ncast, Option.some.injEq, set_201, set_over1]
  (try simp only [mrg, mrl] at *) <;> repeat' (first | assumption | (with_reducible apply And.intro) | intro _)
  all_goals first | omega | exact h1 (by omega) | exact h2 (by omega)
theorem ctrX11_runs {l : Launch} (hst : l.stackTraces = false) (hT : mTxM l) : mCtr l calX11_runs spX11_runs :=
  mMet0 (T := TX11_runs) (S := SX11_runs) hst hT (by decide) okX11_runs ⟨_, _, rfl, rfl⟩ (fun a => match a with
    | 0 => ctrX11_isHit hst hT
    | 1 => ctrX11_runsOf hst hT
    | 2 => ctrX11_fails hst hT
    | _ + 3 => mCtr_no) vcX11_runs

def spX11_cost : mSp := shRII (fun _ i b h I Q => i = some 200 ∧ WFt (I 201) ∧ mrg b ∧ mrg h ∧ (¬ hitP (I 201) b h → Q (.inl (some (mI 0))) (mSet I 200 3 1)) ∧ (hitP (I 201) b h → Q (.inl (some (mI (costT (I 201) b h)))) (mSet I 200 3 0)))
def SX11_cost : Nat → mSp := fun a => match a with
  | 0 => spX11_isHit
  | 1 => spX11_costOf
  | 2 => spX11_fails
  | _ => fun _ _ _ _ => False
theorem SX11_cost_0 : SX11_cost 0 = spX11_isHit := Eq.trans rfl rfl
theorem SX11_cost_1 : SX11_cost 1 = spX11_costOf := Eq.trans rfl rfl
theorem SX11_cost_2 : SX11_cost 2 = spX11_fails := Eq.trans rfl rfl
set_option maxRecDepth 100000 in
set_option maxHeartbeats 4000000 in
theorem vcX11_cost (fl : Nat → Bool) (avs : List mV) (I : mM) (Q : mO → mM → Prop) (hsp : spX11_cost fl avs I Q) : mVC0 SX11_cost fl Q kX11_cost 3 avs I := by
  obtain ⟨i, b, hh, rfl, h0⟩ := shRII_inv hsp
  refine ⟨rfl, ?_⟩
  show mWp _ _ _ _ _ _ kX11_cost_0 [some (mR i), some (mI b), some (mI hh)] [] I
  obtain ⟨rfl, H, hb, hh1, h1, h2⟩ := h0
  have hn := fun hb : 0 ≤ b ∧ b < 6 => H.2.1 b hb.1 hb.2
  simp only [true_or, or_true, false_or, or_false, true_and, and_true, true_implies, false_implies, implies_true, not_true_eq_false, not_false_eq_true, and_self, List.length_cons, List.length_nil, mNoCut_, mCat_n, mCat_I, mCat_L, mCat_R, mIsL_n, mIsL_I, mIsL_R, mIsL_L, Nat.reduceAdd, Nat.reduceSub, Nat.reduceLeDiff, Nat.reduceLT, Nat.reduceEqDiff, Nat.zero_le, Int.reduceEq, Int.reduceLT, Int.reduceLE, Int.reduceNeg, Int.reduceAdd, if_true, if_false, reduceIte, reduceCtorEq, Bool.false_eq_true, ne_eq, qCmp_0, qCmp_1, qCmp_2, qCmp_3, qCmp_4, qCmp_5, ib_0, ib_1, ib_2, lb_0, lb_1, lb_2, dv_0, dv_1, wq_ic, wq_ld_i, wq_ld_a, wq_if, wq_goto, wq_putI, wq_putL, wq_ret0, wq_ret1, wq_ret2, wq_ret3, wq_ret4, ldR0, mrg_0_, fk_11_3, ldI1, ldI2, wq_callV3_0, mrg_1_, wq_callV2_0, mGo_n, sfxX11_cost_23, cutX11_cost_23, sfxX11_cost_28, cutX11_cost_28, kX11_cost_28, kX11_cost_23, kX11_cost_0, sk_200, al_200, SX11_cost_0, SX11_cost_1, SX11_cost_2, shqRII_, shqRI_, spX11_isHit, spX11_costOf, spX11_fails, mrg, mrl, mSet_ap, ncast, Option.some.injEq, set_201, set_over1]
  (try simp only [mrg, mrl] at *) <;> repeat' (first | assumption | (with_reducible apply And.intro) | intro _)
  all_goals first | omega | exact h1 (by omega) | exact h2 (by omega)
theorem ctrX11_cost {l : Launch} (hst : l.stackTraces = false) (hT : mTxM l) : mCtr l calX11_cost spX11_cost :=
  mMet0 (T := TX11_cost) (S := SX11_cost) hst hT (by decide) okX11_cost ⟨_, _, rfl, rfl⟩ (fun a => match a with
    | 0 => ctrX11_isHit hst hT
    | 1 => ctrX11_costOf hst hT
    | 2 => ctrX11_fails hst hT
    | _ + 3 => mCtr_no) vcX11_cost

/-- the step of the STOP behind the CATCHER, and who makes it -/
def stopsT (t : Int → Int) (b h : Int) : Int := stopT (stT t) (pcT t) (cellT t b h) (tickT t b h) (airT t b h) (stepsT t b h) (catcherT (stT t) (pcT t) (cellT t b h) (tickT t b h) (airT t b h) (stepsT t b h))
def stopperT (t : Int → Int) (b h : Int) : Int := if stopsT t b h = -1 then -1 else soonT (stT t) (pcT t) (cellT t b h (stopsT t b h)) (tickT t b h (stopsT t b h)) (catcherT (stT t) (pcT t) (cellT t b h) (tickT t b h) (airT t b h) (stepsT t b h))
def spX11_stops : mSp := shRII (fun _ i b h I Q => i = some 200 ∧ WFt (I 201) ∧ mrg b ∧ mrg h ∧ (¬ hitP (I 201) b h → Q (.inl (some (mI 0))) (mSet I 200 3 1)) ∧ (hitP (I 201) b h → Q (.inl (some (mI (stopsT (I 201) b h)))) (mSet I 200 3 0)))
def SX11_stops : Nat → mSp := fun a => match a with
  | 0 => spX11_isHit
  | 1 => spX11_catcherOf
  | 2 => spX11_stopStep
  | 3 => spX11_fails
  | _ => fun _ _ _ _ => False
theorem SX11_stops_0 : SX11_stops 0 = spX11_isHit := Eq.trans rfl rfl
theorem SX11_stops_1 : SX11_stops 1 = spX11_catcherOf := Eq.trans rfl rfl
theorem SX11_stops_2 : SX11_stops 2 = spX11_stopStep := Eq.trans rfl rfl
theorem SX11_stops_3 : SX11_stops 3 = spX11_fails := Eq.trans rfl rfl
set_option maxRecDepth 100000 in
set_option maxHeartbeats 4000000 in
theorem vcX11_stops (fl : Nat → Bool) (avs : List mV) (I : mM) (Q : mO → mM → Prop) (hsp : spX11_stops fl avs I Q) : mVC0 SX11_stops fl Q kX11_stops 3 avs I := by
  obtain ⟨i, b, hh, rfl, h0⟩ := shRII_inv hsp
  refine ⟨rfl, ?_⟩
  show mWp _ _ _ _ _ _ kX11_stops_0 [some (mR i), some (mI b), some (mI hh)] [] I
  obtain ⟨rfl, H, hb, hh1, h1, h2⟩ := h0
  have hn := fun hb : 0 ≤ b ∧ b < 6 => H.2.1 b hb.1 hb.2
  have cb := catcherT_bd (stT (I 201)) (pcT (I 201)) (cellT (I 201) b hh) (tickT (I 201) b hh) (airT (I 201) b hh) (stepsT (I 201) b hh)
  simp only [true_or, or_true, false_or, or_false, true_and, and_true, true_implies, false_implies, implies_true, not_true_eq_false, not_false_eq_true, and_self, List.length_cons, List.length_nil, mNoCut_, mCat_n, mCat_I, mCat_L, mCat_R, mIsL_n, mIsL_I, mIsL_R, mIsL_L, Nat.reduceAdd, Nat.reduceSub, Nat.reduceLeDiff, Nat.reduceLT, Nat.reduceEqDiff, Nat.zero_le, Int.reduceEq, Int.reduceLT, Int.reduceLE, Int.reduceNeg, Int.reduceAdd, if_true, if_false, reduceIte, reduceCtorEq, Bool.false_eq_true, ne_eq, qCmp_0, qCmp_1, qCmp_2, qCmp_3, qCmp_4, qCmp_5, ib_0, ib_1, ib_2, lb_0, lb_1, lb_2, dv_0, dv_1, wq_ic, wq_ld_i, wq_ld_a, wq_if, wq_goto, wq_putI, wq_putL, wq_ret0, wq_ret1, wq_ret2, wq_ret3, wq_ret4, ldR0, mrg_0_, fk_11_3, ldI1, ldI2, wq_callV3_0, wq_callV4_0, mrg_1_, wq_callV2_0, mGo_n, sfxX11_stops_29, cutX11_stops_29, sfxX11_stops_34, cutX11_stops_34, kX11_stops_34, kX11_stops_29, kX11_stops_0, sk_200, al_200, SX11_stops_0, SX11_stops_1, SX11_stops_2, SX11_stops_3, shqRII_, shqRIII_, shqRI_, spX11_isHit, spX11_catcherOf, spX11_stopStep, spX11_fails, mrg, mrl, mSet_ap, ncast, Option.some.injEq, set_201, set_over1]
  (try simp only [mrg, mrl] at *) <;> repeat' (first | assumption | (with_reducible apply And.intro) | intro _)
  all_goals first | omega | exact h1 (by omega) | exact h2 (by omega)
theorem ctrX11_stops {l : Launch} (hst : l.stackTraces = false) (hT : mTxM l) : mCtr l calX11_stops spX11_stops :=
  mMet0 (T := TX11_stops) (S := SX11_stops) hst hT (by decide) okX11_stops ⟨_, _, rfl, rfl⟩ (fun a => match a with
    | 0 => ctrX11_isHit hst hT
    | 1 => ctrX11_catcherOf hst hT
    | 2 => ctrX11_stopStep hst hT
    | 3 => ctrX11_fails hst hT
    | _ + 4 => mCtr_no) vcX11_stops

def spX11_stopper : mSp := shRII (fun _ i b h I Q => i = some 200 ∧ WFt (I 201) ∧ mrg b ∧ mrg h ∧ (¬ hitP (I 201) b h → Q (.inl (some (mI 0))) (mSet I 200 3 1)) ∧ (hitP (I 201) b h → Q (.inl (some (mI (stopperT (I 201) b h)))) (mSet I 200 3 0)))
def SX11_stopper : Nat → mSp := fun a => match a with
  | 0 => spX11_isHit
  | 1 => spX11_fails
  | 2 => spX11_catcherOf
  | 3 => spX11_stopStep
  | 4 => spX11_soonest
  | _ => fun _ _ _ _ => False
theorem SX11_stopper_0 : SX11_stopper 0 = spX11_isHit := Eq.trans rfl rfl
theorem SX11_stopper_1 : SX11_stopper 1 = spX11_fails := Eq.trans rfl rfl
theorem SX11_stopper_2 : SX11_stopper 2 = spX11_catcherOf := Eq.trans rfl rfl
theorem SX11_stopper_3 : SX11_stopper 3 = spX11_stopStep := Eq.trans rfl rfl
theorem SX11_stopper_4 : SX11_stopper 4 = spX11_soonest := Eq.trans rfl rfl
set_option maxRecDepth 100000 in
set_option maxHeartbeats 4000000 in
theorem vcX11_stopper (fl : Nat → Bool) (avs : List mV) (I : mM) (Q : mO → mM → Prop) (hsp : spX11_stopper fl avs I Q) : mVC0 SX11_stopper fl Q kX11_stopper 5 avs I := by
  obtain ⟨i, b, hh, rfl, h0⟩ := shRII_inv hsp
  refine ⟨rfl, ?_⟩
  show mWp _ _ _ _ _ _ kX11_stopper_0 [some (mR i), some (mI b), some (mI hh), none, none] [] I
  obtain ⟨rfl, H, hb, hh1, h1, h2⟩ := h0
  have hn := fun hb : 0 ≤ b ∧ b < 6 => H.2.1 b hb.1 hb.2
  have cb := catcherT_bd (stT (I 201)) (pcT (I 201)) (cellT (I 201) b hh) (tickT (I 201) b hh) (airT (I 201) b hh) (stepsT (I 201) b hh)
  by_cases z : hitP (I 201) b hh
  · have sp := stopT_sp (stT (I 201)) (pcT (I 201)) (cellT (I 201) b hh) (tickT (I 201) b hh) (airT (I 201) b hh) (stepsT (I 201) b hh) (catcherT (stT (I 201)) (pcT (I 201)) (cellT (I 201) b hh) (tickT (I 201) b hh) (airT (I 201) b hh) (stepsT (I 201) b hh)) (H.air (b := b) (h := hh) ⟨z.1, z.2.1⟩ (by omega)).1
    have s8 := (steps_spec H (b := b) (h := hh) ⟨z.1, z.2.1⟩ (by omega)).1
    have a8 := (H.air (b := b) (h := hh) ⟨z.1, z.2.1⟩ (by omega))
    have h3 := h2 z
    unfold stopperT stopsT at h3
    simp only [true_or, or_true, false_or, or_false, true_and, and_true, true_implies, false_implies, implies_true, not_true_eq_false, not_false_eq_true, and_self, List.length_cons, List.length_nil, mNoCut_, mCat_n, mCat_I, mCat_L, mCat_R, mIsL_n, mIsL_I, mIsL_R, mIsL_L, Nat.reduceAdd, Nat.reduceSub, Nat.reduceLeDiff, Nat.reduceLT, Nat.reduceEqDiff, Nat.zero_le, Int.reduceEq, Int.reduceLT, Int.reduceLE, Int.reduceNeg, Int.reduceAdd, if_true, if_false, reduceIte, reduceCtorEq, Bool.false_eq_true, ne_eq, qCmp_0, qCmp_1, qCmp_2, qCmp_3, qCmp_4, qCmp_5, ib_0, ib_1, ib_2, lb_0, lb_1, lb_2, dv_0, dv_1, wq_ic, wq_ld_i, wq_ld_a, wq_st_i, wq_icmp, wq_if, wq_goto, wq_putI, wq_putL, wq_ret0, wq_ret1, wq_ret2, wq_ret3, wq_ret4, ldR0, mrg_0_, fk_11_3, ldI1, ldI2, wq_callV3_0, mrg_1_, wq_callV2_0, stI3, ldI3, wq_callV4_0, stI4, ldI4, mrg_m1_, wq_callV5_0, mPut_s, mPut_I0, mPut_R0, mPut_L0, mPut_I1, mPut_R1, mPut_L1, mGo_n, sfxX11_stopper_20, cutX11_stopper_20, sfxX11_stopper_46, cutX11_stopper_46, sfxX11_stopper_55, cutX11_stopper_55, kX11_stopper_55, kX11_stopper_46, kX11_stopper_20, kX11_stopper_0, sk_200, al_200, SX11_stopper_0, SX11_stopper_1, SX11_stopper_2, SX11_stopper_3, SX11_stopper_4, shqRII_, shqRI_, shqRIII_, shqRIIII_, spX11_isHit, spX11_fails, spX11_catcherOf, spX11_stopStep, spX11_soonest, mrg, mrl, mSet_ap, ncast, Option.some.injEq, set_201, set_over1]
    (try simp only [mrg, mrl] at *) <;> repeat' (first | assumption | (with_reducible apply And.intro) | intro _)
    all_goals first | omega | (rw [if_pos (by omega)] at h3; exact h3) | (rw [if_neg (by omega)] at h3; exact h3)
  · simp only [true_or, or_true, false_or, or_false, true_and, and_true, true_implies, false_implies, implies_true, not_true_eq_false, not_false_eq_true, and_self, List.length_cons, List.length_nil, mNoCut_, mCat_n, mCat_I, mCat_L, mCat_R, mIsL_n, mIsL_I, mIsL_R, mIsL_L, Nat.reduceAdd, Nat.reduceSub, Nat.reduceLeDiff, Nat.reduceLT, Nat.reduceEqDiff, Nat.zero_le, Int.reduceEq, Int.reduceLT, Int.reduceLE, Int.reduceNeg, Int.reduceAdd, if_true, if_false, reduceIte, reduceCtorEq, Bool.false_eq_true, ne_eq, qCmp_0, qCmp_1, qCmp_2, qCmp_3, qCmp_4, qCmp_5, ib_0, ib_1, ib_2, lb_0, lb_1, lb_2, dv_0, dv_1, wq_ic, wq_ld_i, wq_ld_a, wq_st_i, wq_icmp, wq_if, wq_goto, wq_putI, wq_putL, wq_ret0, wq_ret1, wq_ret2, wq_ret3, wq_ret4, ldR0, mrg_0_, fk_11_3, ldI1, ldI2, wq_callV3_0, mrg_1_, wq_callV2_0, stI3, ldI3, wq_callV4_0, stI4, ldI4, mrg_m1_, wq_callV5_0, mPut_s, mPut_I0, mPut_R0, mPut_L0, mPut_I1, mPut_R1, mPut_L1, mGo_n, sfxX11_stopper_20, cutX11_stopper_20, sfxX11_stopper_46, cutX11_stopper_46, sfxX11_stopper_55, cutX11_stopper_55, kX11_stopper_55, kX11_stopper_46, kX11_stopper_20, kX11_stopper_0, sk_200, al_200, SX11_stopper_0, SX11_stopper_1, SX11_stopper_2, SX11_stopper_3, SX11_stopper_4, shqRII_, shqRI_, shqRIII_, shqRIIII_, spX11_isHit, spX11_fails, spX11_catcherOf, spX11_stopStep, spX11_soonest, mrg, mrl, mSet_ap, ncast, Option.some.injEq, set_201, set_over1]
    (try simp only [mrg, mrl] at *) <;> repeat' (first | assumption | (with_reducible apply And.intro) | intro _)
    all_goals first | omega | exact h1 (by omega)
theorem ctrX11_stopper {l : Launch} (hst : l.stackTraces = false) (hT : mTxM l) : mCtr l calX11_stopper spX11_stopper :=
  mMet0 (T := TX11_stopper) (S := SX11_stopper) hst hT (by decide) okX11_stopper ⟨_, _, rfl, rfl⟩ (fun a => match a with
    | 0 => ctrX11_isHit hst hT
    | 1 => ctrX11_fails hst hT
    | 2 => ctrX11_catcherOf hst hT
    | 3 => ctrX11_stopStep hst hT
    | 4 => ctrX11_soonest hst hT
    | _ + 5 => mCtr_no) vcX11_stopper

def spX11_upper : mSp := shR (fun _ i I Q => i = some 200 ∧ Q (.inl (some (mL (I 200 16)))) (mSet I 200 3 0))
def SX11_upper : Nat → mSp := fun a => match a with
  | _ => fun _ _ _ _ => False
set_option maxRecDepth 100000 in
set_option maxHeartbeats 4000000 in
theorem vcX11_upper (fl : Nat → Bool) (avs : List mV) (I : mM) (Q : mO → mM → Prop) (hsp : spX11_upper fl avs I Q) : mVC0 SX11_upper fl Q kX11_upper 1 avs I := by
  obtain ⟨i, rfl, h0⟩ := shR_inv hsp
  refine ⟨rfl, ?_⟩
  show mWp _ _ _ _ _ _ kX11_upper_0 [some (mR i)] [] I
  obtain ⟨rfl, h⟩ := h0
  simp only [true_or, or_true, false_or, or_false, true_and, and_true, true_implies, false_implies, implies_true, not_true_eq_false, not_false_eq_true, and_self, List.length_cons, List.length_nil, mNoCut_, mCat_n, mCat_I, mCat_L, mCat_R, mIsL_n, mIsL_I, mIsL_R, mIsL_L, Nat.reduceAdd, Nat.reduceSub, Nat.reduceLeDiff, Nat.reduceLT, Nat.reduceEqDiff, Nat.zero_le, Int.reduceEq, Int.reduceLT, Int.reduceLE, Int.reduceNeg, Int.reduceAdd, if_true, if_false, reduceIte, reduceCtorEq, Bool.false_eq_true, ne_eq, qCmp_0, qCmp_1, qCmp_2, qCmp_3, qCmp_4, qCmp_5, ib_0, ib_1, ib_2, lb_0, lb_1, lb_2, dv_0, dv_1, wq_ic, wq_ld_a, wq_get, mGet_0, mGet_1, mGet_2, mGet_3, wq_putI, wq_putL, wq_ret0, wq_ret1, wq_ret2, wq_ret3, wq_ret4, ldR0, mrg_0_, fk_11_3, fk_11_16, kX11_upper_0, sk_200, al_200, mrg, mrl, mSet_ap, ncast, Option.some.injEq]
  exact h
theorem ctrX11_upper {l : Launch} (hst : l.stackTraces = false) (hT : mTxM l) : mCtr l calX11_upper spX11_upper :=
  mMet0 (T := TX11_upper) (S := SX11_upper) hst hT (by decide) okX11_upper ⟨_, _, rfl, rfl⟩ (fun a => mCtr_no) vcX11_upper

def spX11_lower : mSp := shR (fun _ i I Q => i = some 200 ∧ Q (.inl (some (mL (I 200 17)))) (mSet I 200 3 0))
def SX11_lower : Nat → mSp := fun a => match a with
  | _ => fun _ _ _ _ => False
set_option maxRecDepth 100000 in
set_option maxHeartbeats 4000000 in
theorem vcX11_lower (fl : Nat → Bool) (avs : List mV) (I : mM) (Q : mO → mM → Prop) (hsp : spX11_lower fl avs I Q) : mVC0 SX11_lower fl Q kX11_lower 1 avs I := by
  obtain ⟨i, rfl, h0⟩ := shR_inv hsp
  refine ⟨rfl, ?_⟩
  show mWp _ _ _ _ _ _ kX11_lower_0 [some (mR i)] [] I
  obtain ⟨rfl, h⟩ := h0
  simp only [true_or, or_true, false_or, or_false, true_and, and_true, true_implies, false_implies, implies_true, not_true_eq_false, not_false_eq_true, and_self, List.length_cons, List.length_nil, mNoCut_, mCat_n, mCat_I, mCat_L, mCat_R, mIsL_n, mIsL_I, mIsL_R, mIsL_L, Nat.reduceAdd, Nat.reduceSub, Nat.reduceLeDiff, Nat.reduceLT, Nat.reduceEqDiff, Nat.zero_le, Int.reduceEq, Int.reduceLT, Int.reduceLE, Int.reduceNeg, Int.reduceAdd, if_true, if_false, reduceIte, reduceCtorEq, Bool.false_eq_true, ne_eq, qCmp_0, qCmp_1, qCmp_2, qCmp_3, qCmp_4, qCmp_5, ib_0, ib_1, ib_2, lb_0, lb_1, lb_2, dv_0, dv_1, wq_ic, wq_ld_a, wq_get, mGet_0, mGet_1, mGet_2, mGet_3, wq_putI, wq_putL, wq_ret0, wq_ret1, wq_ret2, wq_ret3, wq_ret4, ldR0, mrg_0_, fk_11_3, fk_11_17, kX11_lower_0, sk_200, al_200, mrg, mrl, mSet_ap, ncast, Option.some.injEq]
  exact h
theorem ctrX11_lower {l : Launch} (hst : l.stackTraces = false) (hT : mTxM l) : mCtr l calX11_lower spX11_lower :=
  mMet0 (T := TX11_lower) (S := SX11_lower) hst hT (by decide) okX11_lower ⟨_, _, rfl, rfl⟩ (fun a => mCtr_no) vcX11_lower

def spX11_one : mSp := shRII (fun _ i f b I Q => i = some 200 ∧ WFt (I 201) ∧ mrg f ∧ mrg b ∧ (¬ (fldP f ∧ ballP b) → Q (.inl (some (mI 0))) (mSet I 200 3 1)) ∧ (fldP f ∧ ballP b → stT (I 201) f = -1 → Q (.inl (some (mI 0))) (mSet I 200 3 2)) ∧ (fldP f ∧ ballP b → stT (I 201) f ≠ -1 → Q (.inl (some (mI (oneT (I 201) f b (I 200 18)).1))) (mSet (mSet I 200 3 0) 200 18 (oneT (I 201) f b (I 200 18)).2)))
def SX11_one : Nat → mSp := fun a => match a with
  | 0 => spX11_isFielder
  | 1 => spX11_isBall
  | 2 => spX11_fails
  | 3 => spX11_standOf
  | 4 => spX11_oneOf
  | _ => fun _ _ _ _ => False
theorem SX11_one_0 : SX11_one 0 = spX11_isFielder := Eq.trans rfl rfl
theorem SX11_one_1 : SX11_one 1 = spX11_isBall := Eq.trans rfl rfl
theorem SX11_one_2 : SX11_one 2 = spX11_fails := Eq.trans rfl rfl
theorem SX11_one_3 : SX11_one 3 = spX11_standOf := Eq.trans rfl rfl
theorem SX11_one_4 : SX11_one 4 = spX11_oneOf := Eq.trans rfl rfl
set_option maxRecDepth 100000 in
set_option maxHeartbeats 4000000 in
theorem vcX11_one (fl : Nat → Bool) (avs : List mV) (I : mM) (Q : mO → mM → Prop) (hsp : spX11_one fl avs I Q) : mVC0 SX11_one fl Q kX11_one 3 avs I := by
  obtain ⟨i, f, b, rfl, h0⟩ := shRII_inv hsp
  refine ⟨rfl, ?_⟩
  show mWp _ _ _ _ _ _ kX11_one_0 [some (mR i), some (mI f), some (mI b)] [] I
  obtain ⟨rfl, H, hf, hb, h1, h2, h3⟩ := h0
  have fl1 := fun z : fldP f => H.fld (f := f) z
  simp only [true_or, or_true, false_or, or_false, true_and, and_true, true_implies, false_implies, implies_true, not_true_eq_false, not_false_eq_true, and_self, List.length_cons, List.length_nil, mNoCut_, mCat_n, mCat_I, mCat_L, mCat_R, mIsL_n, mIsL_I, mIsL_R, mIsL_L, Nat.reduceAdd, Nat.reduceSub, Nat.reduceLeDiff, Nat.reduceLT, Nat.reduceEqDiff, Nat.zero_le, Int.reduceEq, Int.reduceLT, Int.reduceLE, Int.reduceNeg, Int.reduceAdd, if_true, if_false, reduceIte, reduceCtorEq, Bool.false_eq_true, ne_eq, qCmp_0, qCmp_1, qCmp_2, qCmp_3, qCmp_4, qCmp_5, ib_0, ib_1, ib_2, lb_0, lb_1, lb_2, dv_0, dv_1, wq_ic, wq_ld_i, wq_ld_a, wq_icmp, wq_if, wq_putI, wq_putL, wq_ret0, wq_ret1, wq_ret2, wq_ret3, wq_ret4, ldR0, mrg_0_, fk_11_3, ldI1, wq_callS1_1, ldI2, mrg_1_, wq_callV2_0, mrg_m1_, mrg_2_, wq_callV3_0, mGo_n, sfxX11_one_19, cutX11_one_19, sfxX11_one_25, cutX11_one_25, sfxX11_one_40, cutX11_one_40, kX11_one_40, kX11_one_25, kX11_one_19, kX11_one_0, sk_200, al_200, SX11_one_0, SX11_one_1, SX11_one_2, SX11_one_3, SX11_one_4, shqI_, shqRI_, shqRII_, spX11_isFielder, spX11_isBall, spX11_fails, spX11_standOf, spX11_oneOf, mrg, mrl, mSet_ap, ncast, Option.some.injEq, set_201, set_over1]
  (try simp only [mrg, mrl] at *) <;> repeat' (first | assumption | (with_reducible apply And.intro) | intro _)
  all_goals first | omega | exact h1 (by omega) | exact h2 (by omega) (by omega) | exact h3 (by omega) (by omega)
theorem ctrX11_one {l : Launch} (hst : l.stackTraces = false) (hT : mTxM l) : mCtr l calX11_one spX11_one :=
  mMet0 (T := TX11_one) (S := SX11_one) hst hT (by decide) okX11_one ⟨_, _, rfl, rfl⟩ (fun a => match a with
    | 0 => ctrX11_isFielder hst hT
    | 1 => ctrX11_isBall hst hT
    | 2 => ctrX11_fails hst hT
    | 3 => ctrX11_standOf hst hT
    | 4 => ctrX11_oneOf hst hT
    | _ + 5 => mCtr_no) vcX11_one

end SPM12
