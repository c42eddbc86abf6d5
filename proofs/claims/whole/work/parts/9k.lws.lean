section LWS
def wKi (tb : List Nat) (Q : mO → mM → Prop) : mO → mM → Prop := fun o I' => match o with
  | .inl (some (.inl v)) => Q (.inl (some (mI 0))) (mSet I' 230 0 (wI v))
  | .inl _ => False
  | .inr E => xH tb Q E [] I'
def wKb (tb : List Nat) (Q : mO → mM → Prop) : mO → mM → Prop := fun o I' => match o with
  | .inl (some (.inl v)) => mrg v ∧ (v = 0 → Q (.inl (some (mI 0))) (mSet I' 230 0 0)) ∧ (¬ v = 0 → Q (.inl (some (mI 0))) (mSet I' 230 0 1))
  | .inl _ => False
  | .inr E => xH tb Q E [] I'
def wKv (tb : List Nat) (Q : mO → mM → Prop) : mO → mM → Prop := fun o I' => match o with
  | .inl none => Q (.inl (some (mI 0))) I'
  | .inl _ => False
  | .inr E => xH tb Q E [] I'
def wKl (tb : List Nat) (Q : mO → mM → Prop) : mO → mM → Prop := fun o I' => match o with
  | .inl (some (.inr (.inl v))) => Q (.inl (some (mI 0))) (mSet I' 230 0 v)
  | .inl _ => False
  | .inr E => xH tb Q E [] I'
def spL_field : mSp := fun fl avs I Q => ∃ p0 : Int, avs = [mR (some 0), mI p0, mR (some 230)] ∧ mUp spX10_field fl [mR (some 0), mI p0] I (wKi (tabL_field.map (fun q => q.1)) Q)
def SL_field : Nat → mSp := mOne (mUp spX10_field)
theorem SL_field_100 : SL_field 100 = mUp spX10_field := mOne_100 _
set_option maxRecDepth 100000 in
theorem vcL_field (fl : Nat → Bool) (avs : List mV) (I : mM) (Q : mO → mM → Prop) (hsp : spL_field fl avs I Q) : mVCH (tabL_field.map (fun q => q.1)) SL_field fl Q kL_field 4 avs I := by
  obtain ⟨p0, rfl, Q0, h0, hQ⟩ := hsp
  refine ⟨rfl, ?_⟩
  show mWpL _ _ _ _ _ _ kL_field_0 [some (mR (some 0)), some (mI p0), some (mR (some 230)), none] [] I
  simp only [false_and, and_false, true_or, or_true, false_or, or_false, true_and, and_true, true_implies, false_implies, implies_true, not_true_eq_false, not_false_eq_true, and_self, List.length_cons, List.length_nil, mNoCut_, mCat_n, mCat_I, mCat_L, mCat_R, mIsL_n, mIsL_I, mIsL_R, mIsL_L, Nat.reduceAdd, Nat.reduceSub, Nat.reduceLeDiff, Nat.reduceLT, Nat.reduceEqDiff, Nat.zero_le, Int.reduceEq, Int.reduceLT, Int.reduceLE, Int.reduceNeg, Int.reduceAdd, if_true, if_false, reduceIte, reduceCtorEq, Bool.false_eq_true, ne_eq, qCmp_0, qCmp_1, qCmp_2, qCmp_3, qCmp_4, qCmp_5, ib_0, ib_1, ib_2, lb_0, lb_1, lb_2, dv_0, dv_1, wl_ic, wl_ld_i, wl_ld_a, wl_st_a, wl_goto, wl_astI, wl_astL, wl_ret1, wl_i2x, ldR2, ldR0, ldI1, wl_callV2_0, stR3, mPut_s, mPut_I0, mPut_R0, mPut_L0, mPut_I1, mPut_R1, mPut_L1, mGoL_n, sfxL_field_15, kL_field_0, kL_field_15, SL_field_100, sk_0, al_0, sk_230, al_230, sn_230, mSet_ap, ncast]
  refine ⟨Q0, h0, fun o I1 hq => ?_⟩
  have hk := hQ o I1 hq
  rcases o with (_ | v) | E
  · exact hk.elim
  · obtain ⟨x, rfl⟩ : ∃ x : Int, v = mI x := by
      rcases v with v | v | v
      · exact ⟨v, rfl⟩
      · exact hk.elim
      · exact hk.elim
    simp only [false_and, and_false, true_or, or_true, false_or, or_false, true_and, and_true, true_implies, false_implies, implies_true, not_true_eq_false, not_false_eq_true, and_self, List.length_cons, List.length_nil, mNoCut_, mCat_n, mCat_I, mCat_L, mCat_R, mIsL_n, mIsL_I, mIsL_R, mIsL_L, Nat.reduceAdd, Nat.reduceSub, Nat.reduceLeDiff, Nat.reduceLT, Nat.reduceEqDiff, Nat.zero_le, Int.reduceEq, Int.reduceLT, Int.reduceLE, Int.reduceNeg, Int.reduceAdd, if_true, if_false, reduceIte, reduceCtorEq, Bool.false_eq_true, ne_eq, qCmp_0, qCmp_1, qCmp_2, qCmp_3, qCmp_4, qCmp_5, ib_0, ib_1, ib_2, lb_0, lb_1, lb_2, dv_0, dv_1, wl_ic, wl_ld_i, wl_ld_a, wl_st_a, wl_goto, wl_astI, wl_astL, wl_ret1, wl_i2x, ldR2, ldR0, ldI1, wl_callV2_0, stR3, mPut_s, mPut_I0, mPut_R0, mPut_L0, mPut_I1, mPut_R1, mPut_L1, mGoL_n, sfxL_field_15, kL_field_0, kL_field_15, SL_field_100, sk_0, al_0, sk_230, al_230, sn_230, mSet_ap, ncast]
    exact hk
  · exact hk
theorem ctrL_field {l : Launch} (hst : l.stackTraces = false) (hT : mTxM l) : mCtrH l (hTab 0 9 tabL_field) calL_field spL_field :=
  mMetH (T := TL_field) (S := SL_field) (hs := fun _ => []) hT tabL_field 0 9 4 3 (by decide) okL_field ⟨_, _, rfl, rfl⟩ okHL_field.1 okHL_field.2 (one_ok (mCtr_up (ctrX10_field hst hT))) one_no vcL_field
def spL_hits : mSp := fun fl avs I Q => ∃ p0 : Int, avs = [mR (some 0), mI p0, mR (some 230)] ∧ mUp spX10_hits fl [mR (some 0), mI p0] I (wKi (tabL_hits.map (fun q => q.1)) Q)
def SL_hits : Nat → mSp := mOne (mUp spX10_hits)
theorem SL_hits_100 : SL_hits 100 = mUp spX10_hits := mOne_100 _
set_option maxRecDepth 100000 in
theorem vcL_hits (fl : Nat → Bool) (avs : List mV) (I : mM) (Q : mO → mM → Prop) (hsp : spL_hits fl avs I Q) : mVCH (tabL_hits.map (fun q => q.1)) SL_hits fl Q kL_hits 4 avs I := by
  obtain ⟨p0, rfl, Q0, h0, hQ⟩ := hsp
  refine ⟨rfl, ?_⟩
  show mWpL _ _ _ _ _ _ kL_hits_0 [some (mR (some 0)), some (mI p0), some (mR (some 230)), none] [] I
  simp only [false_and, and_false, true_or, or_true, false_or, or_false, true_and, and_true, true_implies, false_implies, implies_true, not_true_eq_false, not_false_eq_true, and_self, List.length_cons, List.length_nil, mNoCut_, mCat_n, mCat_I, mCat_L, mCat_R, mIsL_n, mIsL_I, mIsL_R, mIsL_L, Nat.reduceAdd, Nat.reduceSub, Nat.reduceLeDiff, Nat.reduceLT, Nat.reduceEqDiff, Nat.zero_le, Int.reduceEq, Int.reduceLT, Int.reduceLE, Int.reduceNeg, Int.reduceAdd, if_true, if_false, reduceIte, reduceCtorEq, Bool.false_eq_true, ne_eq, qCmp_0, qCmp_1, qCmp_2, qCmp_3, qCmp_4, qCmp_5, ib_0, ib_1, ib_2, lb_0, lb_1, lb_2, dv_0, dv_1, wl_ic, wl_ld_i, wl_ld_a, wl_st_a, wl_goto, wl_astI, wl_astL, wl_ret1, wl_i2x, ldR2, ldR0, ldI1, wl_callV2_0, stR3, mPut_s, mPut_I0, mPut_R0, mPut_L0, mPut_I1, mPut_R1, mPut_L1, mGoL_n, sfxL_hits_15, kL_hits_0, kL_hits_15, SL_hits_100, sk_0, al_0, sk_230, al_230, sn_230, mSet_ap, ncast]
  refine ⟨Q0, h0, fun o I1 hq => ?_⟩
  have hk := hQ o I1 hq
  rcases o with (_ | v) | E
  · exact hk.elim
  · obtain ⟨x, rfl⟩ : ∃ x : Int, v = mI x := by
      rcases v with v | v | v
      · exact ⟨v, rfl⟩
      · exact hk.elim
      · exact hk.elim
    simp only [false_and, and_false, true_or, or_true, false_or, or_false, true_and, and_true, true_implies, false_implies, implies_true, not_true_eq_false, not_false_eq_true, and_self, List.length_cons, List.length_nil, mNoCut_, mCat_n, mCat_I, mCat_L, mCat_R, mIsL_n, mIsL_I, mIsL_R, mIsL_L, Nat.reduceAdd, Nat.reduceSub, Nat.reduceLeDiff, Nat.reduceLT, Nat.reduceEqDiff, Nat.zero_le, Int.reduceEq, Int.reduceLT, Int.reduceLE, Int.reduceNeg, Int.reduceAdd, if_true, if_false, reduceIte, reduceCtorEq, Bool.false_eq_true, ne_eq, qCmp_0, qCmp_1, qCmp_2, qCmp_3, qCmp_4, qCmp_5, ib_0, ib_1, ib_2, lb_0, lb_1, lb_2, dv_0, dv_1, wl_ic, wl_ld_i, wl_ld_a, wl_st_a, wl_goto, wl_astI, wl_astL, wl_ret1, wl_i2x, ldR2, ldR0, ldI1, wl_callV2_0, stR3, mPut_s, mPut_I0, mPut_R0, mPut_L0, mPut_I1, mPut_R1, mPut_L1, mGoL_n, sfxL_hits_15, kL_hits_0, kL_hits_15, SL_hits_100, sk_0, al_0, sk_230, al_230, sn_230, mSet_ap, ncast]
    exact hk
  · exact hk
theorem ctrL_hits {l : Launch} (hst : l.stackTraces = false) (hT : mTxM l) : mCtrH l (hTab 0 9 tabL_hits) calL_hits spL_hits :=
  mMetH (T := TL_hits) (S := SL_hits) (hs := fun _ => []) hT tabL_hits 0 9 4 3 (by decide) okL_hits ⟨_, _, rfl, rfl⟩ okHL_hits.1 okHL_hits.2 (one_ok (mCtr_up (ctrX10_hits hst hT))) one_no vcL_hits
def spL_hit : mSp := fun fl avs I Q => ∃ p0 p1 p2 : Int, avs = [mR (some 0), mI p0, mI p1, mI p2, mR (some 230)] ∧ mUp spX10_hit fl [mR (some 0), mI p0, mI p1, mI p2] I (wKi (tabL_hit.map (fun q => q.1)) Q)
def SL_hit : Nat → mSp := mOne (mUp spX10_hit)
theorem SL_hit_100 : SL_hit 100 = mUp spX10_hit := mOne_100 _
set_option maxRecDepth 100000 in
theorem vcL_hit (fl : Nat → Bool) (avs : List mV) (I : mM) (Q : mO → mM → Prop) (hsp : spL_hit fl avs I Q) : mVCH (tabL_hit.map (fun q => q.1)) SL_hit fl Q kL_hit 6 avs I := by
  obtain ⟨p0, p1, p2, rfl, Q0, h0, hQ⟩ := hsp
  refine ⟨rfl, ?_⟩
  show mWpL _ _ _ _ _ _ kL_hit_0 [some (mR (some 0)), some (mI p0), some (mI p1), some (mI p2), some (mR (some 230)), none] [] I
  simp only [false_and, and_false, true_or, or_true, false_or, or_false, true_and, and_true, true_implies, false_implies, implies_true, not_true_eq_false, not_false_eq_true, and_self, List.length_cons, List.length_nil, mNoCut_, mCat_n, mCat_I, mCat_L, mCat_R, mIsL_n, mIsL_I, mIsL_R, mIsL_L, Nat.reduceAdd, Nat.reduceSub, Nat.reduceLeDiff, Nat.reduceLT, Nat.reduceEqDiff, Nat.zero_le, Int.reduceEq, Int.reduceLT, Int.reduceLE, Int.reduceNeg, Int.reduceAdd, if_true, if_false, reduceIte, reduceCtorEq, Bool.false_eq_true, ne_eq, qCmp_0, qCmp_1, qCmp_2, qCmp_3, qCmp_4, qCmp_5, ib_0, ib_1, ib_2, lb_0, lb_1, lb_2, dv_0, dv_1, wl_ic, wl_ld_i, wl_ld_a, wl_st_a, wl_goto, wl_astI, wl_astL, wl_ret1, wl_i2x, ldR4, ldR0, ldI1, ldI2, ldI3, wl_callV4_0, stR5, mPut_s, mPut_I0, mPut_R0, mPut_L0, mPut_I1, mPut_R1, mPut_L1, mGoL_n, sfxL_hit_23, kL_hit_0, kL_hit_23, SL_hit_100, sk_0, al_0, sk_230, al_230, sn_230, mSet_ap, ncast]
  refine ⟨Q0, h0, fun o I1 hq => ?_⟩
  have hk := hQ o I1 hq
  rcases o with (_ | v) | E
  · exact hk.elim
  · obtain ⟨x, rfl⟩ : ∃ x : Int, v = mI x := by
      rcases v with v | v | v
      · exact ⟨v, rfl⟩
      · exact hk.elim
      · exact hk.elim
    simp only [false_and, and_false, true_or, or_true, false_or, or_false, true_and, and_true, true_implies, false_implies, implies_true, not_true_eq_false, not_false_eq_true, and_self, List.length_cons, List.length_nil, mNoCut_, mCat_n, mCat_I, mCat_L, mCat_R, mIsL_n, mIsL_I, mIsL_R, mIsL_L, Nat.reduceAdd, Nat.reduceSub, Nat.reduceLeDiff, Nat.reduceLT, Nat.reduceEqDiff, Nat.zero_le, Int.reduceEq, Int.reduceLT, Int.reduceLE, Int.reduceNeg, Int.reduceAdd, if_true, if_false, reduceIte, reduceCtorEq, Bool.false_eq_true, ne_eq, qCmp_0, qCmp_1, qCmp_2, qCmp_3, qCmp_4, qCmp_5, ib_0, ib_1, ib_2, lb_0, lb_1, lb_2, dv_0, dv_1, wl_ic, wl_ld_i, wl_ld_a, wl_st_a, wl_goto, wl_astI, wl_astL, wl_ret1, wl_i2x, ldR4, ldR0, ldI1, ldI2, ldI3, wl_callV4_0, stR5, mPut_s, mPut_I0, mPut_R0, mPut_L0, mPut_I1, mPut_R1, mPut_L1, mGoL_n, sfxL_hit_23, kL_hit_0, kL_hit_23, SL_hit_100, sk_0, al_0, sk_230, al_230, sn_230, mSet_ap, ncast]
    exact hk
  · exact hk
theorem ctrL_hit {l : Launch} (hst : l.stackTraces = false) (hT : mTxM l) : mCtrH l (hTab 0 12 tabL_hit) calL_hit spL_hit :=
  mMetH (T := TL_hit) (S := SL_hit) (hs := fun _ => []) hT tabL_hit 0 12 7 5 (by decide) okL_hit ⟨_, _, rfl, rfl⟩ okHL_hit.1 okHL_hit.2 (one_ok (mCtr_up (ctrX10_hit hst hT))) one_no vcL_hit
def spL_tick : mSp := fun fl avs I Q => ∃ p0 p1 p2 : Int, avs = [mR (some 0), mI p0, mI p1, mI p2, mR (some 230)] ∧ mUp spX10_tick fl [mR (some 0), mI p0, mI p1, mI p2] I (wKi (tabL_tick.map (fun q => q.1)) Q)
def SL_tick : Nat → mSp := mOne (mUp spX10_tick)
theorem SL_tick_100 : SL_tick 100 = mUp spX10_tick := mOne_100 _
set_option maxRecDepth 100000 in
theorem vcL_tick (fl : Nat → Bool) (avs : List mV) (I : mM) (Q : mO → mM → Prop) (hsp : spL_tick fl avs I Q) : mVCH (tabL_tick.map (fun q => q.1)) SL_tick fl Q kL_tick 6 avs I := by
  obtain ⟨p0, p1, p2, rfl, Q0, h0, hQ⟩ := hsp
  refine ⟨rfl, ?_⟩
  show mWpL _ _ _ _ _ _ kL_tick_0 [some (mR (some 0)), some (mI p0), some (mI p1), some (mI p2), some (mR (some 230)), none] [] I
  simp only [false_and, and_false, true_or, or_true, false_or, or_false, true_and, and_true, true_implies, false_implies, implies_true, not_true_eq_false, not_false_eq_true, and_self, List.length_cons, List.length_nil, mNoCut_, mCat_n, mCat_I, mCat_L, mCat_R, mIsL_n, mIsL_I, mIsL_R, mIsL_L, Nat.reduceAdd, Nat.reduceSub, Nat.reduceLeDiff, Nat.reduceLT, Nat.reduceEqDiff, Nat.zero_le, Int.reduceEq, Int.reduceLT, Int.reduceLE, Int.reduceNeg, Int.reduceAdd, if_true, if_false, reduceIte, reduceCtorEq, Bool.false_eq_true, ne_eq, qCmp_0, qCmp_1, qCmp_2, qCmp_3, qCmp_4, qCmp_5, ib_0, ib_1, ib_2, lb_0, lb_1, lb_2, dv_0, dv_1, wl_ic, wl_ld_i, wl_ld_a, wl_st_a, wl_goto, wl_astI, wl_astL, wl_ret1, wl_i2x, ldR4, ldR0, ldI1, ldI2, ldI3, wl_callV4_0, stR5, mPut_s, mPut_I0, mPut_R0, mPut_L0, mPut_I1, mPut_R1, mPut_L1, mGoL_n, sfxL_tick_23, kL_tick_0, kL_tick_23, SL_tick_100, sk_0, al_0, sk_230, al_230, sn_230, mSet_ap, ncast]
  refine ⟨Q0, h0, fun o I1 hq => ?_⟩
  have hk := hQ o I1 hq
  rcases o with (_ | v) | E
  · exact hk.elim
  · obtain ⟨x, rfl⟩ : ∃ x : Int, v = mI x := by
      rcases v with v | v | v
      · exact ⟨v, rfl⟩
      · exact hk.elim
      · exact hk.elim
    simp only [false_and, and_false, true_or, or_true, false_or, or_false, true_and, and_true, true_implies, false_implies, implies_true, not_true_eq_false, not_false_eq_true, and_self, List.length_cons, List.length_nil, mNoCut_, mCat_n, mCat_I, mCat_L, mCat_R, mIsL_n, mIsL_I, mIsL_R, mIsL_L, Nat.reduceAdd, Nat.reduceSub, Nat.reduceLeDiff, Nat.reduceLT, Nat.reduceEqDiff, Nat.zero_le, Int.reduceEq, Int.reduceLT, Int.reduceLE, Int.reduceNeg, Int.reduceAdd, if_true, if_false, reduceIte, reduceCtorEq, Bool.false_eq_true, ne_eq, qCmp_0, qCmp_1, qCmp_2, qCmp_3, qCmp_4, qCmp_5, ib_0, ib_1, ib_2, lb_0, lb_1, lb_2, dv_0, dv_1, wl_ic, wl_ld_i, wl_ld_a, wl_st_a, wl_goto, wl_astI, wl_astL, wl_ret1, wl_i2x, ldR4, ldR0, ldI1, ldI2, ldI3, wl_callV4_0, stR5, mPut_s, mPut_I0, mPut_R0, mPut_L0, mPut_I1, mPut_R1, mPut_L1, mGoL_n, sfxL_tick_23, kL_tick_0, kL_tick_23, SL_tick_100, sk_0, al_0, sk_230, al_230, sn_230, mSet_ap, ncast]
    exact hk
  · exact hk
theorem ctrL_tick {l : Launch} (hst : l.stackTraces = false) (hT : mTxM l) : mCtrH l (hTab 0 12 tabL_tick) calL_tick spL_tick :=
  mMetH (T := TL_tick) (S := SL_tick) (hs := fun _ => []) hT tabL_tick 0 12 7 5 (by decide) okL_tick ⟨_, _, rfl, rfl⟩ okHL_tick.1 okHL_tick.2 (one_ok (mCtr_up (ctrX10_tick hst hT))) one_no vcL_tick
def spL_fielder : mSp := fun fl avs I Q => ∃ p0 p1 p2 p3 p4 : Int, avs = [mR (some 0), mI p0, mI p1, mI p2, mI p3, mI p4] ∧ mUp spX10_fielder fl [mR (some 0), mI p0, mI p1, mI p2, mI p3, mI p4] I (wKv (tabL_fielder.map (fun q => q.1)) Q)
def SL_fielder : Nat → mSp := mOne (mUp spX10_fielder)
theorem SL_fielder_100 : SL_fielder 100 = mUp spX10_fielder := mOne_100 _
set_option maxRecDepth 100000 in
theorem vcL_fielder (fl : Nat → Bool) (avs : List mV) (I : mM) (Q : mO → mM → Prop) (hsp : spL_fielder fl avs I Q) : mVCH (tabL_fielder.map (fun q => q.1)) SL_fielder fl Q kL_fielder 7 avs I := by
  obtain ⟨p0, p1, p2, p3, p4, rfl, Q0, h0, hQ⟩ := hsp
  refine ⟨rfl, ?_⟩
  show mWpL _ _ _ _ _ _ kL_fielder_0 [some (mR (some 0)), some (mI p0), some (mI p1), some (mI p2), some (mI p3), some (mI p4), none] [] I
  simp only [false_and, and_false, true_or, or_true, false_or, or_false, true_and, and_true, true_implies, false_implies, implies_true, not_true_eq_false, not_false_eq_true, and_self, List.length_cons, List.length_nil, mNoCut_, mCat_n, mCat_I, mCat_L, mCat_R, mIsL_n, mIsL_I, mIsL_R, mIsL_L, Nat.reduceAdd, Nat.reduceSub, Nat.reduceLeDiff, Nat.reduceLT, Nat.reduceEqDiff, Nat.zero_le, Int.reduceEq, Int.reduceLT, Int.reduceLE, Int.reduceNeg, Int.reduceAdd, if_true, if_false, reduceIte, reduceCtorEq, Bool.false_eq_true, ne_eq, qCmp_0, qCmp_1, qCmp_2, qCmp_3, qCmp_4, qCmp_5, ib_0, ib_1, ib_2, lb_0, lb_1, lb_2, dv_0, dv_1, wl_ic, wl_ld_i, wl_ld_a, wl_st_a, wl_goto, wl_ret1, ldR0, ldI1, ldI2, ldI3, ldI4, ldI5, wl_callV6_0, stR6, mPut_s, mPut_I0, mPut_R0, mPut_L0, mPut_I1, mPut_R1, mPut_L1, mGoL_n, sfxL_fielder_22, kL_fielder_0, kL_fielder_22, SL_fielder_100, sk_0, al_0, sk_230, al_230, sn_230, mSet_ap, ncast]
  refine ⟨Q0, h0, fun o I1 hq => ?_⟩
  have hk := hQ o I1 hq
  rcases o with (_ | v) | E
  · simp only [false_and, and_false, true_or, or_true, false_or, or_false, true_and, and_true, true_implies, false_implies, implies_true, not_true_eq_false, not_false_eq_true, and_self, List.length_cons, List.length_nil, mNoCut_, mCat_n, mCat_I, mCat_L, mCat_R, mIsL_n, mIsL_I, mIsL_R, mIsL_L, Nat.reduceAdd, Nat.reduceSub, Nat.reduceLeDiff, Nat.reduceLT, Nat.reduceEqDiff, Nat.zero_le, Int.reduceEq, Int.reduceLT, Int.reduceLE, Int.reduceNeg, Int.reduceAdd, if_true, if_false, reduceIte, reduceCtorEq, Bool.false_eq_true, ne_eq, qCmp_0, qCmp_1, qCmp_2, qCmp_3, qCmp_4, qCmp_5, ib_0, ib_1, ib_2, lb_0, lb_1, lb_2, dv_0, dv_1, wl_ic, wl_ld_i, wl_ld_a, wl_st_a, wl_goto, wl_ret1, ldR0, ldI1, ldI2, ldI3, ldI4, ldI5, wl_callV6_0, stR6, mPut_s, mPut_I0, mPut_R0, mPut_L0, mPut_I1, mPut_R1, mPut_L1, mGoL_n, sfxL_fielder_22, kL_fielder_0, kL_fielder_22, SL_fielder_100, sk_0, al_0, sk_230, al_230, sn_230, mSet_ap, ncast]
    exact hk
  · exact hk.elim
  · exact hk
theorem ctrL_fielder {l : Launch} (hst : l.stackTraces = false) (hT : mTxM l) : mCtrH l (hTab 0 11 tabL_fielder) calL_fielder spL_fielder :=
  mMetH (T := TL_fielder) (S := SL_fielder) (hs := fun _ => []) hT tabL_fielder 0 11 8 6 (by decide) okL_fielder ⟨_, _, rfl, rfl⟩ okHL_fielder.1 okHL_fielder.2 (one_ok (mCtr_up (ctrX10_fielder hst hT))) one_no vcL_fielder
def spL_stand : mSp := fun fl avs I Q => ∃ p0 p1 : Int, avs = [mR (some 0), mI p0, mI p1, mR (some 230)] ∧ mUp spX10_stand fl [mR (some 0), mI p0, mI p1] I (wKi (tabL_stand.map (fun q => q.1)) Q)
def SL_stand : Nat → mSp := mOne (mUp spX10_stand)
theorem SL_stand_100 : SL_stand 100 = mUp spX10_stand := mOne_100 _
set_option maxRecDepth 100000 in
theorem vcL_stand (fl : Nat → Bool) (avs : List mV) (I : mM) (Q : mO → mM → Prop) (hsp : spL_stand fl avs I Q) : mVCH (tabL_stand.map (fun q => q.1)) SL_stand fl Q kL_stand 5 avs I := by
  obtain ⟨p0, p1, rfl, Q0, h0, hQ⟩ := hsp
  refine ⟨rfl, ?_⟩
  show mWpL _ _ _ _ _ _ kL_stand_0 [some (mR (some 0)), some (mI p0), some (mI p1), some (mR (some 230)), none] [] I
  simp only [false_and, and_false, true_or, or_true, false_or, or_false, true_and, and_true, true_implies, false_implies, implies_true, not_true_eq_false, not_false_eq_true, and_self, List.length_cons, List.length_nil, mNoCut_, mCat_n, mCat_I, mCat_L, mCat_R, mIsL_n, mIsL_I, mIsL_R, mIsL_L, Nat.reduceAdd, Nat.reduceSub, Nat.reduceLeDiff, Nat.reduceLT, Nat.reduceEqDiff, Nat.zero_le, Int.reduceEq, Int.reduceLT, Int.reduceLE, Int.reduceNeg, Int.reduceAdd, if_true, if_false, reduceIte, reduceCtorEq, Bool.false_eq_true, ne_eq, qCmp_0, qCmp_1, qCmp_2, qCmp_3, qCmp_4, qCmp_5, ib_0, ib_1, ib_2, lb_0, lb_1, lb_2, dv_0, dv_1, wl_ic, wl_ld_i, wl_ld_a, wl_st_a, wl_goto, wl_astI, wl_astL, wl_ret1, wl_i2x, ldR3, ldR0, ldI1, ldI2, wl_callV3_0, stR4, mPut_s, mPut_I0, mPut_R0, mPut_L0, mPut_I1, mPut_R1, mPut_L1, mGoL_n, sfxL_stand_21, kL_stand_0, kL_stand_21, SL_stand_100, sk_0, al_0, sk_230, al_230, sn_230, mSet_ap, ncast]
  refine ⟨Q0, h0, fun o I1 hq => ?_⟩
  have hk := hQ o I1 hq
  rcases o with (_ | v) | E
  · exact hk.elim
  · obtain ⟨x, rfl⟩ : ∃ x : Int, v = mI x := by
      rcases v with v | v | v
      · exact ⟨v, rfl⟩
      · exact hk.elim
      · exact hk.elim
    simp only [false_and, and_false, true_or, or_true, false_or, or_false, true_and, and_true, true_implies, false_implies, implies_true, not_true_eq_false, not_false_eq_true, and_self, List.length_cons, List.length_nil, mNoCut_, mCat_n, mCat_I, mCat_L, mCat_R, mIsL_n, mIsL_I, mIsL_R, mIsL_L, Nat.reduceAdd, Nat.reduceSub, Nat.reduceLeDiff, Nat.reduceLT, Nat.reduceEqDiff, Nat.zero_le, Int.reduceEq, Int.reduceLT, Int.reduceLE, Int.reduceNeg, Int.reduceAdd, if_true, if_false, reduceIte, reduceCtorEq, Bool.false_eq_true, ne_eq, qCmp_0, qCmp_1, qCmp_2, qCmp_3, qCmp_4, qCmp_5, ib_0, ib_1, ib_2, lb_0, lb_1, lb_2, dv_0, dv_1, wl_ic, wl_ld_i, wl_ld_a, wl_st_a, wl_goto, wl_astI, wl_astL, wl_ret1, wl_i2x, ldR3, ldR0, ldI1, ldI2, wl_callV3_0, stR4, mPut_s, mPut_I0, mPut_R0, mPut_L0, mPut_I1, mPut_R1, mPut_L1, mGoL_n, sfxL_stand_21, kL_stand_0, kL_stand_21, SL_stand_100, sk_0, al_0, sk_230, al_230, sn_230, mSet_ap, ncast]
    exact hk
  · exact hk
theorem ctrL_stand {l : Launch} (hst : l.stackTraces = false) (hT : mTxM l) : mCtrH l (hTab 0 10 tabL_stand) calL_stand spL_stand :=
  mMetH (T := TL_stand) (S := SL_stand) (hs := fun _ => []) hT tabL_stand 0 10 5 4 (by decide) okL_stand ⟨_, _, rfl, rfl⟩ okHL_stand.1 okHL_stand.2 (one_ok (mCtr_up (ctrX10_stand hst hT))) one_no vcL_stand
def spL_of : mSp := fun fl avs I Q => ∃ p0 p1 : Int, avs = [mR (some 0), mI p0, mI p1, mR (some 230)] ∧ mUp spX10_of fl [mR (some 0), mI p0, mI p1] I (wKi (tabL_of.map (fun q => q.1)) Q)
def SL_of : Nat → mSp := mOne (mUp spX10_of)
theorem SL_of_100 : SL_of 100 = mUp spX10_of := mOne_100 _
set_option maxRecDepth 100000 in
theorem vcL_of (fl : Nat → Bool) (avs : List mV) (I : mM) (Q : mO → mM → Prop) (hsp : spL_of fl avs I Q) : mVCH (tabL_of.map (fun q => q.1)) SL_of fl Q kL_of 5 avs I := by
  obtain ⟨p0, p1, rfl, Q0, h0, hQ⟩ := hsp
  refine ⟨rfl, ?_⟩
  show mWpL _ _ _ _ _ _ kL_of_0 [some (mR (some 0)), some (mI p0), some (mI p1), some (mR (some 230)), none] [] I
  simp only [false_and, and_false, true_or, or_true, false_or, or_false, true_and, and_true, true_implies, false_implies, implies_true, not_true_eq_false, not_false_eq_true, and_self, List.length_cons, List.length_nil, mNoCut_, mCat_n, mCat_I, mCat_L, mCat_R, mIsL_n, mIsL_I, mIsL_R, mIsL_L, Nat.reduceAdd, Nat.reduceSub, Nat.reduceLeDiff, Nat.reduceLT, Nat.reduceEqDiff, Nat.zero_le, Int.reduceEq, Int.reduceLT, Int.reduceLE, Int.reduceNeg, Int.reduceAdd, if_true, if_false, reduceIte, reduceCtorEq, Bool.false_eq_true, ne_eq, qCmp_0, qCmp_1, qCmp_2, qCmp_3, qCmp_4, qCmp_5, ib_0, ib_1, ib_2, lb_0, lb_1, lb_2, dv_0, dv_1, wl_ic, wl_ld_i, wl_ld_a, wl_st_a, wl_goto, wl_astI, wl_astL, wl_ret1, wl_i2x, ldR3, ldR0, ldI1, ldI2, wl_callV3_0, stR4, mPut_s, mPut_I0, mPut_R0, mPut_L0, mPut_I1, mPut_R1, mPut_L1, mGoL_n, sfxL_of_21, kL_of_0, kL_of_21, SL_of_100, sk_0, al_0, sk_230, al_230, sn_230, mSet_ap, ncast]
  refine ⟨Q0, h0, fun o I1 hq => ?_⟩
  have hk := hQ o I1 hq
  rcases o with (_ | v) | E
  · exact hk.elim
  · obtain ⟨x, rfl⟩ : ∃ x : Int, v = mI x := by
      rcases v with v | v | v
      · exact ⟨v, rfl⟩
      · exact hk.elim
      · exact hk.elim
    simp only [false_and, and_false, true_or, or_true, false_or, or_false, true_and, and_true, true_implies, false_implies, implies_true, not_true_eq_false, not_false_eq_true, and_self, List.length_cons, List.length_nil, mNoCut_, mCat_n, mCat_I, mCat_L, mCat_R, mIsL_n, mIsL_I, mIsL_R, mIsL_L, Nat.reduceAdd, Nat.reduceSub, Nat.reduceLeDiff, Nat.reduceLT, Nat.reduceEqDiff, Nat.zero_le, Int.reduceEq, Int.reduceLT, Int.reduceLE, Int.reduceNeg, Int.reduceAdd, if_true, if_false, reduceIte, reduceCtorEq, Bool.false_eq_true, ne_eq, qCmp_0, qCmp_1, qCmp_2, qCmp_3, qCmp_4, qCmp_5, ib_0, ib_1, ib_2, lb_0, lb_1, lb_2, dv_0, dv_1, wl_ic, wl_ld_i, wl_ld_a, wl_st_a, wl_goto, wl_astI, wl_astL, wl_ret1, wl_i2x, ldR3, ldR0, ldI1, ldI2, wl_callV3_0, stR4, mPut_s, mPut_I0, mPut_R0, mPut_L0, mPut_I1, mPut_R1, mPut_L1, mGoL_n, sfxL_of_21, kL_of_0, kL_of_21, SL_of_100, sk_0, al_0, sk_230, al_230, sn_230, mSet_ap, ncast]
    exact hk
  · exact hk
theorem ctrL_of {l : Launch} (hst : l.stackTraces = false) (hT : mTxM l) : mCtrH l (hTab 0 10 tabL_of) calL_of spL_of :=
  mMetH (T := TL_of) (S := SL_of) (hs := fun _ => []) hT tabL_of 0 10 5 4 (by decide) okL_of ⟨_, _, rfl, rfl⟩ okHL_of.1 okHL_of.2 (one_ok (mCtr_up (ctrX10_of hst hT))) one_no vcL_of
def spL_batter : mSp := fun fl avs I Q => ∃ p0 p1 : Int, avs = [mR (some 0), mI p0, mI p1] ∧ mUp spX10_batter fl [mR (some 0), mI p0, mI p1] I (wKv (tabL_batter.map (fun q => q.1)) Q)
def SL_batter : Nat → mSp := mOne (mUp spX10_batter)
theorem SL_batter_100 : SL_batter 100 = mUp spX10_batter := mOne_100 _
set_option maxRecDepth 100000 in
theorem vcL_batter (fl : Nat → Bool) (avs : List mV) (I : mM) (Q : mO → mM → Prop) (hsp : spL_batter fl avs I Q) : mVCH (tabL_batter.map (fun q => q.1)) SL_batter fl Q kL_batter 4 avs I := by
  obtain ⟨p0, p1, rfl, Q0, h0, hQ⟩ := hsp
  refine ⟨rfl, ?_⟩
  show mWpL _ _ _ _ _ _ kL_batter_0 [some (mR (some 0)), some (mI p0), some (mI p1), none] [] I
  simp only [false_and, and_false, true_or, or_true, false_or, or_false, true_and, and_true, true_implies, false_implies, implies_true, not_true_eq_false, not_false_eq_true, and_self, List.length_cons, List.length_nil, mNoCut_, mCat_n, mCat_I, mCat_L, mCat_R, mIsL_n, mIsL_I, mIsL_R, mIsL_L, Nat.reduceAdd, Nat.reduceSub, Nat.reduceLeDiff, Nat.reduceLT, Nat.reduceEqDiff, Nat.zero_le, Int.reduceEq, Int.reduceLT, Int.reduceLE, Int.reduceNeg, Int.reduceAdd, if_true, if_false, reduceIte, reduceCtorEq, Bool.false_eq_true, ne_eq, qCmp_0, qCmp_1, qCmp_2, qCmp_3, qCmp_4, qCmp_5, ib_0, ib_1, ib_2, lb_0, lb_1, lb_2, dv_0, dv_1, wl_ic, wl_ld_i, wl_ld_a, wl_st_a, wl_goto, wl_ret1, ldR0, ldI1, ldI2, wl_callV3_0, stR3, mPut_s, mPut_I0, mPut_R0, mPut_L0, mPut_I1, mPut_R1, mPut_L1, mGoL_n, sfxL_batter_12, kL_batter_0, kL_batter_12, SL_batter_100, sk_0, al_0, sk_230, al_230, sn_230, mSet_ap, ncast]
  refine ⟨Q0, h0, fun o I1 hq => ?_⟩
  have hk := hQ o I1 hq
  rcases o with (_ | v) | E
  · simp only [false_and, and_false, true_or, or_true, false_or, or_false, true_and, and_true, true_implies, false_implies, implies_true, not_true_eq_false, not_false_eq_true, and_self, List.length_cons, List.length_nil, mNoCut_, mCat_n, mCat_I, mCat_L, mCat_R, mIsL_n, mIsL_I, mIsL_R, mIsL_L, Nat.reduceAdd, Nat.reduceSub, Nat.reduceLeDiff, Nat.reduceLT, Nat.reduceEqDiff, Nat.zero_le, Int.reduceEq, Int.reduceLT, Int.reduceLE, Int.reduceNeg, Int.reduceAdd, if_true, if_false, reduceIte, reduceCtorEq, Bool.false_eq_true, ne_eq, qCmp_0, qCmp_1, qCmp_2, qCmp_3, qCmp_4, qCmp_5, ib_0, ib_1, ib_2, lb_0, lb_1, lb_2, dv_0, dv_1, wl_ic, wl_ld_i, wl_ld_a, wl_st_a, wl_goto, wl_ret1, ldR0, ldI1, ldI2, wl_callV3_0, stR3, mPut_s, mPut_I0, mPut_R0, mPut_L0, mPut_I1, mPut_R1, mPut_L1, mGoL_n, sfxL_batter_12, kL_batter_0, kL_batter_12, SL_batter_100, sk_0, al_0, sk_230, al_230, sn_230, mSet_ap, ncast]
    exact hk
  · exact hk.elim
  · exact hk
theorem ctrL_batter {l : Launch} (hst : l.stackTraces = false) (hT : mTxM l) : mCtrH l (hTab 0 6 tabL_batter) calL_batter spL_batter :=
  mMetH (T := TL_batter) (S := SL_batter) (hs := fun _ => []) hT tabL_batter 0 6 3 3 (by decide) okL_batter ⟨_, _, rfl, rfl⟩ okHL_batter.1 okHL_batter.2 (one_ok (mCtr_up (ctrX10_batter hst hT))) one_no vcL_batter
def spL_catcher : mSp := fun fl avs I Q => ∃ p0 p1 : Int, avs = [mR (some 0), mI p0, mI p1, mR (some 230)] ∧ mUp spX10_catcher fl [mR (some 0), mI p0, mI p1] I (wKi (tabL_catcher.map (fun q => q.1)) Q)
def SL_catcher : Nat → mSp := mOne (mUp spX10_catcher)
theorem SL_catcher_100 : SL_catcher 100 = mUp spX10_catcher := mOne_100 _
set_option maxRecDepth 100000 in
theorem vcL_catcher (fl : Nat → Bool) (avs : List mV) (I : mM) (Q : mO → mM → Prop) (hsp : spL_catcher fl avs I Q) : mVCH (tabL_catcher.map (fun q => q.1)) SL_catcher fl Q kL_catcher 5 avs I := by
  obtain ⟨p0, p1, rfl, Q0, h0, hQ⟩ := hsp
  refine ⟨rfl, ?_⟩
  show mWpL _ _ _ _ _ _ kL_catcher_0 [some (mR (some 0)), some (mI p0), some (mI p1), some (mR (some 230)), none] [] I
  simp only [false_and, and_false, true_or, or_true, false_or, or_false, true_and, and_true, true_implies, false_implies, implies_true, not_true_eq_false, not_false_eq_true, and_self, List.length_cons, List.length_nil, mNoCut_, mCat_n, mCat_I, mCat_L, mCat_R, mIsL_n, mIsL_I, mIsL_R, mIsL_L, Nat.reduceAdd, Nat.reduceSub, Nat.reduceLeDiff, Nat.reduceLT, Nat.reduceEqDiff, Nat.zero_le, Int.reduceEq, Int.reduceLT, Int.reduceLE, Int.reduceNeg, Int.reduceAdd, if_true, if_false, reduceIte, reduceCtorEq, Bool.false_eq_true, ne_eq, qCmp_0, qCmp_1, qCmp_2, qCmp_3, qCmp_4, qCmp_5, ib_0, ib_1, ib_2, lb_0, lb_1, lb_2, dv_0, dv_1, wl_ic, wl_ld_i, wl_ld_a, wl_st_a, wl_goto, wl_astI, wl_astL, wl_ret1, wl_i2x, ldR3, ldR0, ldI1, ldI2, wl_callV3_0, stR4, mPut_s, mPut_I0, mPut_R0, mPut_L0, mPut_I1, mPut_R1, mPut_L1, mGoL_n, sfxL_catcher_17, kL_catcher_0, kL_catcher_17, SL_catcher_100, sk_0, al_0, sk_230, al_230, sn_230, mSet_ap, ncast]
  refine ⟨Q0, h0, fun o I1 hq => ?_⟩
  have hk := hQ o I1 hq
  rcases o with (_ | v) | E
  · exact hk.elim
  · obtain ⟨x, rfl⟩ : ∃ x : Int, v = mI x := by
      rcases v with v | v | v
      · exact ⟨v, rfl⟩
      · exact hk.elim
      · exact hk.elim
    simp only [false_and, and_false, true_or, or_true, false_or, or_false, true_and, and_true, true_implies, false_implies, implies_true, not_true_eq_false, not_false_eq_true, and_self, List.length_cons, List.length_nil, mNoCut_, mCat_n, mCat_I, mCat_L, mCat_R, mIsL_n, mIsL_I, mIsL_R, mIsL_L, Nat.reduceAdd, Nat.reduceSub, Nat.reduceLeDiff, Nat.reduceLT, Nat.reduceEqDiff, Nat.zero_le, Int.reduceEq, Int.reduceLT, Int.reduceLE, Int.reduceNeg, Int.reduceAdd, if_true, if_false, reduceIte, reduceCtorEq, Bool.false_eq_true, ne_eq, qCmp_0, qCmp_1, qCmp_2, qCmp_3, qCmp_4, qCmp_5, ib_0, ib_1, ib_2, lb_0, lb_1, lb_2, dv_0, dv_1, wl_ic, wl_ld_i, wl_ld_a, wl_st_a, wl_goto, wl_astI, wl_astL, wl_ret1, wl_i2x, ldR3, ldR0, ldI1, ldI2, wl_callV3_0, stR4, mPut_s, mPut_I0, mPut_R0, mPut_L0, mPut_I1, mPut_R1, mPut_L1, mGoL_n, sfxL_catcher_17, kL_catcher_0, kL_catcher_17, SL_catcher_100, sk_0, al_0, sk_230, al_230, sn_230, mSet_ap, ncast]
    exact hk
  · exact hk
theorem ctrL_catcher {l : Launch} (hst : l.stackTraces = false) (hT : mTxM l) : mCtrH l (hTab 0 10 tabL_catcher) calL_catcher spL_catcher :=
  mMetH (T := TL_catcher) (S := SL_catcher) (hs := fun _ => []) hT tabL_catcher 0 10 5 4 (by decide) okL_catcher ⟨_, _, rfl, rfl⟩ okHL_catcher.1 okHL_catcher.2 (one_ok (mCtr_up (ctrX10_catcher hst hT))) one_no vcL_catcher
def spL_caught : mSp := fun fl avs I Q => ∃ p0 p1 : Int, avs = [mR (some 0), mI p0, mI p1, mR (some 230)] ∧ mUp spX10_caught fl [mR (some 0), mI p0, mI p1] I (wKi (tabL_caught.map (fun q => q.1)) Q)
def SL_caught : Nat → mSp := mOne (mUp spX10_caught)
theorem SL_caught_100 : SL_caught 100 = mUp spX10_caught := mOne_100 _
set_option maxRecDepth 100000 in
theorem vcL_caught (fl : Nat → Bool) (avs : List mV) (I : mM) (Q : mO → mM → Prop) (hsp : spL_caught fl avs I Q) : mVCH (tabL_caught.map (fun q => q.1)) SL_caught fl Q kL_caught 5 avs I := by
  obtain ⟨p0, p1, rfl, Q0, h0, hQ⟩ := hsp
  refine ⟨rfl, ?_⟩
  show mWpL _ _ _ _ _ _ kL_caught_0 [some (mR (some 0)), some (mI p0), some (mI p1), some (mR (some 230)), none] [] I
  simp only [false_and, and_false, true_or, or_true, false_or, or_false, true_and, and_true, true_implies, false_implies, implies_true, not_true_eq_false, not_false_eq_true, and_self, List.length_cons, List.length_nil, mNoCut_, mCat_n, mCat_I, mCat_L, mCat_R, mIsL_n, mIsL_I, mIsL_R, mIsL_L, Nat.reduceAdd, Nat.reduceSub, Nat.reduceLeDiff, Nat.reduceLT, Nat.reduceEqDiff, Nat.zero_le, Int.reduceEq, Int.reduceLT, Int.reduceLE, Int.reduceNeg, Int.reduceAdd, if_true, if_false, reduceIte, reduceCtorEq, Bool.false_eq_true, ne_eq, qCmp_0, qCmp_1, qCmp_2, qCmp_3, qCmp_4, qCmp_5, ib_0, ib_1, ib_2, lb_0, lb_1, lb_2, dv_0, dv_1, wl_ic, wl_ld_i, wl_ld_a, wl_st_a, wl_goto, wl_astI, wl_astL, wl_ret1, wl_i2x, ldR3, ldR0, ldI1, ldI2, wl_callV3_0, stR4, mPut_s, mPut_I0, mPut_R0, mPut_L0, mPut_I1, mPut_R1, mPut_L1, mGoL_n, sfxL_caught_17, kL_caught_0, kL_caught_17, SL_caught_100, sk_0, al_0, sk_230, al_230, sn_230, mSet_ap, ncast]
  refine ⟨Q0, h0, fun o I1 hq => ?_⟩
  have hk := hQ o I1 hq
  rcases o with (_ | v) | E
  · exact hk.elim
  · obtain ⟨x, rfl⟩ : ∃ x : Int, v = mI x := by
      rcases v with v | v | v
      · exact ⟨v, rfl⟩
      · exact hk.elim
      · exact hk.elim
    simp only [false_and, and_false, true_or, or_true, false_or, or_false, true_and, and_true, true_implies, false_implies, implies_true, not_true_eq_false, not_false_eq_true, and_self, List.length_cons, List.length_nil, mNoCut_, mCat_n, mCat_I, mCat_L, mCat_R, mIsL_n, mIsL_I, mIsL_R, mIsL_L, Nat.reduceAdd, Nat.reduceSub, Nat.reduceLeDiff, Nat.reduceLT, Nat.reduceEqDiff, Nat.zero_le, Int.reduceEq, Int.reduceLT, Int.reduceLE, Int.reduceNeg, Int.reduceAdd, if_true, if_false, reduceIte, reduceCtorEq, Bool.false_eq_true, ne_eq, qCmp_0, qCmp_1, qCmp_2, qCmp_3, qCmp_4, qCmp_5, ib_0, ib_1, ib_2, lb_0, lb_1, lb_2, dv_0, dv_1, wl_ic, wl_ld_i, wl_ld_a, wl_st_a, wl_goto, wl_astI, wl_astL, wl_ret1, wl_i2x, ldR3, ldR0, ldI1, ldI2, wl_callV3_0, stR4, mPut_s, mPut_I0, mPut_R0, mPut_L0, mPut_I1, mPut_R1, mPut_L1, mGoL_n, sfxL_caught_17, kL_caught_0, kL_caught_17, SL_caught_100, sk_0, al_0, sk_230, al_230, sn_230, mSet_ap, ncast]
    exact hk
  · exact hk
theorem ctrL_caught {l : Launch} (hst : l.stackTraces = false) (hT : mTxM l) : mCtrH l (hTab 0 10 tabL_caught) calL_caught spL_caught :=
  mMetH (T := TL_caught) (S := SL_caught) (hs := fun _ => []) hT tabL_caught 0 10 5 4 (by decide) okL_caught ⟨_, _, rfl, rfl⟩ okHL_caught.1 okHL_caught.2 (one_ok (mCtr_up (ctrX10_caught hst hT))) one_no vcL_caught
def spL_stopper : mSp := fun fl avs I Q => ∃ p0 p1 : Int, avs = [mR (some 0), mI p0, mI p1, mR (some 230)] ∧ mUp spX10_stopper fl [mR (some 0), mI p0, mI p1] I (wKi (tabL_stopper.map (fun q => q.1)) Q)
def SL_stopper : Nat → mSp := mOne (mUp spX10_stopper)
theorem SL_stopper_100 : SL_stopper 100 = mUp spX10_stopper := mOne_100 _
set_option maxRecDepth 100000 in
theorem vcL_stopper (fl : Nat → Bool) (avs : List mV) (I : mM) (Q : mO → mM → Prop) (hsp : spL_stopper fl avs I Q) : mVCH (tabL_stopper.map (fun q => q.1)) SL_stopper fl Q kL_stopper 5 avs I := by
  obtain ⟨p0, p1, rfl, Q0, h0, hQ⟩ := hsp
  refine ⟨rfl, ?_⟩
  show mWpL _ _ _ _ _ _ kL_stopper_0 [some (mR (some 0)), some (mI p0), some (mI p1), some (mR (some 230)), none] [] I
  simp only [false_and, and_false, true_or, or_true, false_or, or_false, true_and, and_true, true_implies, false_implies, implies_true, not_true_eq_false, not_false_eq_true, and_self, List.length_cons, List.length_nil, mNoCut_, mCat_n, mCat_I, mCat_L, mCat_R, mIsL_n, mIsL_I, mIsL_R, mIsL_L, Nat.reduceAdd, Nat.reduceSub, Nat.reduceLeDiff, Nat.reduceLT, Nat.reduceEqDiff, Nat.zero_le, Int.reduceEq, Int.reduceLT, Int.reduceLE, Int.reduceNeg, Int.reduceAdd, if_true, if_false, reduceIte, reduceCtorEq, Bool.false_eq_true, ne_eq, qCmp_0, qCmp_1, qCmp_2, qCmp_3, qCmp_4, qCmp_5, ib_0, ib_1, ib_2, lb_0, lb_1, lb_2, dv_0, dv_1, wl_ic, wl_ld_i, wl_ld_a, wl_st_a, wl_goto, wl_astI, wl_astL, wl_ret1, wl_i2x, ldR3, ldR0, ldI1, ldI2, wl_callV3_0, stR4, mPut_s, mPut_I0, mPut_R0, mPut_L0, mPut_I1, mPut_R1, mPut_L1, mGoL_n, sfxL_stopper_17, kL_stopper_0, kL_stopper_17, SL_stopper_100, sk_0, al_0, sk_230, al_230, sn_230, mSet_ap, ncast]
  refine ⟨Q0, h0, fun o I1 hq => ?_⟩
  have hk := hQ o I1 hq
  rcases o with (_ | v) | E
  · exact hk.elim
  · obtain ⟨x, rfl⟩ : ∃ x : Int, v = mI x := by
      rcases v with v | v | v
      · exact ⟨v, rfl⟩
      · exact hk.elim
      · exact hk.elim
    simp only [false_and, and_false, true_or, or_true, false_or, or_false, true_and, and_true, true_implies, false_implies, implies_true, not_true_eq_false, not_false_eq_true, and_self, List.length_cons, List.length_nil, mNoCut_, mCat_n, mCat_I, mCat_L, mCat_R, mIsL_n, mIsL_I, mIsL_R, mIsL_L, Nat.reduceAdd, Nat.reduceSub, Nat.reduceLeDiff, Nat.reduceLT, Nat.reduceEqDiff, Nat.zero_le, Int.reduceEq, Int.reduceLT, Int.reduceLE, Int.reduceNeg, Int.reduceAdd, if_true, if_false, reduceIte, reduceCtorEq, Bool.false_eq_true, ne_eq, qCmp_0, qCmp_1, qCmp_2, qCmp_3, qCmp_4, qCmp_5, ib_0, ib_1, ib_2, lb_0, lb_1, lb_2, dv_0, dv_1, wl_ic, wl_ld_i, wl_ld_a, wl_st_a, wl_goto, wl_astI, wl_astL, wl_ret1, wl_i2x, ldR3, ldR0, ldI1, ldI2, wl_callV3_0, stR4, mPut_s, mPut_I0, mPut_R0, mPut_L0, mPut_I1, mPut_R1, mPut_L1, mGoL_n, sfxL_stopper_17, kL_stopper_0, kL_stopper_17, SL_stopper_100, sk_0, al_0, sk_230, al_230, sn_230, mSet_ap, ncast]
    exact hk
  · exact hk
theorem ctrL_stopper {l : Launch} (hst : l.stackTraces = false) (hT : mTxM l) : mCtrH l (hTab 0 10 tabL_stopper) calL_stopper spL_stopper :=
  mMetH (T := TL_stopper) (S := SL_stopper) (hs := fun _ => []) hT tabL_stopper 0 10 5 4 (by decide) okL_stopper ⟨_, _, rfl, rfl⟩ okHL_stopper.1 okHL_stopper.2 (one_ok (mCtr_up (ctrX10_stopper hst hT))) one_no vcL_stopper
def spL_stops : mSp := fun fl avs I Q => ∃ p0 p1 : Int, avs = [mR (some 0), mI p0, mI p1, mR (some 230)] ∧ mUp spX10_stops fl [mR (some 0), mI p0, mI p1] I (wKi (tabL_stops.map (fun q => q.1)) Q)
def SL_stops : Nat → mSp := mOne (mUp spX10_stops)
theorem SL_stops_100 : SL_stops 100 = mUp spX10_stops := mOne_100 _
set_option maxRecDepth 100000 in
theorem vcL_stops (fl : Nat → Bool) (avs : List mV) (I : mM) (Q : mO → mM → Prop) (hsp : spL_stops fl avs I Q) : mVCH (tabL_stops.map (fun q => q.1)) SL_stops fl Q kL_stops 5 avs I := by
  obtain ⟨p0, p1, rfl, Q0, h0, hQ⟩ := hsp
  refine ⟨rfl, ?_⟩
  show mWpL _ _ _ _ _ _ kL_stops_0 [some (mR (some 0)), some (mI p0), some (mI p1), some (mR (some 230)), none] [] I
  simp only [false_and, and_false, true_or, or_true, false_or, or_false, true_and, and_true, true_implies, false_implies, implies_true, not_true_eq_false, not_false_eq_true, and_self, List.length_cons, List.length_nil, mNoCut_, mCat_n, mCat_I, mCat_L, mCat_R, mIsL_n, mIsL_I, mIsL_R, mIsL_L, Nat.reduceAdd, Nat.reduceSub, Nat.reduceLeDiff, Nat.reduceLT, Nat.reduceEqDiff, Nat.zero_le, Int.reduceEq, Int.reduceLT, Int.reduceLE, Int.reduceNeg, Int.reduceAdd, if_true, if_false, reduceIte, reduceCtorEq, Bool.false_eq_true, ne_eq, qCmp_0, qCmp_1, qCmp_2, qCmp_3, qCmp_4, qCmp_5, ib_0, ib_1, ib_2, lb_0, lb_1, lb_2, dv_0, dv_1, wl_ic, wl_ld_i, wl_ld_a, wl_st_a, wl_goto, wl_astI, wl_astL, wl_ret1, wl_i2x, ldR3, ldR0, ldI1, ldI2, wl_callV3_0, stR4, mPut_s, mPut_I0, mPut_R0, mPut_L0, mPut_I1, mPut_R1, mPut_L1, mGoL_n, sfxL_stops_17, kL_stops_0, kL_stops_17, SL_stops_100, sk_0, al_0, sk_230, al_230, sn_230, mSet_ap, ncast]
  refine ⟨Q0, h0, fun o I1 hq => ?_⟩
  have hk := hQ o I1 hq
  rcases o with (_ | v) | E
  · exact hk.elim
  · obtain ⟨x, rfl⟩ : ∃ x : Int, v = mI x := by
      rcases v with v | v | v
      · exact ⟨v, rfl⟩
      · exact hk.elim
      · exact hk.elim
    simp only [false_and, and_false, true_or, or_true, false_or, or_false, true_and, and_true, true_implies, false_implies, implies_true, not_true_eq_false, not_false_eq_true, and_self, List.length_cons, List.length_nil, mNoCut_, mCat_n, mCat_I, mCat_L, mCat_R, mIsL_n, mIsL_I, mIsL_R, mIsL_L, Nat.reduceAdd, Nat.reduceSub, Nat.reduceLeDiff, Nat.reduceLT, Nat.reduceEqDiff, Nat.zero_le, Int.reduceEq, Int.reduceLT, Int.reduceLE, Int.reduceNeg, Int.reduceAdd, if_true, if_false, reduceIte, reduceCtorEq, Bool.false_eq_true, ne_eq, qCmp_0, qCmp_1, qCmp_2, qCmp_3, qCmp_4, qCmp_5, ib_0, ib_1, ib_2, lb_0, lb_1, lb_2, dv_0, dv_1, wl_ic, wl_ld_i, wl_ld_a, wl_st_a, wl_goto, wl_astI, wl_astL, wl_ret1, wl_i2x, ldR3, ldR0, ldI1, ldI2, wl_callV3_0, stR4, mPut_s, mPut_I0, mPut_R0, mPut_L0, mPut_I1, mPut_R1, mPut_L1, mGoL_n, sfxL_stops_17, kL_stops_0, kL_stops_17, SL_stops_100, sk_0, al_0, sk_230, al_230, sn_230, mSet_ap, ncast]
    exact hk
  · exact hk
theorem ctrL_stops {l : Launch} (hst : l.stackTraces = false) (hT : mTxM l) : mCtrH l (hTab 0 10 tabL_stops) calL_stops spL_stops :=
  mMetH (T := TL_stops) (S := SL_stops) (hs := fun _ => []) hT tabL_stops 0 10 5 4 (by decide) okL_stops ⟨_, _, rfl, rfl⟩ okHL_stops.1 okHL_stops.2 (one_ok (mCtr_up (ctrX10_stops hst hT))) one_no vcL_stops
def spL_runs : mSp := fun fl avs I Q => ∃ p0 p1 : Int, avs = [mR (some 0), mI p0, mI p1, mR (some 230)] ∧ mUp spX10_runs fl [mR (some 0), mI p0, mI p1] I (wKi (tabL_runs.map (fun q => q.1)) Q)
def SL_runs : Nat → mSp := mOne (mUp spX10_runs)
theorem SL_runs_100 : SL_runs 100 = mUp spX10_runs := mOne_100 _
set_option maxRecDepth 100000 in
theorem vcL_runs (fl : Nat → Bool) (avs : List mV) (I : mM) (Q : mO → mM → Prop) (hsp : spL_runs fl avs I Q) : mVCH (tabL_runs.map (fun q => q.1)) SL_runs fl Q kL_runs 5 avs I := by
  obtain ⟨p0, p1, rfl, Q0, h0, hQ⟩ := hsp
  refine ⟨rfl, ?_⟩
  show mWpL _ _ _ _ _ _ kL_runs_0 [some (mR (some 0)), some (mI p0), some (mI p1), some (mR (some 230)), none] [] I
  simp only [false_and, and_false, true_or, or_true, false_or, or_false, true_and, and_true, true_implies, false_implies, implies_true, not_true_eq_false, not_false_eq_true, and_self, List.length_cons, List.length_nil, mNoCut_, mCat_n, mCat_I, mCat_L, mCat_R, mIsL_n, mIsL_I, mIsL_R, mIsL_L, Nat.reduceAdd, Nat.reduceSub, Nat.reduceLeDiff, Nat.reduceLT, Nat.reduceEqDiff, Nat.zero_le, Int.reduceEq, Int.reduceLT, Int.reduceLE, Int.reduceNeg, Int.reduceAdd, if_true, if_false, reduceIte, reduceCtorEq, Bool.false_eq_true, ne_eq, qCmp_0, qCmp_1, qCmp_2, qCmp_3, qCmp_4, qCmp_5, ib_0, ib_1, ib_2, lb_0, lb_1, lb_2, dv_0, dv_1, wl_ic, wl_ld_i, wl_ld_a, wl_st_a, wl_goto, wl_astI, wl_astL, wl_ret1, wl_i2x, ldR3, ldR0, ldI1, ldI2, wl_callV3_0, stR4, mPut_s, mPut_I0, mPut_R0, mPut_L0, mPut_I1, mPut_R1, mPut_L1, mGoL_n, sfxL_runs_17, kL_runs_0, kL_runs_17, SL_runs_100, sk_0, al_0, sk_230, al_230, sn_230, mSet_ap, ncast]
  refine ⟨Q0, h0, fun o I1 hq => ?_⟩
  have hk := hQ o I1 hq
  rcases o with (_ | v) | E
  · exact hk.elim
  · obtain ⟨x, rfl⟩ : ∃ x : Int, v = mI x := by
      rcases v with v | v | v
      · exact ⟨v, rfl⟩
      · exact hk.elim
      · exact hk.elim
    simp only [false_and, and_false, true_or, or_true, false_or, or_false, true_and, and_true, true_implies, false_implies, implies_true, not_true_eq_false, not_false_eq_true, and_self, List.length_cons, List.length_nil, mNoCut_, mCat_n, mCat_I, mCat_L, mCat_R, mIsL_n, mIsL_I, mIsL_R, mIsL_L, Nat.reduceAdd, Nat.reduceSub, Nat.reduceLeDiff, Nat.reduceLT, Nat.reduceEqDiff, Nat.zero_le, Int.reduceEq, Int.reduceLT, Int.reduceLE, Int.reduceNeg, Int.reduceAdd, if_true, if_false, reduceIte, reduceCtorEq, Bool.false_eq_true, ne_eq, qCmp_0, qCmp_1, qCmp_2, qCmp_3, qCmp_4, qCmp_5, ib_0, ib_1, ib_2, lb_0, lb_1, lb_2, dv_0, dv_1, wl_ic, wl_ld_i, wl_ld_a, wl_st_a, wl_goto, wl_astI, wl_astL, wl_ret1, wl_i2x, ldR3, ldR0, ldI1, ldI2, wl_callV3_0, stR4, mPut_s, mPut_I0, mPut_R0, mPut_L0, mPut_I1, mPut_R1, mPut_L1, mGoL_n, sfxL_runs_17, kL_runs_0, kL_runs_17, SL_runs_100, sk_0, al_0, sk_230, al_230, sn_230, mSet_ap, ncast]
    exact hk
  · exact hk
theorem ctrL_runs {l : Launch} (hst : l.stackTraces = false) (hT : mTxM l) : mCtrH l (hTab 0 10 tabL_runs) calL_runs spL_runs :=
  mMetH (T := TL_runs) (S := SL_runs) (hs := fun _ => []) hT tabL_runs 0 10 5 4 (by decide) okL_runs ⟨_, _, rfl, rfl⟩ okHL_runs.1 okHL_runs.2 (one_ok (mCtr_up (ctrX10_runs hst hT))) one_no vcL_runs
def spL_cost : mSp := fun fl avs I Q => ∃ p0 p1 : Int, avs = [mR (some 0), mI p0, mI p1, mR (some 230)] ∧ mUp spX10_cost fl [mR (some 0), mI p0, mI p1] I (wKi (tabL_cost.map (fun q => q.1)) Q)
def SL_cost : Nat → mSp := mOne (mUp spX10_cost)
theorem SL_cost_100 : SL_cost 100 = mUp spX10_cost := mOne_100 _
set_option maxRecDepth 100000 in
theorem vcL_cost (fl : Nat → Bool) (avs : List mV) (I : mM) (Q : mO → mM → Prop) (hsp : spL_cost fl avs I Q) : mVCH (tabL_cost.map (fun q => q.1)) SL_cost fl Q kL_cost 5 avs I := by
  obtain ⟨p0, p1, rfl, Q0, h0, hQ⟩ := hsp
  refine ⟨rfl, ?_⟩
  show mWpL _ _ _ _ _ _ kL_cost_0 [some (mR (some 0)), some (mI p0), some (mI p1), some (mR (some 230)), none] [] I
  simp only [false_and, and_false, true_or, or_true, false_or, or_false, true_and, and_true, true_implies, false_implies, implies_true, not_true_eq_false, not_false_eq_true, and_self, List.length_cons, List.length_nil, mNoCut_, mCat_n, mCat_I, mCat_L, mCat_R, mIsL_n, mIsL_I, mIsL_R, mIsL_L, Nat.reduceAdd, Nat.reduceSub, Nat.reduceLeDiff, Nat.reduceLT, Nat.reduceEqDiff, Nat.zero_le, Int.reduceEq, Int.reduceLT, Int.reduceLE, Int.reduceNeg, Int.reduceAdd, if_true, if_false, reduceIte, reduceCtorEq, Bool.false_eq_true, ne_eq, qCmp_0, qCmp_1, qCmp_2, qCmp_3, qCmp_4, qCmp_5, ib_0, ib_1, ib_2, lb_0, lb_1, lb_2, dv_0, dv_1, wl_ic, wl_ld_i, wl_ld_a, wl_st_a, wl_goto, wl_astI, wl_astL, wl_ret1, wl_i2x, ldR3, ldR0, ldI1, ldI2, wl_callV3_0, stR4, mPut_s, mPut_I0, mPut_R0, mPut_L0, mPut_I1, mPut_R1, mPut_L1, mGoL_n, sfxL_cost_17, kL_cost_0, kL_cost_17, SL_cost_100, sk_0, al_0, sk_230, al_230, sn_230, mSet_ap, ncast]
  refine ⟨Q0, h0, fun o I1 hq => ?_⟩
  have hk := hQ o I1 hq
  rcases o with (_ | v) | E
  · exact hk.elim
  · obtain ⟨x, rfl⟩ : ∃ x : Int, v = mI x := by
      rcases v with v | v | v
      · exact ⟨v, rfl⟩
      · exact hk.elim
      · exact hk.elim
    simp only [false_and, and_false, true_or, or_true, false_or, or_false, true_and, and_true, true_implies, false_implies, implies_true, not_true_eq_false, not_false_eq_true, and_self, List.length_cons, List.length_nil, mNoCut_, mCat_n, mCat_I, mCat_L, mCat_R, mIsL_n, mIsL_I, mIsL_R, mIsL_L, Nat.reduceAdd, Nat.reduceSub, Nat.reduceLeDiff, Nat.reduceLT, Nat.reduceEqDiff, Nat.zero_le, Int.reduceEq, Int.reduceLT, Int.reduceLE, Int.reduceNeg, Int.reduceAdd, if_true, if_false, reduceIte, reduceCtorEq, Bool.false_eq_true, ne_eq, qCmp_0, qCmp_1, qCmp_2, qCmp_3, qCmp_4, qCmp_5, ib_0, ib_1, ib_2, lb_0, lb_1, lb_2, dv_0, dv_1, wl_ic, wl_ld_i, wl_ld_a, wl_st_a, wl_goto, wl_astI, wl_astL, wl_ret1, wl_i2x, ldR3, ldR0, ldI1, ldI2, wl_callV3_0, stR4, mPut_s, mPut_I0, mPut_R0, mPut_L0, mPut_I1, mPut_R1, mPut_L1, mGoL_n, sfxL_cost_17, kL_cost_0, kL_cost_17, SL_cost_100, sk_0, al_0, sk_230, al_230, sn_230, mSet_ap, ncast]
    exact hk
  · exact hk
theorem ctrL_cost {l : Launch} (hst : l.stackTraces = false) (hT : mTxM l) : mCtrH l (hTab 0 10 tabL_cost) calL_cost spL_cost :=
  mMetH (T := TL_cost) (S := SL_cost) (hs := fun _ => []) hT tabL_cost 0 10 5 4 (by decide) okL_cost ⟨_, _, rfl, rfl⟩ okHL_cost.1 okHL_cost.2 (one_ok (mCtr_up (ctrX10_cost hst hT))) one_no vcL_cost
def spL_mean : mSp := fun fl avs I Q => ∃ p0 : Int, avs = [mR (some 0), mI p0, mR (some 230)] ∧ mUp spX10_mean fl [mR (some 0), mI p0] I (wKb (tabL_mean.map (fun q => q.1)) Q)
def SL_mean : Nat → mSp := mOne (mUp spX10_mean)
theorem SL_mean_100 : SL_mean 100 = mUp spX10_mean := mOne_100 _
set_option maxRecDepth 100000 in
theorem vcL_mean (fl : Nat → Bool) (avs : List mV) (I : mM) (Q : mO → mM → Prop) (hsp : spL_mean fl avs I Q) : mVCH (tabL_mean.map (fun q => q.1)) SL_mean fl Q kL_mean 4 avs I := by
  obtain ⟨p0, rfl, Q0, h0, hQ⟩ := hsp
  refine ⟨rfl, ?_⟩
  show mWpL _ _ _ _ _ _ kL_mean_0 [some (mR (some 0)), some (mI p0), some (mR (some 230)), none] [] I
  simp only [false_and, and_false, true_or, or_true, false_or, or_false, true_and, and_true, true_implies, false_implies, implies_true, not_true_eq_false, not_false_eq_true, and_self, List.length_cons, List.length_nil, mNoCut_, mCat_n, mCat_I, mCat_L, mCat_R, mIsL_n, mIsL_I, mIsL_R, mIsL_L, Nat.reduceAdd, Nat.reduceSub, Nat.reduceLeDiff, Nat.reduceLT, Nat.reduceEqDiff, Nat.zero_le, Int.reduceEq, Int.reduceLT, Int.reduceLE, Int.reduceNeg, Int.reduceAdd, if_true, if_false, reduceIte, reduceCtorEq, Bool.false_eq_true, ne_eq, qCmp_0, qCmp_1, qCmp_2, qCmp_3, qCmp_4, qCmp_5, ib_0, ib_1, ib_2, lb_0, lb_1, lb_2, dv_0, dv_1, wl_ic, wl_lc, wl_ld_i, wl_ld_a, wl_st_a, wl_if, mrg_0_, wl_goto, wl_astI, wl_astL, wl_ret1, ldR2, ldR0, ldI1, wl_callV2_0, stR3, mPut_s, mPut_I0, mPut_R0, mPut_L0, mPut_I1, mPut_R1, mPut_L1, mGoL_n, sfxL_mean_14, sfxL_mean_15, sfxL_mean_22, kL_mean_0, kL_mean_14, kL_mean_15, kL_mean_22, SL_mean_100, sk_0, al_0, sk_230, al_230, sn_230, mSet_ap, ncast]
  refine ⟨Q0, h0, fun o I1 hq => ?_⟩
  have hk := hQ o I1 hq
  rcases o with (_ | v) | E
  · exact hk.elim
  · obtain ⟨x, rfl⟩ : ∃ x : Int, v = mI x := by
      rcases v with v | v | v
      · exact ⟨v, rfl⟩
      · exact hk.elim
      · exact hk.elim
    simp only [false_and, and_false, true_or, or_true, false_or, or_false, true_and, and_true, true_implies, false_implies, implies_true, not_true_eq_false, not_false_eq_true, and_self, List.length_cons, List.length_nil, mNoCut_, mCat_n, mCat_I, mCat_L, mCat_R, mIsL_n, mIsL_I, mIsL_R, mIsL_L, Nat.reduceAdd, Nat.reduceSub, Nat.reduceLeDiff, Nat.reduceLT, Nat.reduceEqDiff, Nat.zero_le, Int.reduceEq, Int.reduceLT, Int.reduceLE, Int.reduceNeg, Int.reduceAdd, if_true, if_false, reduceIte, reduceCtorEq, Bool.false_eq_true, ne_eq, qCmp_0, qCmp_1, qCmp_2, qCmp_3, qCmp_4, qCmp_5, ib_0, ib_1, ib_2, lb_0, lb_1, lb_2, dv_0, dv_1, wl_ic, wl_lc, wl_ld_i, wl_ld_a, wl_st_a, wl_if, mrg_0_, wl_goto, wl_astI, wl_astL, wl_ret1, ldR2, ldR0, ldI1, wl_callV2_0, stR3, mPut_s, mPut_I0, mPut_R0, mPut_L0, mPut_I1, mPut_R1, mPut_L1, mGoL_n, sfxL_mean_14, sfxL_mean_15, sfxL_mean_22, kL_mean_0, kL_mean_14, kL_mean_15, kL_mean_22, SL_mean_100, sk_0, al_0, sk_230, al_230, sn_230, mSet_ap, ncast]
    exact hk
  · exact hk
theorem ctrL_mean {l : Launch} (hst : l.stackTraces = false) (hT : mTxM l) : mCtrH l (hTab 0 16 tabL_mean) calL_mean spL_mean :=
  mMetH (T := TL_mean) (S := SL_mean) (hs := fun _ => []) hT tabL_mean 0 16 4 3 (by decide) okL_mean ⟨_, _, rfl, rfl⟩ okHL_mean.1 okHL_mean.2 (one_ok (mCtr_up (ctrX10_mean hst hT))) one_no vcL_mean
def spL_one : mSp := fun fl avs I Q => ∃ p0 p1 : Int, avs = [mR (some 0), mI p0, mI p1, mR (some 230)] ∧ mUp spX10_one fl [mR (some 0), mI p0, mI p1] I (wKi (tabL_one.map (fun q => q.1)) Q)
def SL_one : Nat → mSp := mOne (mUp spX10_one)
theorem SL_one_100 : SL_one 100 = mUp spX10_one := mOne_100 _
set_option maxRecDepth 100000 in
theorem vcL_one (fl : Nat → Bool) (avs : List mV) (I : mM) (Q : mO → mM → Prop) (hsp : spL_one fl avs I Q) : mVCH (tabL_one.map (fun q => q.1)) SL_one fl Q kL_one 5 avs I := by
  obtain ⟨p0, p1, rfl, Q0, h0, hQ⟩ := hsp
  refine ⟨rfl, ?_⟩
  show mWpL _ _ _ _ _ _ kL_one_0 [some (mR (some 0)), some (mI p0), some (mI p1), some (mR (some 230)), none] [] I
  simp only [false_and, and_false, true_or, or_true, false_or, or_false, true_and, and_true, true_implies, false_implies, implies_true, not_true_eq_false, not_false_eq_true, and_self, List.length_cons, List.length_nil, mNoCut_, mCat_n, mCat_I, mCat_L, mCat_R, mIsL_n, mIsL_I, mIsL_R, mIsL_L, Nat.reduceAdd, Nat.reduceSub, Nat.reduceLeDiff, Nat.reduceLT, Nat.reduceEqDiff, Nat.zero_le, Int.reduceEq, Int.reduceLT, Int.reduceLE, Int.reduceNeg, Int.reduceAdd, if_true, if_false, reduceIte, reduceCtorEq, Bool.false_eq_true, ne_eq, qCmp_0, qCmp_1, qCmp_2, qCmp_3, qCmp_4, qCmp_5, ib_0, ib_1, ib_2, lb_0, lb_1, lb_2, dv_0, dv_1, wl_ic, wl_ld_i, wl_ld_a, wl_st_a, wl_goto, wl_astI, wl_astL, wl_ret1, wl_i2x, ldR3, ldR0, ldI1, ldI2, wl_callV3_0, stR4, mPut_s, mPut_I0, mPut_R0, mPut_L0, mPut_I1, mPut_R1, mPut_L1, mGoL_n, sfxL_one_21, kL_one_0, kL_one_21, SL_one_100, sk_0, al_0, sk_230, al_230, sn_230, mSet_ap, ncast]
  refine ⟨Q0, h0, fun o I1 hq => ?_⟩
  have hk := hQ o I1 hq
  rcases o with (_ | v) | E
  · exact hk.elim
  · obtain ⟨x, rfl⟩ : ∃ x : Int, v = mI x := by
      rcases v with v | v | v
      · exact ⟨v, rfl⟩
      · exact hk.elim
      · exact hk.elim
    simp only [false_and, and_false, true_or, or_true, false_or, or_false, true_and, and_true, true_implies, false_implies, implies_true, not_true_eq_false, not_false_eq_true, and_self, List.length_cons, List.length_nil, mNoCut_, mCat_n, mCat_I, mCat_L, mCat_R, mIsL_n, mIsL_I, mIsL_R, mIsL_L, Nat.reduceAdd, Nat.reduceSub, Nat.reduceLeDiff, Nat.reduceLT, Nat.reduceEqDiff, Nat.zero_le, Int.reduceEq, Int.reduceLT, Int.reduceLE, Int.reduceNeg, Int.reduceAdd, if_true, if_false, reduceIte, reduceCtorEq, Bool.false_eq_true, ne_eq, qCmp_0, qCmp_1, qCmp_2, qCmp_3, qCmp_4, qCmp_5, ib_0, ib_1, ib_2, lb_0, lb_1, lb_2, dv_0, dv_1, wl_ic, wl_ld_i, wl_ld_a, wl_st_a, wl_goto, wl_astI, wl_astL, wl_ret1, wl_i2x, ldR3, ldR0, ldI1, ldI2, wl_callV3_0, stR4, mPut_s, mPut_I0, mPut_R0, mPut_L0, mPut_I1, mPut_R1, mPut_L1, mGoL_n, sfxL_one_21, kL_one_0, kL_one_21, SL_one_100, sk_0, al_0, sk_230, al_230, sn_230, mSet_ap, ncast]
    exact hk
  · exact hk
theorem ctrL_one {l : Launch} (hst : l.stackTraces = false) (hT : mTxM l) : mCtrH l (hTab 0 10 tabL_one) calL_one spL_one :=
  mMetH (T := TL_one) (S := SL_one) (hs := fun _ => []) hT tabL_one 0 10 5 4 (by decide) okL_one ⟨_, _, rfl, rfl⟩ okHL_one.1 okHL_one.2 (one_ok (mCtr_up (ctrX10_one hst hT))) one_no vcL_one
def spL_settle : mSp := fun fl avs I Q => ∃ p0 p1 : Int, avs = [mR (some 0), mI p0, mI p1, mR (some 230)] ∧ mUp spX10_settle fl [mR (some 0), mI p0, mI p1] I (wKi (tabL_settle.map (fun q => q.1)) Q)
def SL_settle : Nat → mSp := mOne (mUp spX10_settle)
theorem SL_settle_100 : SL_settle 100 = mUp spX10_settle := mOne_100 _
set_option maxRecDepth 100000 in
theorem vcL_settle (fl : Nat → Bool) (avs : List mV) (I : mM) (Q : mO → mM → Prop) (hsp : spL_settle fl avs I Q) : mVCH (tabL_settle.map (fun q => q.1)) SL_settle fl Q kL_settle 5 avs I := by
  obtain ⟨p0, p1, rfl, Q0, h0, hQ⟩ := hsp
  refine ⟨rfl, ?_⟩
  show mWpL _ _ _ _ _ _ kL_settle_0 [some (mR (some 0)), some (mI p0), some (mI p1), some (mR (some 230)), none] [] I
  simp only [false_and, and_false, true_or, or_true, false_or, or_false, true_and, and_true, true_implies, false_implies, implies_true, not_true_eq_false, not_false_eq_true, and_self, List.length_cons, List.length_nil, mNoCut_, mCat_n, mCat_I, mCat_L, mCat_R, mIsL_n, mIsL_I, mIsL_R, mIsL_L, Nat.reduceAdd, Nat.reduceSub, Nat.reduceLeDiff, Nat.reduceLT, Nat.reduceEqDiff, Nat.zero_le, Int.reduceEq, Int.reduceLT, Int.reduceLE, Int.reduceNeg, Int.reduceAdd, if_true, if_false, reduceIte, reduceCtorEq, Bool.false_eq_true, ne_eq, qCmp_0, qCmp_1, qCmp_2, qCmp_3, qCmp_4, qCmp_5, ib_0, ib_1, ib_2, lb_0, lb_1, lb_2, dv_0, dv_1, wl_ic, wl_ld_i, wl_ld_a, wl_st_a, wl_goto, wl_astI, wl_astL, wl_ret1, wl_i2x, ldR3, ldR0, ldI1, ldI2, wl_callV3_0, stR4, mPut_s, mPut_I0, mPut_R0, mPut_L0, mPut_I1, mPut_R1, mPut_L1, mGoL_n, sfxL_settle_21, kL_settle_0, kL_settle_21, SL_settle_100, sk_0, al_0, sk_230, al_230, sn_230, mSet_ap, ncast]
  refine ⟨Q0, h0, fun o I1 hq => ?_⟩
  have hk := hQ o I1 hq
  rcases o with (_ | v) | E
  · exact hk.elim
  · obtain ⟨x, rfl⟩ : ∃ x : Int, v = mI x := by
      rcases v with v | v | v
      · exact ⟨v, rfl⟩
      · exact hk.elim
      · exact hk.elim
    simp only [false_and, and_false, true_or, or_true, false_or, or_false, true_and, and_true, true_implies, false_implies, implies_true, not_true_eq_false, not_false_eq_true, and_self, List.length_cons, List.length_nil, mNoCut_, mCat_n, mCat_I, mCat_L, mCat_R, mIsL_n, mIsL_I, mIsL_R, mIsL_L, Nat.reduceAdd, Nat.reduceSub, Nat.reduceLeDiff, Nat.reduceLT, Nat.reduceEqDiff, Nat.zero_le, Int.reduceEq, Int.reduceLT, Int.reduceLE, Int.reduceNeg, Int.reduceAdd, if_true, if_false, reduceIte, reduceCtorEq, Bool.false_eq_true, ne_eq, qCmp_0, qCmp_1, qCmp_2, qCmp_3, qCmp_4, qCmp_5, ib_0, ib_1, ib_2, lb_0, lb_1, lb_2, dv_0, dv_1, wl_ic, wl_ld_i, wl_ld_a, wl_st_a, wl_goto, wl_astI, wl_astL, wl_ret1, wl_i2x, ldR3, ldR0, ldI1, ldI2, wl_callV3_0, stR4, mPut_s, mPut_I0, mPut_R0, mPut_L0, mPut_I1, mPut_R1, mPut_L1, mGoL_n, sfxL_settle_21, kL_settle_0, kL_settle_21, SL_settle_100, sk_0, al_0, sk_230, al_230, sn_230, mSet_ap, ncast]
    exact hk
  · exact hk
theorem ctrL_settle {l : Launch} (hst : l.stackTraces = false) (hT : mTxM l) : mCtrH l (hTab 0 10 tabL_settle) calL_settle spL_settle :=
  mMetH (T := TL_settle) (S := SL_settle) (hs := fun _ => []) hT tabL_settle 0 10 5 4 (by decide) okL_settle ⟨_, _, rfl, rfl⟩ okHL_settle.1 okHL_settle.2 (one_ok (mCtr_up (ctrX10_settle hst hT))) one_no vcL_settle
def spL_bound : mSp := fun fl avs I Q => ∃ p0 : Int, avs = [mR (some 0), mI p0, mR (some 230)] ∧ mUp spX10_bound fl [mR (some 0), mI p0] I (wKb (tabL_bound.map (fun q => q.1)) Q)
def SL_bound : Nat → mSp := mOne (mUp spX10_bound)
theorem SL_bound_100 : SL_bound 100 = mUp spX10_bound := mOne_100 _
set_option maxRecDepth 100000 in
theorem vcL_bound (fl : Nat → Bool) (avs : List mV) (I : mM) (Q : mO → mM → Prop) (hsp : spL_bound fl avs I Q) : mVCH (tabL_bound.map (fun q => q.1)) SL_bound fl Q kL_bound 4 avs I := by
  obtain ⟨p0, rfl, Q0, h0, hQ⟩ := hsp
  refine ⟨rfl, ?_⟩
  show mWpL _ _ _ _ _ _ kL_bound_0 [some (mR (some 0)), some (mI p0), some (mR (some 230)), none] [] I
  simp only [false_and, and_false, true_or, or_true, false_or, or_false, true_and, and_true, true_implies, false_implies, implies_true, not_true_eq_false, not_false_eq_true, and_self, List.length_cons, List.length_nil, mNoCut_, mCat_n, mCat_I, mCat_L, mCat_R, mIsL_n, mIsL_I, mIsL_R, mIsL_L, Nat.reduceAdd, Nat.reduceSub, Nat.reduceLeDiff, Nat.reduceLT, Nat.reduceEqDiff, Nat.zero_le, Int.reduceEq, Int.reduceLT, Int.reduceLE, Int.reduceNeg, Int.reduceAdd, if_true, if_false, reduceIte, reduceCtorEq, Bool.false_eq_true, ne_eq, qCmp_0, qCmp_1, qCmp_2, qCmp_3, qCmp_4, qCmp_5, ib_0, ib_1, ib_2, lb_0, lb_1, lb_2, dv_0, dv_1, wl_ic, wl_lc, wl_ld_i, wl_ld_a, wl_st_a, wl_if, mrg_0_, wl_goto, wl_astI, wl_astL, wl_ret1, ldR2, ldR0, ldI1, wl_callV2_0, stR3, mPut_s, mPut_I0, mPut_R0, mPut_L0, mPut_I1, mPut_R1, mPut_L1, mGoL_n, sfxL_bound_14, sfxL_bound_15, sfxL_bound_22, kL_bound_0, kL_bound_14, kL_bound_15, kL_bound_22, SL_bound_100, sk_0, al_0, sk_230, al_230, sn_230, mSet_ap, ncast]
  refine ⟨Q0, h0, fun o I1 hq => ?_⟩
  have hk := hQ o I1 hq
  rcases o with (_ | v) | E
  · exact hk.elim
  · obtain ⟨x, rfl⟩ : ∃ x : Int, v = mI x := by
      rcases v with v | v | v
      · exact ⟨v, rfl⟩
      · exact hk.elim
      · exact hk.elim
    simp only [false_and, and_false, true_or, or_true, false_or, or_false, true_and, and_true, true_implies, false_implies, implies_true, not_true_eq_false, not_false_eq_true, and_self, List.length_cons, List.length_nil, mNoCut_, mCat_n, mCat_I, mCat_L, mCat_R, mIsL_n, mIsL_I, mIsL_R, mIsL_L, Nat.reduceAdd, Nat.reduceSub, Nat.reduceLeDiff, Nat.reduceLT, Nat.reduceEqDiff, Nat.zero_le, Int.reduceEq, Int.reduceLT, Int.reduceLE, Int.reduceNeg, Int.reduceAdd, if_true, if_false, reduceIte, reduceCtorEq, Bool.false_eq_true, ne_eq, qCmp_0, qCmp_1, qCmp_2, qCmp_3, qCmp_4, qCmp_5, ib_0, ib_1, ib_2, lb_0, lb_1, lb_2, dv_0, dv_1, wl_ic, wl_lc, wl_ld_i, wl_ld_a, wl_st_a, wl_if, mrg_0_, wl_goto, wl_astI, wl_astL, wl_ret1, ldR2, ldR0, ldI1, wl_callV2_0, stR3, mPut_s, mPut_I0, mPut_R0, mPut_L0, mPut_I1, mPut_R1, mPut_L1, mGoL_n, sfxL_bound_14, sfxL_bound_15, sfxL_bound_22, kL_bound_0, kL_bound_14, kL_bound_15, kL_bound_22, SL_bound_100, sk_0, al_0, sk_230, al_230, sn_230, mSet_ap, ncast]
    exact hk
  · exact hk
theorem ctrL_bound {l : Launch} (hst : l.stackTraces = false) (hT : mTxM l) : mCtrH l (hTab 0 16 tabL_bound) calL_bound spL_bound :=
  mMetH (T := TL_bound) (S := SL_bound) (hs := fun _ => []) hT tabL_bound 0 16 4 3 (by decide) okL_bound ⟨_, _, rfl, rfl⟩ okHL_bound.1 okHL_bound.2 (one_ok (mCtr_up (ctrX10_bound hst hT))) one_no vcL_bound
def spL_gap : mSp := fun fl avs I Q => ∃ p0 : Int, avs = [mR (some 0), mI p0, mR (some 230)] ∧ mUp spX10_gap fl [mR (some 0), mI p0] I (wKb (tabL_gap.map (fun q => q.1)) Q)
def SL_gap : Nat → mSp := mOne (mUp spX10_gap)
theorem SL_gap_100 : SL_gap 100 = mUp spX10_gap := mOne_100 _
set_option maxRecDepth 100000 in
theorem vcL_gap (fl : Nat → Bool) (avs : List mV) (I : mM) (Q : mO → mM → Prop) (hsp : spL_gap fl avs I Q) : mVCH (tabL_gap.map (fun q => q.1)) SL_gap fl Q kL_gap 4 avs I := by
  obtain ⟨p0, rfl, Q0, h0, hQ⟩ := hsp
  refine ⟨rfl, ?_⟩
  show mWpL _ _ _ _ _ _ kL_gap_0 [some (mR (some 0)), some (mI p0), some (mR (some 230)), none] [] I
  simp only [false_and, and_false, true_or, or_true, false_or, or_false, true_and, and_true, true_implies, false_implies, implies_true, not_true_eq_false, not_false_eq_true, and_self, List.length_cons, List.length_nil, mNoCut_, mCat_n, mCat_I, mCat_L, mCat_R, mIsL_n, mIsL_I, mIsL_R, mIsL_L, Nat.reduceAdd, Nat.reduceSub, Nat.reduceLeDiff, Nat.reduceLT, Nat.reduceEqDiff, Nat.zero_le, Int.reduceEq, Int.reduceLT, Int.reduceLE, Int.reduceNeg, Int.reduceAdd, if_true, if_false, reduceIte, reduceCtorEq, Bool.false_eq_true, ne_eq, qCmp_0, qCmp_1, qCmp_2, qCmp_3, qCmp_4, qCmp_5, ib_0, ib_1, ib_2, lb_0, lb_1, lb_2, dv_0, dv_1, wl_ic, wl_lc, wl_ld_i, wl_ld_a, wl_st_a, wl_if, mrg_0_, wl_goto, wl_astI, wl_astL, wl_ret1, ldR2, ldR0, ldI1, wl_callV2_0, stR3, mPut_s, mPut_I0, mPut_R0, mPut_L0, mPut_I1, mPut_R1, mPut_L1, mGoL_n, sfxL_gap_14, sfxL_gap_15, sfxL_gap_22, kL_gap_0, kL_gap_14, kL_gap_15, kL_gap_22, SL_gap_100, sk_0, al_0, sk_230, al_230, sn_230, mSet_ap, ncast]
  refine ⟨Q0, h0, fun o I1 hq => ?_⟩
  have hk := hQ o I1 hq
  rcases o with (_ | v) | E
  · exact hk.elim
  · obtain ⟨x, rfl⟩ : ∃ x : Int, v = mI x := by
      rcases v with v | v | v
      · exact ⟨v, rfl⟩
      · exact hk.elim
      · exact hk.elim
    simp only [false_and, and_false, true_or, or_true, false_or, or_false, true_and, and_true, true_implies, false_implies, implies_true, not_true_eq_false, not_false_eq_true, and_self, List.length_cons, List.length_nil, mNoCut_, mCat_n, mCat_I, mCat_L, mCat_R, mIsL_n, mIsL_I, mIsL_R, mIsL_L, Nat.reduceAdd, Nat.reduceSub, Nat.reduceLeDiff, Nat.reduceLT, Nat.reduceEqDiff, Nat.zero_le, Int.reduceEq, Int.reduceLT, Int.reduceLE, Int.reduceNeg, Int.reduceAdd, if_true, if_false, reduceIte, reduceCtorEq, Bool.false_eq_true, ne_eq, qCmp_0, qCmp_1, qCmp_2, qCmp_3, qCmp_4, qCmp_5, ib_0, ib_1, ib_2, lb_0, lb_1, lb_2, dv_0, dv_1, wl_ic, wl_lc, wl_ld_i, wl_ld_a, wl_st_a, wl_if, mrg_0_, wl_goto, wl_astI, wl_astL, wl_ret1, ldR2, ldR0, ldI1, wl_callV2_0, stR3, mPut_s, mPut_I0, mPut_R0, mPut_L0, mPut_I1, mPut_R1, mPut_L1, mGoL_n, sfxL_gap_14, sfxL_gap_15, sfxL_gap_22, kL_gap_0, kL_gap_14, kL_gap_15, kL_gap_22, SL_gap_100, sk_0, al_0, sk_230, al_230, sn_230, mSet_ap, ncast]
    exact hk
  · exact hk
theorem ctrL_gap {l : Launch} (hst : l.stackTraces = false) (hT : mTxM l) : mCtrH l (hTab 0 16 tabL_gap) calL_gap spL_gap :=
  mMetH (T := TL_gap) (S := SL_gap) (hs := fun _ => []) hT tabL_gap 0 16 4 3 (by decide) okL_gap ⟨_, _, rfl, rfl⟩ okHL_gap.1 okHL_gap.2 (one_ok (mCtr_up (ctrX10_gap hst hT))) one_no vcL_gap
def spL_way : mSp := fun fl avs I Q => ∃ p0 p1 : Int, avs = [mR (some 0), mI p0, mI p1] ∧ mUp spX10_way fl [mR (some 0), mI p0, mI p1] I (wKv (tabL_way.map (fun q => q.1)) Q)
def SL_way : Nat → mSp := mOne (mUp spX10_way)
theorem SL_way_100 : SL_way 100 = mUp spX10_way := mOne_100 _
set_option maxRecDepth 100000 in
theorem vcL_way (fl : Nat → Bool) (avs : List mV) (I : mM) (Q : mO → mM → Prop) (hsp : spL_way fl avs I Q) : mVCH (tabL_way.map (fun q => q.1)) SL_way fl Q kL_way 4 avs I := by
  obtain ⟨p0, p1, rfl, Q0, h0, hQ⟩ := hsp
  refine ⟨rfl, ?_⟩
  show mWpL _ _ _ _ _ _ kL_way_0 [some (mR (some 0)), some (mI p0), some (mI p1), none] [] I
  simp only [false_and, and_false, true_or, or_true, false_or, or_false, true_and, and_true, true_implies, false_implies, implies_true, not_true_eq_false, not_false_eq_true, and_self, List.length_cons, List.length_nil, mNoCut_, mCat_n, mCat_I, mCat_L, mCat_R, mIsL_n, mIsL_I, mIsL_R, mIsL_L, Nat.reduceAdd, Nat.reduceSub, Nat.reduceLeDiff, Nat.reduceLT, Nat.reduceEqDiff, Nat.zero_le, Int.reduceEq, Int.reduceLT, Int.reduceLE, Int.reduceNeg, Int.reduceAdd, if_true, if_false, reduceIte, reduceCtorEq, Bool.false_eq_true, ne_eq, qCmp_0, qCmp_1, qCmp_2, qCmp_3, qCmp_4, qCmp_5, ib_0, ib_1, ib_2, lb_0, lb_1, lb_2, dv_0, dv_1, wl_ic, wl_ld_i, wl_ld_a, wl_st_a, wl_goto, wl_ret1, ldR0, ldI1, ldI2, wl_callV3_0, stR3, mPut_s, mPut_I0, mPut_R0, mPut_L0, mPut_I1, mPut_R1, mPut_L1, mGoL_n, sfxL_way_18, kL_way_0, kL_way_18, SL_way_100, sk_0, al_0, sk_230, al_230, sn_230, mSet_ap, ncast]
  refine ⟨Q0, h0, fun o I1 hq => ?_⟩
  have hk := hQ o I1 hq
  rcases o with (_ | v) | E
  · simp only [false_and, and_false, true_or, or_true, false_or, or_false, true_and, and_true, true_implies, false_implies, implies_true, not_true_eq_false, not_false_eq_true, and_self, List.length_cons, List.length_nil, mNoCut_, mCat_n, mCat_I, mCat_L, mCat_R, mIsL_n, mIsL_I, mIsL_R, mIsL_L, Nat.reduceAdd, Nat.reduceSub, Nat.reduceLeDiff, Nat.reduceLT, Nat.reduceEqDiff, Nat.zero_le, Int.reduceEq, Int.reduceLT, Int.reduceLE, Int.reduceNeg, Int.reduceAdd, if_true, if_false, reduceIte, reduceCtorEq, Bool.false_eq_true, ne_eq, qCmp_0, qCmp_1, qCmp_2, qCmp_3, qCmp_4, qCmp_5, ib_0, ib_1, ib_2, lb_0, lb_1, lb_2, dv_0, dv_1, wl_ic, wl_ld_i, wl_ld_a, wl_st_a, wl_goto, wl_ret1, ldR0, ldI1, ldI2, wl_callV3_0, stR3, mPut_s, mPut_I0, mPut_R0, mPut_L0, mPut_I1, mPut_R1, mPut_L1, mGoL_n, sfxL_way_18, kL_way_0, kL_way_18, SL_way_100, sk_0, al_0, sk_230, al_230, sn_230, mSet_ap, ncast]
    exact hk
  · exact hk.elim
  · exact hk
theorem ctrL_way {l : Launch} (hst : l.stackTraces = false) (hT : mTxM l) : mCtrH l (hTab 0 6 tabL_way) calL_way spL_way :=
  mMetH (T := TL_way) (S := SL_way) (hs := fun _ => []) hT tabL_way 0 6 3 3 (by decide) okL_way ⟨_, _, rfl, rfl⟩ okHL_way.1 okHL_way.2 (one_ok (mCtr_up (ctrX10_way hst hT))) one_no vcL_way
def spL_rest : mSp := fun fl avs I Q => ∃ p0 p1 p2 p3 : Int, avs = [mR (some 0), mI p0, mI p1, mI p2, mI p3, mR (some 230)] ∧ mUp spX10_rest fl [mR (some 0), mI p0, mI p1, mI p2, mI p3] I (wKb (tabL_rest.map (fun q => q.1)) Q)
def SL_rest : Nat → mSp := mOne (mUp spX10_rest)
theorem SL_rest_100 : SL_rest 100 = mUp spX10_rest := mOne_100 _
set_option maxRecDepth 100000 in
theorem vcL_rest (fl : Nat → Bool) (avs : List mV) (I : mM) (Q : mO → mM → Prop) (hsp : spL_rest fl avs I Q) : mVCH (tabL_rest.map (fun q => q.1)) SL_rest fl Q kL_rest 7 avs I := by
  obtain ⟨p0, p1, p2, p3, rfl, Q0, h0, hQ⟩ := hsp
  refine ⟨rfl, ?_⟩
  show mWpL _ _ _ _ _ _ kL_rest_0 [some (mR (some 0)), some (mI p0), some (mI p1), some (mI p2), some (mI p3), some (mR (some 230)), none] [] I
  simp only [false_and, and_false, true_or, or_true, false_or, or_false, true_and, and_true, true_implies, false_implies, implies_true, not_true_eq_false, not_false_eq_true, and_self, List.length_cons, List.length_nil, mNoCut_, mCat_n, mCat_I, mCat_L, mCat_R, mIsL_n, mIsL_I, mIsL_R, mIsL_L, Nat.reduceAdd, Nat.reduceSub, Nat.reduceLeDiff, Nat.reduceLT, Nat.reduceEqDiff, Nat.zero_le, Int.reduceEq, Int.reduceLT, Int.reduceLE, Int.reduceNeg, Int.reduceAdd, if_true, if_false, reduceIte, reduceCtorEq, Bool.false_eq_true, ne_eq, qCmp_0, qCmp_1, qCmp_2, qCmp_3, qCmp_4, qCmp_5, ib_0, ib_1, ib_2, lb_0, lb_1, lb_2, dv_0, dv_1, wl_ic, wl_lc, wl_ld_i, wl_ld_a, wl_st_a, wl_if, mrg_0_, wl_goto, wl_astI, wl_astL, wl_ret1, ldR5, ldR0, ldI1, ldI2, ldI3, ldI4, wl_callV5_0, stR6, mPut_s, mPut_I0, mPut_R0, mPut_L0, mPut_I1, mPut_R1, mPut_L1, mGoL_n, sfxL_rest_19, sfxL_rest_20, sfxL_rest_36, kL_rest_0, kL_rest_19, kL_rest_20, kL_rest_36, SL_rest_100, sk_0, al_0, sk_230, al_230, sn_230, mSet_ap, ncast]
  refine ⟨Q0, h0, fun o I1 hq => ?_⟩
  have hk := hQ o I1 hq
  rcases o with (_ | v) | E
  · exact hk.elim
  · obtain ⟨x, rfl⟩ : ∃ x : Int, v = mI x := by
      rcases v with v | v | v
      · exact ⟨v, rfl⟩
      · exact hk.elim
      · exact hk.elim
    simp only [false_and, and_false, true_or, or_true, false_or, or_false, true_and, and_true, true_implies, false_implies, implies_true, not_true_eq_false, not_false_eq_true, and_self, List.length_cons, List.length_nil, mNoCut_, mCat_n, mCat_I, mCat_L, mCat_R, mIsL_n, mIsL_I, mIsL_R, mIsL_L, Nat.reduceAdd, Nat.reduceSub, Nat.reduceLeDiff, Nat.reduceLT, Nat.reduceEqDiff, Nat.zero_le, Int.reduceEq, Int.reduceLT, Int.reduceLE, Int.reduceNeg, Int.reduceAdd, if_true, if_false, reduceIte, reduceCtorEq, Bool.false_eq_true, ne_eq, qCmp_0, qCmp_1, qCmp_2, qCmp_3, qCmp_4, qCmp_5, ib_0, ib_1, ib_2, lb_0, lb_1, lb_2, dv_0, dv_1, wl_ic, wl_lc, wl_ld_i, wl_ld_a, wl_st_a, wl_if, mrg_0_, wl_goto, wl_astI, wl_astL, wl_ret1, ldR5, ldR0, ldI1, ldI2, ldI3, ldI4, wl_callV5_0, stR6, mPut_s, mPut_I0, mPut_R0, mPut_L0, mPut_I1, mPut_R1, mPut_L1, mGoL_n, sfxL_rest_19, sfxL_rest_20, sfxL_rest_36, kL_rest_0, kL_rest_19, kL_rest_20, kL_rest_36, SL_rest_100, sk_0, al_0, sk_230, al_230, sn_230, mSet_ap, ncast]
    exact hk
  · exact hk
theorem ctrL_rest {l : Launch} (hst : l.stackTraces = false) (hT : mTxM l) : mCtrH l (hTab 0 21 tabL_rest) calL_rest spL_rest :=
  mMetH (T := TL_rest) (S := SL_rest) (hs := fun _ => []) hT tabL_rest 0 21 9 6 (by decide) okL_rest ⟨_, _, rfl, rfl⟩ okHL_rest.1 okHL_rest.2 (one_ok (mCtr_up (ctrX10_rest hst hT))) one_no vcL_rest
def spL_walk : mSp := fun fl avs I Q => ∃ p0 p1 : Int, avs = [mR (some 0), mI p0, mI p1, mR (some 230)] ∧ mUp spX10_walk fl [mR (some 0), mI p0, mI p1] I (wKi (tabL_walk.map (fun q => q.1)) Q)
def SL_walk : Nat → mSp := mOne (mUp spX10_walk)
theorem SL_walk_100 : SL_walk 100 = mUp spX10_walk := mOne_100 _
set_option maxRecDepth 100000 in
theorem vcL_walk (fl : Nat → Bool) (avs : List mV) (I : mM) (Q : mO → mM → Prop) (hsp : spL_walk fl avs I Q) : mVCH (tabL_walk.map (fun q => q.1)) SL_walk fl Q kL_walk 5 avs I := by
  obtain ⟨p0, p1, rfl, Q0, h0, hQ⟩ := hsp
  refine ⟨rfl, ?_⟩
  show mWpL _ _ _ _ _ _ kL_walk_0 [some (mR (some 0)), some (mI p0), some (mI p1), some (mR (some 230)), none] [] I
  simp only [false_and, and_false, true_or, or_true, false_or, or_false, true_and, and_true, true_implies, false_implies, implies_true, not_true_eq_false, not_false_eq_true, and_self, List.length_cons, List.length_nil, mNoCut_, mCat_n, mCat_I, mCat_L, mCat_R, mIsL_n, mIsL_I, mIsL_R, mIsL_L, Nat.reduceAdd, Nat.reduceSub, Nat.reduceLeDiff, Nat.reduceLT, Nat.reduceEqDiff, Nat.zero_le, Int.reduceEq, Int.reduceLT, Int.reduceLE, Int.reduceNeg, Int.reduceAdd, if_true, if_false, reduceIte, reduceCtorEq, Bool.false_eq_true, ne_eq, qCmp_0, qCmp_1, qCmp_2, qCmp_3, qCmp_4, qCmp_5, ib_0, ib_1, ib_2, lb_0, lb_1, lb_2, dv_0, dv_1, wl_ic, wl_ld_i, wl_ld_a, wl_st_a, wl_goto, wl_astI, wl_astL, wl_ret1, wl_i2x, ldR3, ldR0, ldI1, ldI2, wl_callV3_0, stR4, mPut_s, mPut_I0, mPut_R0, mPut_L0, mPut_I1, mPut_R1, mPut_L1, mGoL_n, sfxL_walk_21, kL_walk_0, kL_walk_21, SL_walk_100, sk_0, al_0, sk_230, al_230, sn_230, mSet_ap, ncast]
  refine ⟨Q0, h0, fun o I1 hq => ?_⟩
  have hk := hQ o I1 hq
  rcases o with (_ | v) | E
  · exact hk.elim
  · obtain ⟨x, rfl⟩ : ∃ x : Int, v = mI x := by
      rcases v with v | v | v
      · exact ⟨v, rfl⟩
      · exact hk.elim
      · exact hk.elim
    simp only [false_and, and_false, true_or, or_true, false_or, or_false, true_and, and_true, true_implies, false_implies, implies_true, not_true_eq_false, not_false_eq_true, and_self, List.length_cons, List.length_nil, mNoCut_, mCat_n, mCat_I, mCat_L, mCat_R, mIsL_n, mIsL_I, mIsL_R, mIsL_L, Nat.reduceAdd, Nat.reduceSub, Nat.reduceLeDiff, Nat.reduceLT, Nat.reduceEqDiff, Nat.zero_le, Int.reduceEq, Int.reduceLT, Int.reduceLE, Int.reduceNeg, Int.reduceAdd, if_true, if_false, reduceIte, reduceCtorEq, Bool.false_eq_true, ne_eq, qCmp_0, qCmp_1, qCmp_2, qCmp_3, qCmp_4, qCmp_5, ib_0, ib_1, ib_2, lb_0, lb_1, lb_2, dv_0, dv_1, wl_ic, wl_ld_i, wl_ld_a, wl_st_a, wl_goto, wl_astI, wl_astL, wl_ret1, wl_i2x, ldR3, ldR0, ldI1, ldI2, wl_callV3_0, stR4, mPut_s, mPut_I0, mPut_R0, mPut_L0, mPut_I1, mPut_R1, mPut_L1, mGoL_n, sfxL_walk_21, kL_walk_0, kL_walk_21, SL_walk_100, sk_0, al_0, sk_230, al_230, sn_230, mSet_ap, ncast]
    exact hk
  · exact hk
theorem ctrL_walk {l : Launch} (hst : l.stackTraces = false) (hT : mTxM l) : mCtrH l (hTab 0 10 tabL_walk) calL_walk spL_walk :=
  mMetH (T := TL_walk) (S := SL_walk) (hs := fun _ => []) hT tabL_walk 0 10 5 4 (by decide) okL_walk ⟨_, _, rfl, rfl⟩ okHL_walk.1 okHL_walk.2 (one_ok (mCtr_up (ctrX10_walk hst hT))) one_no vcL_walk
def spL_tells : mSp := fun fl avs I Q => ∃ p0 p1 : Int, avs = [mR (some 0), mI p0, mI p1, mR (some 230)] ∧ mUp spX10_tells fl [mR (some 0), mI p0, mI p1] I (wKi (tabL_tells.map (fun q => q.1)) Q)
def SL_tells : Nat → mSp := mOne (mUp spX10_tells)
theorem SL_tells_100 : SL_tells 100 = mUp spX10_tells := mOne_100 _
set_option maxRecDepth 100000 in
theorem vcL_tells (fl : Nat → Bool) (avs : List mV) (I : mM) (Q : mO → mM → Prop) (hsp : spL_tells fl avs I Q) : mVCH (tabL_tells.map (fun q => q.1)) SL_tells fl Q kL_tells 5 avs I := by
  obtain ⟨p0, p1, rfl, Q0, h0, hQ⟩ := hsp
  refine ⟨rfl, ?_⟩
  show mWpL _ _ _ _ _ _ kL_tells_0 [some (mR (some 0)), some (mI p0), some (mI p1), some (mR (some 230)), none] [] I
  simp only [false_and, and_false, true_or, or_true, false_or, or_false, true_and, and_true, true_implies, false_implies, implies_true, not_true_eq_false, not_false_eq_true, and_self, List.length_cons, List.length_nil, mNoCut_, mCat_n, mCat_I, mCat_L, mCat_R, mIsL_n, mIsL_I, mIsL_R, mIsL_L, Nat.reduceAdd, Nat.reduceSub, Nat.reduceLeDiff, Nat.reduceLT, Nat.reduceEqDiff, Nat.zero_le, Int.reduceEq, Int.reduceLT, Int.reduceLE, Int.reduceNeg, Int.reduceAdd, if_true, if_false, reduceIte, reduceCtorEq, Bool.false_eq_true, ne_eq, qCmp_0, qCmp_1, qCmp_2, qCmp_3, qCmp_4, qCmp_5, ib_0, ib_1, ib_2, lb_0, lb_1, lb_2, dv_0, dv_1, wl_ic, wl_ld_i, wl_ld_a, wl_st_a, wl_goto, wl_astI, wl_astL, wl_ret1, wl_i2x, ldR3, ldR0, ldI1, ldI2, wl_callV3_0, stR4, mPut_s, mPut_I0, mPut_R0, mPut_L0, mPut_I1, mPut_R1, mPut_L1, mGoL_n, sfxL_tells_21, kL_tells_0, kL_tells_21, SL_tells_100, sk_0, al_0, sk_230, al_230, sn_230, mSet_ap, ncast]
  refine ⟨Q0, h0, fun o I1 hq => ?_⟩
  have hk := hQ o I1 hq
  rcases o with (_ | v) | E
  · exact hk.elim
  · obtain ⟨x, rfl⟩ : ∃ x : Int, v = mI x := by
      rcases v with v | v | v
      · exact ⟨v, rfl⟩
      · exact hk.elim
      · exact hk.elim
    simp only [false_and, and_false, true_or, or_true, false_or, or_false, true_and, and_true, true_implies, false_implies, implies_true, not_true_eq_false, not_false_eq_true, and_self, List.length_cons, List.length_nil, mNoCut_, mCat_n, mCat_I, mCat_L, mCat_R, mIsL_n, mIsL_I, mIsL_R, mIsL_L, Nat.reduceAdd, Nat.reduceSub, Nat.reduceLeDiff, Nat.reduceLT, Nat.reduceEqDiff, Nat.zero_le, Int.reduceEq, Int.reduceLT, Int.reduceLE, Int.reduceNeg, Int.reduceAdd, if_true, if_false, reduceIte, reduceCtorEq, Bool.false_eq_true, ne_eq, qCmp_0, qCmp_1, qCmp_2, qCmp_3, qCmp_4, qCmp_5, ib_0, ib_1, ib_2, lb_0, lb_1, lb_2, dv_0, dv_1, wl_ic, wl_ld_i, wl_ld_a, wl_st_a, wl_goto, wl_astI, wl_astL, wl_ret1, wl_i2x, ldR3, ldR0, ldI1, ldI2, wl_callV3_0, stR4, mPut_s, mPut_I0, mPut_R0, mPut_L0, mPut_I1, mPut_R1, mPut_L1, mGoL_n, sfxL_tells_21, kL_tells_0, kL_tells_21, SL_tells_100, sk_0, al_0, sk_230, al_230, sn_230, mSet_ap, ncast]
    exact hk
  · exact hk
theorem ctrL_tells {l : Launch} (hst : l.stackTraces = false) (hT : mTxM l) : mCtrH l (hTab 0 10 tabL_tells) calL_tells spL_tells :=
  mMetH (T := TL_tells) (S := SL_tells) (hs := fun _ => []) hT tabL_tells 0 10 5 4 (by decide) okL_tells ⟨_, _, rfl, rfl⟩ okHL_tells.1 okHL_tells.2 (one_ok (mCtr_up (ctrX10_tells hst hT))) one_no vcL_tells
def spL_match : mSp := fun fl avs I Q => ∃ p0 p1 p2 p3 : Int, avs = [mR (some 0), mI p0, mI p1, mI p2, mI p3, mR (some 230)] ∧ mUp spX10_match fl [mR (some 0), mI p0, mI p1, mI p2, mI p3] I (wKi (tabL_match.map (fun q => q.1)) Q)
def SL_match : Nat → mSp := mOne (mUp spX10_match)
theorem SL_match_100 : SL_match 100 = mUp spX10_match := mOne_100 _
set_option maxRecDepth 100000 in
theorem vcL_match (fl : Nat → Bool) (avs : List mV) (I : mM) (Q : mO → mM → Prop) (hsp : spL_match fl avs I Q) : mVCH (tabL_match.map (fun q => q.1)) SL_match fl Q kL_match 7 avs I := by
  obtain ⟨p0, p1, p2, p3, rfl, Q0, h0, hQ⟩ := hsp
  refine ⟨rfl, ?_⟩
  show mWpL _ _ _ _ _ _ kL_match_0 [some (mR (some 0)), some (mI p0), some (mI p1), some (mI p2), some (mI p3), some (mR (some 230)), none] [] I
  simp only [false_and, and_false, true_or, or_true, false_or, or_false, true_and, and_true, true_implies, false_implies, implies_true, not_true_eq_false, not_false_eq_true, and_self, List.length_cons, List.length_nil, mNoCut_, mCat_n, mCat_I, mCat_L, mCat_R, mIsL_n, mIsL_I, mIsL_R, mIsL_L, Nat.reduceAdd, Nat.reduceSub, Nat.reduceLeDiff, Nat.reduceLT, Nat.reduceEqDiff, Nat.zero_le, Int.reduceEq, Int.reduceLT, Int.reduceLE, Int.reduceNeg, Int.reduceAdd, if_true, if_false, reduceIte, reduceCtorEq, Bool.false_eq_true, ne_eq, qCmp_0, qCmp_1, qCmp_2, qCmp_3, qCmp_4, qCmp_5, ib_0, ib_1, ib_2, lb_0, lb_1, lb_2, dv_0, dv_1, wl_ic, wl_ld_i, wl_ld_a, wl_st_a, wl_goto, wl_astI, wl_astL, wl_ret1, wl_i2x, ldR5, ldR0, ldI1, ldI2, ldI3, ldI4, wl_callV5_0, stR6, mPut_s, mPut_I0, mPut_R0, mPut_L0, mPut_I1, mPut_R1, mPut_L1, mGoL_n, sfxL_match_33, kL_match_0, kL_match_33, SL_match_100, sk_0, al_0, sk_230, al_230, sn_230, mSet_ap, ncast]
  refine ⟨Q0, h0, fun o I1 hq => ?_⟩
  have hk := hQ o I1 hq
  rcases o with (_ | v) | E
  · exact hk.elim
  · obtain ⟨x, rfl⟩ : ∃ x : Int, v = mI x := by
      rcases v with v | v | v
      · exact ⟨v, rfl⟩
      · exact hk.elim
      · exact hk.elim
    simp only [false_and, and_false, true_or, or_true, false_or, or_false, true_and, and_true, true_implies, false_implies, implies_true, not_true_eq_false, not_false_eq_true, and_self, List.length_cons, List.length_nil, mNoCut_, mCat_n, mCat_I, mCat_L, mCat_R, mIsL_n, mIsL_I, mIsL_R, mIsL_L, Nat.reduceAdd, Nat.reduceSub, Nat.reduceLeDiff, Nat.reduceLT, Nat.reduceEqDiff, Nat.zero_le, Int.reduceEq, Int.reduceLT, Int.reduceLE, Int.reduceNeg, Int.reduceAdd, if_true, if_false, reduceIte, reduceCtorEq, Bool.false_eq_true, ne_eq, qCmp_0, qCmp_1, qCmp_2, qCmp_3, qCmp_4, qCmp_5, ib_0, ib_1, ib_2, lb_0, lb_1, lb_2, dv_0, dv_1, wl_ic, wl_ld_i, wl_ld_a, wl_st_a, wl_goto, wl_astI, wl_astL, wl_ret1, wl_i2x, ldR5, ldR0, ldI1, ldI2, ldI3, ldI4, wl_callV5_0, stR6, mPut_s, mPut_I0, mPut_R0, mPut_L0, mPut_I1, mPut_R1, mPut_L1, mGoL_n, sfxL_match_33, kL_match_0, kL_match_33, SL_match_100, sk_0, al_0, sk_230, al_230, sn_230, mSet_ap, ncast]
    exact hk
  · exact hk
theorem ctrL_match {l : Launch} (hst : l.stackTraces = false) (hT : mTxM l) : mCtrH l (hTab 0 14 tabL_match) calL_match spL_match :=
  mMetH (T := TL_match) (S := SL_match) (hs := fun _ => []) hT tabL_match 0 14 9 6 (by decide) okL_match ⟨_, _, rfl, rfl⟩ okHL_match.1 okHL_match.2 (one_ok (mCtr_up (ctrX10_match hst hT))) one_no vcL_match
def spL_worth : mSp := fun fl avs I Q => ∃ p0 p1 : Int, avs = [mR (some 0), mI p0, mI p1, mR (some 230)] ∧ mUp spX10_worth fl [mR (some 0), mI p0, mI p1] I (wKb (tabL_worth.map (fun q => q.1)) Q)
def SL_worth : Nat → mSp := mOne (mUp spX10_worth)
theorem SL_worth_100 : SL_worth 100 = mUp spX10_worth := mOne_100 _
set_option maxRecDepth 100000 in
theorem vcL_worth (fl : Nat → Bool) (avs : List mV) (I : mM) (Q : mO → mM → Prop) (hsp : spL_worth fl avs I Q) : mVCH (tabL_worth.map (fun q => q.1)) SL_worth fl Q kL_worth 5 avs I := by
  obtain ⟨p0, p1, rfl, Q0, h0, hQ⟩ := hsp
  refine ⟨rfl, ?_⟩
  show mWpL _ _ _ _ _ _ kL_worth_0 [some (mR (some 0)), some (mI p0), some (mI p1), some (mR (some 230)), none] [] I
  simp only [false_and, and_false, true_or, or_true, false_or, or_false, true_and, and_true, true_implies, false_implies, implies_true, not_true_eq_false, not_false_eq_true, and_self, List.length_cons, List.length_nil, mNoCut_, mCat_n, mCat_I, mCat_L, mCat_R, mIsL_n, mIsL_I, mIsL_R, mIsL_L, Nat.reduceAdd, Nat.reduceSub, Nat.reduceLeDiff, Nat.reduceLT, Nat.reduceEqDiff, Nat.zero_le, Int.reduceEq, Int.reduceLT, Int.reduceLE, Int.reduceNeg, Int.reduceAdd, if_true, if_false, reduceIte, reduceCtorEq, Bool.false_eq_true, ne_eq, qCmp_0, qCmp_1, qCmp_2, qCmp_3, qCmp_4, qCmp_5, ib_0, ib_1, ib_2, lb_0, lb_1, lb_2, dv_0, dv_1, wl_ic, wl_lc, wl_ld_i, wl_ld_a, wl_st_a, wl_if, mrg_0_, wl_goto, wl_astI, wl_astL, wl_ret1, ldR3, ldR0, ldI1, ldI2, wl_callV3_0, stR4, mPut_s, mPut_I0, mPut_R0, mPut_L0, mPut_I1, mPut_R1, mPut_L1, mGoL_n, sfxL_worth_15, sfxL_worth_16, sfxL_worth_28, kL_worth_0, kL_worth_15, kL_worth_16, kL_worth_28, SL_worth_100, sk_0, al_0, sk_230, al_230, sn_230, mSet_ap, ncast]
  refine ⟨Q0, h0, fun o I1 hq => ?_⟩
  have hk := hQ o I1 hq
  rcases o with (_ | v) | E
  · exact hk.elim
  · obtain ⟨x, rfl⟩ : ∃ x : Int, v = mI x := by
      rcases v with v | v | v
      · exact ⟨v, rfl⟩
      · exact hk.elim
      · exact hk.elim
    simp only [false_and, and_false, true_or, or_true, false_or, or_false, true_and, and_true, true_implies, false_implies, implies_true, not_true_eq_false, not_false_eq_true, and_self, List.length_cons, List.length_nil, mNoCut_, mCat_n, mCat_I, mCat_L, mCat_R, mIsL_n, mIsL_I, mIsL_R, mIsL_L, Nat.reduceAdd, Nat.reduceSub, Nat.reduceLeDiff, Nat.reduceLT, Nat.reduceEqDiff, Nat.zero_le, Int.reduceEq, Int.reduceLT, Int.reduceLE, Int.reduceNeg, Int.reduceAdd, if_true, if_false, reduceIte, reduceCtorEq, Bool.false_eq_true, ne_eq, qCmp_0, qCmp_1, qCmp_2, qCmp_3, qCmp_4, qCmp_5, ib_0, ib_1, ib_2, lb_0, lb_1, lb_2, dv_0, dv_1, wl_ic, wl_lc, wl_ld_i, wl_ld_a, wl_st_a, wl_if, mrg_0_, wl_goto, wl_astI, wl_astL, wl_ret1, ldR3, ldR0, ldI1, ldI2, wl_callV3_0, stR4, mPut_s, mPut_I0, mPut_R0, mPut_L0, mPut_I1, mPut_R1, mPut_L1, mGoL_n, sfxL_worth_15, sfxL_worth_16, sfxL_worth_28, kL_worth_0, kL_worth_15, kL_worth_16, kL_worth_28, SL_worth_100, sk_0, al_0, sk_230, al_230, sn_230, mSet_ap, ncast]
    exact hk
  · exact hk
theorem ctrL_worth {l : Launch} (hst : l.stackTraces = false) (hT : mTxM l) : mCtrH l (hTab 0 17 tabL_worth) calL_worth spL_worth :=
  mMetH (T := TL_worth) (S := SL_worth) (hs := fun _ => []) hT tabL_worth 0 17 5 4 (by decide) okL_worth ⟨_, _, rfl, rfl⟩ okHL_worth.1 okHL_worth.2 (one_ok (mCtr_up (ctrX10_worth hst hT))) one_no vcL_worth
def spL_brave : mSp := fun fl avs I Q => ∃ p0 p1 p2 : Int, avs = [mR (some 0), mI p0, mI p1, mI p2, mR (some 230)] ∧ mUp spX10_brave fl [mR (some 0), mI p0, mI p1, mI p2] I (wKb (tabL_brave.map (fun q => q.1)) Q)
def SL_brave : Nat → mSp := mOne (mUp spX10_brave)
theorem SL_brave_100 : SL_brave 100 = mUp spX10_brave := mOne_100 _
set_option maxRecDepth 100000 in
theorem vcL_brave (fl : Nat → Bool) (avs : List mV) (I : mM) (Q : mO → mM → Prop) (hsp : spL_brave fl avs I Q) : mVCH (tabL_brave.map (fun q => q.1)) SL_brave fl Q kL_brave 6 avs I := by
  obtain ⟨p0, p1, p2, rfl, Q0, h0, hQ⟩ := hsp
  refine ⟨rfl, ?_⟩
  show mWpL _ _ _ _ _ _ kL_brave_0 [some (mR (some 0)), some (mI p0), some (mI p1), some (mI p2), some (mR (some 230)), none] [] I
  simp only [false_and, and_false, true_or, or_true, false_or, or_false, true_and, and_true, true_implies, false_implies, implies_true, not_true_eq_false, not_false_eq_true, and_self, List.length_cons, List.length_nil, mNoCut_, mCat_n, mCat_I, mCat_L, mCat_R, mIsL_n, mIsL_I, mIsL_R, mIsL_L, Nat.reduceAdd, Nat.reduceSub, Nat.reduceLeDiff, Nat.reduceLT, Nat.reduceEqDiff, Nat.zero_le, Int.reduceEq, Int.reduceLT, Int.reduceLE, Int.reduceNeg, Int.reduceAdd, if_true, if_false, reduceIte, reduceCtorEq, Bool.false_eq_true, ne_eq, qCmp_0, qCmp_1, qCmp_2, qCmp_3, qCmp_4, qCmp_5, ib_0, ib_1, ib_2, lb_0, lb_1, lb_2, dv_0, dv_1, wl_ic, wl_lc, wl_ld_i, wl_ld_a, wl_st_a, wl_if, mrg_0_, wl_goto, wl_astI, wl_astL, wl_ret1, ldR4, ldR0, ldI1, ldI2, ldI3, wl_callV4_0, stR5, mPut_s, mPut_I0, mPut_R0, mPut_L0, mPut_I1, mPut_R1, mPut_L1, mGoL_n, sfxL_brave_17, sfxL_brave_18, sfxL_brave_34, kL_brave_0, kL_brave_17, kL_brave_18, kL_brave_34, SL_brave_100, sk_0, al_0, sk_230, al_230, sn_230, mSet_ap, ncast]
  refine ⟨Q0, h0, fun o I1 hq => ?_⟩
  have hk := hQ o I1 hq
  rcases o with (_ | v) | E
  · exact hk.elim
  · obtain ⟨x, rfl⟩ : ∃ x : Int, v = mI x := by
      rcases v with v | v | v
      · exact ⟨v, rfl⟩
      · exact hk.elim
      · exact hk.elim
    simp only [false_and, and_false, true_or, or_true, false_or, or_false, true_and, and_true, true_implies, false_implies, implies_true, not_true_eq_false, not_false_eq_true, and_self, List.length_cons, List.length_nil, mNoCut_, mCat_n, mCat_I, mCat_L, mCat_R, mIsL_n, mIsL_I, mIsL_R, mIsL_L, Nat.reduceAdd, Nat.reduceSub, Nat.reduceLeDiff, Nat.reduceLT, Nat.reduceEqDiff, Nat.zero_le, Int.reduceEq, Int.reduceLT, Int.reduceLE, Int.reduceNeg, Int.reduceAdd, if_true, if_false, reduceIte, reduceCtorEq, Bool.false_eq_true, ne_eq, qCmp_0, qCmp_1, qCmp_2, qCmp_3, qCmp_4, qCmp_5, ib_0, ib_1, ib_2, lb_0, lb_1, lb_2, dv_0, dv_1, wl_ic, wl_lc, wl_ld_i, wl_ld_a, wl_st_a, wl_if, mrg_0_, wl_goto, wl_astI, wl_astL, wl_ret1, ldR4, ldR0, ldI1, ldI2, ldI3, wl_callV4_0, stR5, mPut_s, mPut_I0, mPut_R0, mPut_L0, mPut_I1, mPut_R1, mPut_L1, mGoL_n, sfxL_brave_17, sfxL_brave_18, sfxL_brave_34, kL_brave_0, kL_brave_17, kL_brave_18, kL_brave_34, SL_brave_100, sk_0, al_0, sk_230, al_230, sn_230, mSet_ap, ncast]
    exact hk
  · exact hk
theorem ctrL_brave {l : Launch} (hst : l.stackTraces = false) (hT : mTxM l) : mCtrH l (hTab 0 19 tabL_brave) calL_brave spL_brave :=
  mMetH (T := TL_brave) (S := SL_brave) (hs := fun _ => []) hT tabL_brave 0 19 7 5 (by decide) okL_brave ⟨_, _, rfl, rfl⟩ okHL_brave.1 okHL_brave.2 (one_ok (mCtr_up (ctrX10_brave hst hT))) one_no vcL_brave
def spL_both : mSp := fun fl avs I Q => ∃ p0 p1 : Int, avs = [mR (some 0), mI p0, mI p1, mR (some 230)] ∧ mUp spX10_both fl [mR (some 0), mI p0, mI p1] I (wKb (tabL_both.map (fun q => q.1)) Q)
def SL_both : Nat → mSp := mOne (mUp spX10_both)
theorem SL_both_100 : SL_both 100 = mUp spX10_both := mOne_100 _
set_option maxRecDepth 100000 in
theorem vcL_both (fl : Nat → Bool) (avs : List mV) (I : mM) (Q : mO → mM → Prop) (hsp : spL_both fl avs I Q) : mVCH (tabL_both.map (fun q => q.1)) SL_both fl Q kL_both 5 avs I := by
  obtain ⟨p0, p1, rfl, Q0, h0, hQ⟩ := hsp
  refine ⟨rfl, ?_⟩
  show mWpL _ _ _ _ _ _ kL_both_0 [some (mR (some 0)), some (mI p0), some (mI p1), some (mR (some 230)), none] [] I
  simp only [false_and, and_false, true_or, or_true, false_or, or_false, true_and, and_true, true_implies, false_implies, implies_true, not_true_eq_false, not_false_eq_true, and_self, List.length_cons, List.length_nil, mNoCut_, mCat_n, mCat_I, mCat_L, mCat_R, mIsL_n, mIsL_I, mIsL_R, mIsL_L, Nat.reduceAdd, Nat.reduceSub, Nat.reduceLeDiff, Nat.reduceLT, Nat.reduceEqDiff, Nat.zero_le, Int.reduceEq, Int.reduceLT, Int.reduceLE, Int.reduceNeg, Int.reduceAdd, if_true, if_false, reduceIte, reduceCtorEq, Bool.false_eq_true, ne_eq, qCmp_0, qCmp_1, qCmp_2, qCmp_3, qCmp_4, qCmp_5, ib_0, ib_1, ib_2, lb_0, lb_1, lb_2, dv_0, dv_1, wl_ic, wl_lc, wl_ld_i, wl_ld_a, wl_st_a, wl_if, mrg_0_, wl_goto, wl_astI, wl_astL, wl_ret1, ldR3, ldR0, ldI1, ldI2, wl_callV3_0, stR4, mPut_s, mPut_I0, mPut_R0, mPut_L0, mPut_I1, mPut_R1, mPut_L1, mGoL_n, sfxL_both_15, sfxL_both_16, sfxL_both_28, kL_both_0, kL_both_15, kL_both_16, kL_both_28, SL_both_100, sk_0, al_0, sk_230, al_230, sn_230, mSet_ap, ncast]
  refine ⟨Q0, h0, fun o I1 hq => ?_⟩
  have hk := hQ o I1 hq
  rcases o with (_ | v) | E
  · exact hk.elim
  · obtain ⟨x, rfl⟩ : ∃ x : Int, v = mI x := by
      rcases v with v | v | v
      · exact ⟨v, rfl⟩
      · exact hk.elim
      · exact hk.elim
    simp only [false_and, and_false, true_or, or_true, false_or, or_false, true_and, and_true, true_implies, false_implies, implies_true, not_true_eq_false, not_false_eq_true, and_self, List.length_cons, List.length_nil, mNoCut_, mCat_n, mCat_I, mCat_L, mCat_R, mIsL_n, mIsL_I, mIsL_R, mIsL_L, Nat.reduceAdd, Nat.reduceSub, Nat.reduceLeDiff, Nat.reduceLT, Nat.reduceEqDiff, Nat.zero_le, Int.reduceEq, Int.reduceLT, Int.reduceLE, Int.reduceNeg, Int.reduceAdd, if_true, if_false, reduceIte, reduceCtorEq, Bool.false_eq_true, ne_eq, qCmp_0, qCmp_1, qCmp_2, qCmp_3, qCmp_4, qCmp_5, ib_0, ib_1, ib_2, lb_0, lb_1, lb_2, dv_0, dv_1, wl_ic, wl_lc, wl_ld_i, wl_ld_a, wl_st_a, wl_if, mrg_0_, wl_goto, wl_astI, wl_astL, wl_ret1, ldR3, ldR0, ldI1, ldI2, wl_callV3_0, stR4, mPut_s, mPut_I0, mPut_R0, mPut_L0, mPut_I1, mPut_R1, mPut_L1, mGoL_n, sfxL_both_15, sfxL_both_16, sfxL_both_28, kL_both_0, kL_both_15, kL_both_16, kL_both_28, SL_both_100, sk_0, al_0, sk_230, al_230, sn_230, mSet_ap, ncast]
    exact hk
  · exact hk
theorem ctrL_both {l : Launch} (hst : l.stackTraces = false) (hT : mTxM l) : mCtrH l (hTab 0 17 tabL_both) calL_both spL_both :=
  mMetH (T := TL_both) (S := SL_both) (hs := fun _ => []) hT tabL_both 0 17 5 4 (by decide) okL_both ⟨_, _, rfl, rfl⟩ okHL_both.1 okHL_both.2 (one_ok (mCtr_up (ctrX10_both hst hT))) one_no vcL_both
def spL_book : mSp := fun fl avs I Q => ∃ p0 p1 p2 : Int, avs = [mR (some 0), mI p0, mI p1, mI p2, mR (some 230)] ∧ mUp spX10_book fl [mR (some 0), mI p0, mI p1, mI p2] I (wKi (tabL_book.map (fun q => q.1)) Q)
def SL_book : Nat → mSp := mOne (mUp spX10_book)
theorem SL_book_100 : SL_book 100 = mUp spX10_book := mOne_100 _
set_option maxRecDepth 100000 in
theorem vcL_book (fl : Nat → Bool) (avs : List mV) (I : mM) (Q : mO → mM → Prop) (hsp : spL_book fl avs I Q) : mVCH (tabL_book.map (fun q => q.1)) SL_book fl Q kL_book 6 avs I := by
  obtain ⟨p0, p1, p2, rfl, Q0, h0, hQ⟩ := hsp
  refine ⟨rfl, ?_⟩
  show mWpL _ _ _ _ _ _ kL_book_0 [some (mR (some 0)), some (mI p0), some (mI p1), some (mI p2), some (mR (some 230)), none] [] I
  simp only [false_and, and_false, true_or, or_true, false_or, or_false, true_and, and_true, true_implies, false_implies, implies_true, not_true_eq_false, not_false_eq_true, and_self, List.length_cons, List.length_nil, mNoCut_, mCat_n, mCat_I, mCat_L, mCat_R, mIsL_n, mIsL_I, mIsL_R, mIsL_L, Nat.reduceAdd, Nat.reduceSub, Nat.reduceLeDiff, Nat.reduceLT, Nat.reduceEqDiff, Nat.zero_le, Int.reduceEq, Int.reduceLT, Int.reduceLE, Int.reduceNeg, Int.reduceAdd, if_true, if_false, reduceIte, reduceCtorEq, Bool.false_eq_true, ne_eq, qCmp_0, qCmp_1, qCmp_2, qCmp_3, qCmp_4, qCmp_5, ib_0, ib_1, ib_2, lb_0, lb_1, lb_2, dv_0, dv_1, wl_ic, wl_ld_i, wl_ld_a, wl_st_a, wl_goto, wl_astI, wl_astL, wl_ret1, wl_i2x, ldR4, ldR0, ldI1, ldI2, ldI3, wl_callV4_0, stR5, mPut_s, mPut_I0, mPut_R0, mPut_L0, mPut_I1, mPut_R1, mPut_L1, mGoL_n, sfxL_book_23, kL_book_0, kL_book_23, SL_book_100, sk_0, al_0, sk_230, al_230, sn_230, mSet_ap, ncast]
  refine ⟨Q0, h0, fun o I1 hq => ?_⟩
  have hk := hQ o I1 hq
  rcases o with (_ | v) | E
  · exact hk.elim
  · obtain ⟨x, rfl⟩ : ∃ x : Int, v = mI x := by
      rcases v with v | v | v
      · exact ⟨v, rfl⟩
      · exact hk.elim
      · exact hk.elim
    simp only [false_and, and_false, true_or, or_true, false_or, or_false, true_and, and_true, true_implies, false_implies, implies_true, not_true_eq_false, not_false_eq_true, and_self, List.length_cons, List.length_nil, mNoCut_, mCat_n, mCat_I, mCat_L, mCat_R, mIsL_n, mIsL_I, mIsL_R, mIsL_L, Nat.reduceAdd, Nat.reduceSub, Nat.reduceLeDiff, Nat.reduceLT, Nat.reduceEqDiff, Nat.zero_le, Int.reduceEq, Int.reduceLT, Int.reduceLE, Int.reduceNeg, Int.reduceAdd, if_true, if_false, reduceIte, reduceCtorEq, Bool.false_eq_true, ne_eq, qCmp_0, qCmp_1, qCmp_2, qCmp_3, qCmp_4, qCmp_5, ib_0, ib_1, ib_2, lb_0, lb_1, lb_2, dv_0, dv_1, wl_ic, wl_ld_i, wl_ld_a, wl_st_a, wl_goto, wl_astI, wl_astL, wl_ret1, wl_i2x, ldR4, ldR0, ldI1, ldI2, ldI3, wl_callV4_0, stR5, mPut_s, mPut_I0, mPut_R0, mPut_L0, mPut_I1, mPut_R1, mPut_L1, mGoL_n, sfxL_book_23, kL_book_0, kL_book_23, SL_book_100, sk_0, al_0, sk_230, al_230, sn_230, mSet_ap, ncast]
    exact hk
  · exact hk
theorem ctrL_book {l : Launch} (hst : l.stackTraces = false) (hT : mTxM l) : mCtrH l (hTab 0 12 tabL_book) calL_book spL_book :=
  mMetH (T := TL_book) (S := SL_book) (hs := fun _ => []) hT tabL_book 0 12 7 5 (by decide) okL_book ⟨_, _, rfl, rfl⟩ okHL_book.1 okHL_book.2 (one_ok (mCtr_up (ctrX10_book hst hT))) one_no vcL_book
def spL_learn : mSp := fun fl avs I Q => ∃ p0 : Int, avs = [mR (some 0), mI p0, mR (some 230)] ∧ mUp spX10_learn fl [mR (some 0), mI p0] I (wKi (tabL_learn.map (fun q => q.1)) Q)
def SL_learn : Nat → mSp := mOne (mUp spX10_learn)
theorem SL_learn_100 : SL_learn 100 = mUp spX10_learn := mOne_100 _
set_option maxRecDepth 100000 in
theorem vcL_learn (fl : Nat → Bool) (avs : List mV) (I : mM) (Q : mO → mM → Prop) (hsp : spL_learn fl avs I Q) : mVCH (tabL_learn.map (fun q => q.1)) SL_learn fl Q kL_learn 4 avs I := by
  obtain ⟨p0, rfl, Q0, h0, hQ⟩ := hsp
  refine ⟨rfl, ?_⟩
  show mWpL _ _ _ _ _ _ kL_learn_0 [some (mR (some 0)), some (mI p0), some (mR (some 230)), none] [] I
  simp only [false_and, and_false, true_or, or_true, false_or, or_false, true_and, and_true, true_implies, false_implies, implies_true, not_true_eq_false, not_false_eq_true, and_self, List.length_cons, List.length_nil, mNoCut_, mCat_n, mCat_I, mCat_L, mCat_R, mIsL_n, mIsL_I, mIsL_R, mIsL_L, Nat.reduceAdd, Nat.reduceSub, Nat.reduceLeDiff, Nat.reduceLT, Nat.reduceEqDiff, Nat.zero_le, Int.reduceEq, Int.reduceLT, Int.reduceLE, Int.reduceNeg, Int.reduceAdd, if_true, if_false, reduceIte, reduceCtorEq, Bool.false_eq_true, ne_eq, qCmp_0, qCmp_1, qCmp_2, qCmp_3, qCmp_4, qCmp_5, ib_0, ib_1, ib_2, lb_0, lb_1, lb_2, dv_0, dv_1, wl_ic, wl_ld_i, wl_ld_a, wl_st_a, wl_goto, wl_astI, wl_astL, wl_ret1, wl_i2x, ldR2, ldR0, ldI1, wl_callV2_0, stR3, mPut_s, mPut_I0, mPut_R0, mPut_L0, mPut_I1, mPut_R1, mPut_L1, mGoL_n, sfxL_learn_15, kL_learn_0, kL_learn_15, SL_learn_100, sk_0, al_0, sk_230, al_230, sn_230, mSet_ap, ncast]
  refine ⟨Q0, h0, fun o I1 hq => ?_⟩
  have hk := hQ o I1 hq
  rcases o with (_ | v) | E
  · exact hk.elim
  · obtain ⟨x, rfl⟩ : ∃ x : Int, v = mI x := by
      rcases v with v | v | v
      · exact ⟨v, rfl⟩
      · exact hk.elim
      · exact hk.elim
    simp only [false_and, and_false, true_or, or_true, false_or, or_false, true_and, and_true, true_implies, false_implies, implies_true, not_true_eq_false, not_false_eq_true, and_self, List.length_cons, List.length_nil, mNoCut_, mCat_n, mCat_I, mCat_L, mCat_R, mIsL_n, mIsL_I, mIsL_R, mIsL_L, Nat.reduceAdd, Nat.reduceSub, Nat.reduceLeDiff, Nat.reduceLT, Nat.reduceEqDiff, Nat.zero_le, Int.reduceEq, Int.reduceLT, Int.reduceLE, Int.reduceNeg, Int.reduceAdd, if_true, if_false, reduceIte, reduceCtorEq, Bool.false_eq_true, ne_eq, qCmp_0, qCmp_1, qCmp_2, qCmp_3, qCmp_4, qCmp_5, ib_0, ib_1, ib_2, lb_0, lb_1, lb_2, dv_0, dv_1, wl_ic, wl_ld_i, wl_ld_a, wl_st_a, wl_goto, wl_astI, wl_astL, wl_ret1, wl_i2x, ldR2, ldR0, ldI1, wl_callV2_0, stR3, mPut_s, mPut_I0, mPut_R0, mPut_L0, mPut_I1, mPut_R1, mPut_L1, mGoL_n, sfxL_learn_15, kL_learn_0, kL_learn_15, SL_learn_100, sk_0, al_0, sk_230, al_230, sn_230, mSet_ap, ncast]
    exact hk
  · exact hk
theorem ctrL_learn {l : Launch} (hst : l.stackTraces = false) (hT : mTxM l) : mCtrH l (hTab 0 9 tabL_learn) calL_learn spL_learn :=
  mMetH (T := TL_learn) (S := SL_learn) (hs := fun _ => []) hT tabL_learn 0 9 4 3 (by decide) okL_learn ⟨_, _, rfl, rfl⟩ okHL_learn.1 okHL_learn.2 (one_ok (mCtr_up (ctrX10_learn hst hT))) one_no vcL_learn
def spL_ends : mSp := fun fl avs I Q => ∃ p0 p1 p2 : Int, avs = [mR (some 0), mI p0, mI p1, mI p2, mR (some 230)] ∧ mUp spX10_ends fl [mR (some 0), mI p0, mI p1, mI p2] I (wKb (tabL_ends.map (fun q => q.1)) Q)
def SL_ends : Nat → mSp := mOne (mUp spX10_ends)
theorem SL_ends_100 : SL_ends 100 = mUp spX10_ends := mOne_100 _
set_option maxRecDepth 100000 in
theorem vcL_ends (fl : Nat → Bool) (avs : List mV) (I : mM) (Q : mO → mM → Prop) (hsp : spL_ends fl avs I Q) : mVCH (tabL_ends.map (fun q => q.1)) SL_ends fl Q kL_ends 6 avs I := by
  obtain ⟨p0, p1, p2, rfl, Q0, h0, hQ⟩ := hsp
  refine ⟨rfl, ?_⟩
  show mWpL _ _ _ _ _ _ kL_ends_0 [some (mR (some 0)), some (mI p0), some (mI p1), some (mI p2), some (mR (some 230)), none] [] I
  simp only [false_and, and_false, true_or, or_true, false_or, or_false, true_and, and_true, true_implies, false_implies, implies_true, not_true_eq_false, not_false_eq_true, and_self, List.length_cons, List.length_nil, mNoCut_, mCat_n, mCat_I, mCat_L, mCat_R, mIsL_n, mIsL_I, mIsL_R, mIsL_L, Nat.reduceAdd, Nat.reduceSub, Nat.reduceLeDiff, Nat.reduceLT, Nat.reduceEqDiff, Nat.zero_le, Int.reduceEq, Int.reduceLT, Int.reduceLE, Int.reduceNeg, Int.reduceAdd, if_true, if_false, reduceIte, reduceCtorEq, Bool.false_eq_true, ne_eq, qCmp_0, qCmp_1, qCmp_2, qCmp_3, qCmp_4, qCmp_5, ib_0, ib_1, ib_2, lb_0, lb_1, lb_2, dv_0, dv_1, wl_ic, wl_lc, wl_ld_i, wl_ld_a, wl_st_a, wl_if, mrg_0_, wl_goto, wl_astI, wl_astL, wl_ret1, ldR4, ldR0, ldI1, ldI2, ldI3, wl_callV4_0, stR5, mPut_s, mPut_I0, mPut_R0, mPut_L0, mPut_I1, mPut_R1, mPut_L1, mGoL_n, sfxL_ends_17, sfxL_ends_18, sfxL_ends_26, kL_ends_0, kL_ends_17, kL_ends_18, kL_ends_26, SL_ends_100, sk_0, al_0, sk_230, al_230, sn_230, mSet_ap, ncast]
  refine ⟨Q0, h0, fun o I1 hq => ?_⟩
  have hk := hQ o I1 hq
  rcases o with (_ | v) | E
  · exact hk.elim
  · obtain ⟨x, rfl⟩ : ∃ x : Int, v = mI x := by
      rcases v with v | v | v
      · exact ⟨v, rfl⟩
      · exact hk.elim
      · exact hk.elim
    simp only [false_and, and_false, true_or, or_true, false_or, or_false, true_and, and_true, true_implies, false_implies, implies_true, not_true_eq_false, not_false_eq_true, and_self, List.length_cons, List.length_nil, mNoCut_, mCat_n, mCat_I, mCat_L, mCat_R, mIsL_n, mIsL_I, mIsL_R, mIsL_L, Nat.reduceAdd, Nat.reduceSub, Nat.reduceLeDiff, Nat.reduceLT, Nat.reduceEqDiff, Nat.zero_le, Int.reduceEq, Int.reduceLT, Int.reduceLE, Int.reduceNeg, Int.reduceAdd, if_true, if_false, reduceIte, reduceCtorEq, Bool.false_eq_true, ne_eq, qCmp_0, qCmp_1, qCmp_2, qCmp_3, qCmp_4, qCmp_5, ib_0, ib_1, ib_2, lb_0, lb_1, lb_2, dv_0, dv_1, wl_ic, wl_lc, wl_ld_i, wl_ld_a, wl_st_a, wl_if, mrg_0_, wl_goto, wl_astI, wl_astL, wl_ret1, ldR4, ldR0, ldI1, ldI2, ldI3, wl_callV4_0, stR5, mPut_s, mPut_I0, mPut_R0, mPut_L0, mPut_I1, mPut_R1, mPut_L1, mGoL_n, sfxL_ends_17, sfxL_ends_18, sfxL_ends_26, kL_ends_0, kL_ends_17, kL_ends_18, kL_ends_26, SL_ends_100, sk_0, al_0, sk_230, al_230, sn_230, mSet_ap, ncast]
    exact hk
  · exact hk
theorem ctrL_ends {l : Launch} (hst : l.stackTraces = false) (hT : mTxM l) : mCtrH l (hTab 0 19 tabL_ends) calL_ends spL_ends :=
  mMetH (T := TL_ends) (S := SL_ends) (hs := fun _ => []) hT tabL_ends 0 19 7 5 (by decide) okL_ends ⟨_, _, rfl, rfl⟩ okHL_ends.1 okHL_ends.2 (one_ok (mCtr_up (ctrX10_ends hst hT))) one_no vcL_ends
def spL_enough : mSp := fun fl avs I Q => ∃ p0 p1 p2 : Int, avs = [mR (some 0), mI p0, mI p1, mI p2, mR (some 230)] ∧ mUp spX10_enough fl [mR (some 0), mI p0, mI p1, mI p2] I (wKi (tabL_enough.map (fun q => q.1)) Q)
def SL_enough : Nat → mSp := mOne (mUp spX10_enough)
theorem SL_enough_100 : SL_enough 100 = mUp spX10_enough := mOne_100 _
set_option maxRecDepth 100000 in
theorem vcL_enough (fl : Nat → Bool) (avs : List mV) (I : mM) (Q : mO → mM → Prop) (hsp : spL_enough fl avs I Q) : mVCH (tabL_enough.map (fun q => q.1)) SL_enough fl Q kL_enough 6 avs I := by
  obtain ⟨p0, p1, p2, rfl, Q0, h0, hQ⟩ := hsp
  refine ⟨rfl, ?_⟩
  show mWpL _ _ _ _ _ _ kL_enough_0 [some (mR (some 0)), some (mI p0), some (mI p1), some (mI p2), some (mR (some 230)), none] [] I
  simp only [false_and, and_false, true_or, or_true, false_or, or_false, true_and, and_true, true_implies, false_implies, implies_true, not_true_eq_false, not_false_eq_true, and_self, List.length_cons, List.length_nil, mNoCut_, mCat_n, mCat_I, mCat_L, mCat_R, mIsL_n, mIsL_I, mIsL_R, mIsL_L, Nat.reduceAdd, Nat.reduceSub, Nat.reduceLeDiff, Nat.reduceLT, Nat.reduceEqDiff, Nat.zero_le, Int.reduceEq, Int.reduceLT, Int.reduceLE, Int.reduceNeg, Int.reduceAdd, if_true, if_false, reduceIte, reduceCtorEq, Bool.false_eq_true, ne_eq, qCmp_0, qCmp_1, qCmp_2, qCmp_3, qCmp_4, qCmp_5, ib_0, ib_1, ib_2, lb_0, lb_1, lb_2, dv_0, dv_1, wl_ic, wl_ld_i, wl_ld_a, wl_st_a, wl_goto, wl_astI, wl_astL, wl_ret1, wl_i2x, ldR4, ldR0, ldI1, ldI2, ldI3, wl_callV4_0, stR5, mPut_s, mPut_I0, mPut_R0, mPut_L0, mPut_I1, mPut_R1, mPut_L1, mGoL_n, sfxL_enough_23, kL_enough_0, kL_enough_23, SL_enough_100, sk_0, al_0, sk_230, al_230, sn_230, mSet_ap, ncast]
  refine ⟨Q0, h0, fun o I1 hq => ?_⟩
  have hk := hQ o I1 hq
  rcases o with (_ | v) | E
  · exact hk.elim
  · obtain ⟨x, rfl⟩ : ∃ x : Int, v = mI x := by
      rcases v with v | v | v
      · exact ⟨v, rfl⟩
      · exact hk.elim
      · exact hk.elim
    simp only [false_and, and_false, true_or, or_true, false_or, or_false, true_and, and_true, true_implies, false_implies, implies_true, not_true_eq_false, not_false_eq_true, and_self, List.length_cons, List.length_nil, mNoCut_, mCat_n, mCat_I, mCat_L, mCat_R, mIsL_n, mIsL_I, mIsL_R, mIsL_L, Nat.reduceAdd, Nat.reduceSub, Nat.reduceLeDiff, Nat.reduceLT, Nat.reduceEqDiff, Nat.zero_le, Int.reduceEq, Int.reduceLT, Int.reduceLE, Int.reduceNeg, Int.reduceAdd, if_true, if_false, reduceIte, reduceCtorEq, Bool.false_eq_true, ne_eq, qCmp_0, qCmp_1, qCmp_2, qCmp_3, qCmp_4, qCmp_5, ib_0, ib_1, ib_2, lb_0, lb_1, lb_2, dv_0, dv_1, wl_ic, wl_ld_i, wl_ld_a, wl_st_a, wl_goto, wl_astI, wl_astL, wl_ret1, wl_i2x, ldR4, ldR0, ldI1, ldI2, ldI3, wl_callV4_0, stR5, mPut_s, mPut_I0, mPut_R0, mPut_L0, mPut_I1, mPut_R1, mPut_L1, mGoL_n, sfxL_enough_23, kL_enough_0, kL_enough_23, SL_enough_100, sk_0, al_0, sk_230, al_230, sn_230, mSet_ap, ncast]
    exact hk
  · exact hk
theorem ctrL_enough {l : Launch} (hst : l.stackTraces = false) (hT : mTxM l) : mCtrH l (hTab 0 12 tabL_enough) calL_enough spL_enough :=
  mMetH (T := TL_enough) (S := SL_enough) (hs := fun _ => []) hT tabL_enough 0 12 7 5 (by decide) okL_enough ⟨_, _, rfl, rfl⟩ okHL_enough.1 okHL_enough.2 (one_ok (mCtr_up (ctrX10_enough hst hT))) one_no vcL_enough
def spL_play : mSp := fun fl avs I Q => ∃ p0 p1 p2 : Int, avs = [mR (some 0), mI p0, mI p1, mI p2, mR (some 230)] ∧ mUp spX10_play fl [mR (some 0), mI p0, mI p1, mI p2] I (wKi (tabL_play.map (fun q => q.1)) Q)
def SL_play : Nat → mSp := mOne (mUp spX10_play)
theorem SL_play_100 : SL_play 100 = mUp spX10_play := mOne_100 _
set_option maxRecDepth 100000 in
theorem vcL_play (fl : Nat → Bool) (avs : List mV) (I : mM) (Q : mO → mM → Prop) (hsp : spL_play fl avs I Q) : mVCH (tabL_play.map (fun q => q.1)) SL_play fl Q kL_play 6 avs I := by
  obtain ⟨p0, p1, p2, rfl, Q0, h0, hQ⟩ := hsp
  refine ⟨rfl, ?_⟩
  show mWpL _ _ _ _ _ _ kL_play_0 [some (mR (some 0)), some (mI p0), some (mI p1), some (mI p2), some (mR (some 230)), none] [] I
  simp only [false_and, and_false, true_or, or_true, false_or, or_false, true_and, and_true, true_implies, false_implies, implies_true, not_true_eq_false, not_false_eq_true, and_self, List.length_cons, List.length_nil, mNoCut_, mCat_n, mCat_I, mCat_L, mCat_R, mIsL_n, mIsL_I, mIsL_R, mIsL_L, Nat.reduceAdd, Nat.reduceSub, Nat.reduceLeDiff, Nat.reduceLT, Nat.reduceEqDiff, Nat.zero_le, Int.reduceEq, Int.reduceLT, Int.reduceLE, Int.reduceNeg, Int.reduceAdd, if_true, if_false, reduceIte, reduceCtorEq, Bool.false_eq_true, ne_eq, qCmp_0, qCmp_1, qCmp_2, qCmp_3, qCmp_4, qCmp_5, ib_0, ib_1, ib_2, lb_0, lb_1, lb_2, dv_0, dv_1, wl_ic, wl_ld_i, wl_ld_a, wl_st_a, wl_goto, wl_astI, wl_astL, wl_ret1, wl_i2x, ldR4, ldR0, ldI1, ldI2, ldI3, wl_callV4_0, stR5, mPut_s, mPut_I0, mPut_R0, mPut_L0, mPut_I1, mPut_R1, mPut_L1, mGoL_n, sfxL_play_23, kL_play_0, kL_play_23, SL_play_100, sk_0, al_0, sk_230, al_230, sn_230, mSet_ap, ncast]
  refine ⟨Q0, h0, fun o I1 hq => ?_⟩
  have hk := hQ o I1 hq
  rcases o with (_ | v) | E
  · exact hk.elim
  · obtain ⟨x, rfl⟩ : ∃ x : Int, v = mI x := by
      rcases v with v | v | v
      · exact ⟨v, rfl⟩
      · exact hk.elim
      · exact hk.elim
    simp only [false_and, and_false, true_or, or_true, false_or, or_false, true_and, and_true, true_implies, false_implies, implies_true, not_true_eq_false, not_false_eq_true, and_self, List.length_cons, List.length_nil, mNoCut_, mCat_n, mCat_I, mCat_L, mCat_R, mIsL_n, mIsL_I, mIsL_R, mIsL_L, Nat.reduceAdd, Nat.reduceSub, Nat.reduceLeDiff, Nat.reduceLT, Nat.reduceEqDiff, Nat.zero_le, Int.reduceEq, Int.reduceLT, Int.reduceLE, Int.reduceNeg, Int.reduceAdd, if_true, if_false, reduceIte, reduceCtorEq, Bool.false_eq_true, ne_eq, qCmp_0, qCmp_1, qCmp_2, qCmp_3, qCmp_4, qCmp_5, ib_0, ib_1, ib_2, lb_0, lb_1, lb_2, dv_0, dv_1, wl_ic, wl_ld_i, wl_ld_a, wl_st_a, wl_goto, wl_astI, wl_astL, wl_ret1, wl_i2x, ldR4, ldR0, ldI1, ldI2, ldI3, wl_callV4_0, stR5, mPut_s, mPut_I0, mPut_R0, mPut_L0, mPut_I1, mPut_R1, mPut_L1, mGoL_n, sfxL_play_23, kL_play_0, kL_play_23, SL_play_100, sk_0, al_0, sk_230, al_230, sn_230, mSet_ap, ncast]
    exact hk
  · exact hk
theorem ctrL_play {l : Launch} (hst : l.stackTraces = false) (hT : mTxM l) : mCtrH l (hTab 0 12 tabL_play) calL_play spL_play :=
  mMetH (T := TL_play) (S := SL_play) (hs := fun _ => []) hT tabL_play 0 12 7 5 (by decide) okL_play ⟨_, _, rfl, rfl⟩ okHL_play.1 okHL_play.2 (one_ok (mCtr_up (ctrX10_play hst hT))) one_no vcL_play
def spL_write : mSp := fun fl avs I Q => ∃ p0 p1 p2 : Int, avs = [mR (some 0), mI p0, mI p1, mL p2, mR (some 230)] ∧ mUp spX10_write fl [mR (some 0), mI p0, mI p1, mL p2] I (wKl (tabL_write.map (fun q => q.1)) Q)
def SL_write : Nat → mSp := mOne (mUp spX10_write)
theorem SL_write_100 : SL_write 100 = mUp spX10_write := mOne_100 _
set_option maxRecDepth 100000 in
theorem vcL_write (fl : Nat → Bool) (avs : List mV) (I : mM) (Q : mO → mM → Prop) (hsp : spL_write fl avs I Q) : mVCH (tabL_write.map (fun q => q.1)) SL_write fl Q kL_write 7 avs I := by
  obtain ⟨p0, p1, p2, rfl, Q0, h0, hQ⟩ := hsp
  refine ⟨rfl, ?_⟩
  show mWpL _ _ _ _ _ _ kL_write_0 [some (mR (some 0)), some (mI p0), some (mI p1), some (mL p2), none, some (mR (some 230)), none] [] I
  simp only [false_and, and_false, true_or, or_true, false_or, or_false, true_and, and_true, true_implies, false_implies, implies_true, not_true_eq_false, not_false_eq_true, and_self, List.length_cons, List.length_nil, mNoCut_, mCat_n, mCat_I, mCat_L, mCat_R, mIsL_n, mIsL_I, mIsL_R, mIsL_L, Nat.reduceAdd, Nat.reduceSub, Nat.reduceLeDiff, Nat.reduceLT, Nat.reduceEqDiff, Nat.zero_le, Int.reduceEq, Int.reduceLT, Int.reduceLE, Int.reduceNeg, Int.reduceAdd, if_true, if_false, reduceIte, reduceCtorEq, Bool.false_eq_true, ne_eq, qCmp_0, qCmp_1, qCmp_2, qCmp_3, qCmp_4, qCmp_5, ib_0, ib_1, ib_2, lb_0, lb_1, lb_2, dv_0, dv_1, wl_ic, wl_ld_i, wl_ld_l, wl_ld_a, wl_st_a, wl_goto, wl_astI, wl_astL, wl_ret1, ldR5, ldR0, ldI1, ldI2, ldL3, wl_callV4_0, stR6, mPut_s, mPut_I0, mPut_R0, mPut_L0, mPut_I1, mPut_R1, mPut_L1, mGoL_n, sfxL_write_26, kL_write_0, kL_write_26, SL_write_100, sk_0, al_0, sk_230, al_230, sn_230, mSet_ap, ncast]
  refine ⟨Q0, h0, fun o I1 hq => ?_⟩
  have hk := hQ o I1 hq
  rcases o with (_ | v) | E
  · exact hk.elim
  · obtain ⟨x, rfl⟩ : ∃ x : Int, v = mL x := by
      rcases v with v | v | v
      · exact hk.elim
      · exact ⟨v, rfl⟩
      · exact hk.elim
    simp only [false_and, and_false, true_or, or_true, false_or, or_false, true_and, and_true, true_implies, false_implies, implies_true, not_true_eq_false, not_false_eq_true, and_self, List.length_cons, List.length_nil, mNoCut_, mCat_n, mCat_I, mCat_L, mCat_R, mIsL_n, mIsL_I, mIsL_R, mIsL_L, Nat.reduceAdd, Nat.reduceSub, Nat.reduceLeDiff, Nat.reduceLT, Nat.reduceEqDiff, Nat.zero_le, Int.reduceEq, Int.reduceLT, Int.reduceLE, Int.reduceNeg, Int.reduceAdd, if_true, if_false, reduceIte, reduceCtorEq, Bool.false_eq_true, ne_eq, qCmp_0, qCmp_1, qCmp_2, qCmp_3, qCmp_4, qCmp_5, ib_0, ib_1, ib_2, lb_0, lb_1, lb_2, dv_0, dv_1, wl_ic, wl_ld_i, wl_ld_l, wl_ld_a, wl_st_a, wl_goto, wl_astI, wl_astL, wl_ret1, ldR5, ldR0, ldI1, ldI2, ldL3, wl_callV4_0, stR6, mPut_s, mPut_I0, mPut_R0, mPut_L0, mPut_I1, mPut_R1, mPut_L1, mGoL_n, sfxL_write_26, kL_write_0, kL_write_26, SL_write_100, sk_0, al_0, sk_230, al_230, sn_230, mSet_ap, ncast]
    exact hk
  · exact hk
theorem ctrL_write {l : Launch} (hst : l.stackTraces = false) (hT : mTxM l) : mCtrH l (hTab 0 11 tabL_write) calL_write spL_write :=
  mMetH (T := TL_write) (S := SL_write) (hs := fun _ => []) hT tabL_write 0 11 7 6 (by decide) okL_write ⟨_, _, rfl, rfl⟩ okHL_write.1 okHL_write.2 (one_ok (mCtr_up (ctrX10_write hst hT))) one_no vcL_write
def spL_pour : mSp := fun fl avs I Q => ∃ p0 : Int, avs = [mR (some 0), mI p0, mR (some 230)] ∧ mUp spX10_pour fl [mR (some 0), mI p0] I (wKi (tabL_pour.map (fun q => q.1)) Q)
def SL_pour : Nat → mSp := mOne (mUp spX10_pour)
theorem SL_pour_100 : SL_pour 100 = mUp spX10_pour := mOne_100 _
set_option maxRecDepth 100000 in
theorem vcL_pour (fl : Nat → Bool) (avs : List mV) (I : mM) (Q : mO → mM → Prop) (hsp : spL_pour fl avs I Q) : mVCH (tabL_pour.map (fun q => q.1)) SL_pour fl Q kL_pour 4 avs I := by
  obtain ⟨p0, rfl, Q0, h0, hQ⟩ := hsp
  refine ⟨rfl, ?_⟩
  show mWpL _ _ _ _ _ _ kL_pour_0 [some (mR (some 0)), some (mI p0), some (mR (some 230)), none] [] I
  simp only [false_and, and_false, true_or, or_true, false_or, or_false, true_and, and_true, true_implies, false_implies, implies_true, not_true_eq_false, not_false_eq_true, and_self, List.length_cons, List.length_nil, mNoCut_, mCat_n, mCat_I, mCat_L, mCat_R, mIsL_n, mIsL_I, mIsL_R, mIsL_L, Nat.reduceAdd, Nat.reduceSub, Nat.reduceLeDiff, Nat.reduceLT, Nat.reduceEqDiff, Nat.zero_le, Int.reduceEq, Int.reduceLT, Int.reduceLE, Int.reduceNeg, Int.reduceAdd, if_true, if_false, reduceIte, reduceCtorEq, Bool.false_eq_true, ne_eq, qCmp_0, qCmp_1, qCmp_2, qCmp_3, qCmp_4, qCmp_5, ib_0, ib_1, ib_2, lb_0, lb_1, lb_2, dv_0, dv_1, wl_ic, wl_ld_i, wl_ld_a, wl_st_a, wl_goto, wl_astI, wl_astL, wl_ret1, wl_i2x, ldR2, ldR0, ldI1, wl_callV2_0, stR3, mPut_s, mPut_I0, mPut_R0, mPut_L0, mPut_I1, mPut_R1, mPut_L1, mGoL_n, sfxL_pour_21, kL_pour_0, kL_pour_21, SL_pour_100, sk_0, al_0, sk_230, al_230, sn_230, mSet_ap, ncast]
  refine ⟨Q0, h0, fun o I1 hq => ?_⟩
  have hk := hQ o I1 hq
  rcases o with (_ | v) | E
  · exact hk.elim
  · obtain ⟨x, rfl⟩ : ∃ x : Int, v = mI x := by
      rcases v with v | v | v
      · exact ⟨v, rfl⟩
      · exact hk.elim
      · exact hk.elim
    simp only [false_and, and_false, true_or, or_true, false_or, or_false, true_and, and_true, true_implies, false_implies, implies_true, not_true_eq_false, not_false_eq_true, and_self, List.length_cons, List.length_nil, mNoCut_, mCat_n, mCat_I, mCat_L, mCat_R, mIsL_n, mIsL_I, mIsL_R, mIsL_L, Nat.reduceAdd, Nat.reduceSub, Nat.reduceLeDiff, Nat.reduceLT, Nat.reduceEqDiff, Nat.zero_le, Int.reduceEq, Int.reduceLT, Int.reduceLE, Int.reduceNeg, Int.reduceAdd, if_true, if_false, reduceIte, reduceCtorEq, Bool.false_eq_true, ne_eq, qCmp_0, qCmp_1, qCmp_2, qCmp_3, qCmp_4, qCmp_5, ib_0, ib_1, ib_2, lb_0, lb_1, lb_2, dv_0, dv_1, wl_ic, wl_ld_i, wl_ld_a, wl_st_a, wl_goto, wl_astI, wl_astL, wl_ret1, wl_i2x, ldR2, ldR0, ldI1, wl_callV2_0, stR3, mPut_s, mPut_I0, mPut_R0, mPut_L0, mPut_I1, mPut_R1, mPut_L1, mGoL_n, sfxL_pour_21, kL_pour_0, kL_pour_21, SL_pour_100, sk_0, al_0, sk_230, al_230, sn_230, mSet_ap, ncast]
    exact hk
  · exact hk
theorem ctrL_pour {l : Launch} (hst : l.stackTraces = false) (hT : mTxM l) : mCtrH l (hTab 0 9 tabL_pour) calL_pour spL_pour :=
  mMetH (T := TL_pour) (S := SL_pour) (hs := fun _ => []) hT tabL_pour 0 9 4 3 (by decide) okL_pour ⟨_, _, rfl, rfl⟩ okHL_pour.1 okHL_pour.2 (one_ok (mCtr_up (ctrX10_pour hst hT))) one_no vcL_pour
def spL_restore : mSp := fun fl avs I Q => ∃ p0 : Int, avs = [mR (some 0), mI p0] ∧ mUp spX10_restore fl [mR (some 0), mI p0] I (wKv (tabL_restore.map (fun q => q.1)) Q)
def SL_restore : Nat → mSp := mOne (mUp spX10_restore)
theorem SL_restore_100 : SL_restore 100 = mUp spX10_restore := mOne_100 _
set_option maxRecDepth 100000 in
theorem vcL_restore (fl : Nat → Bool) (avs : List mV) (I : mM) (Q : mO → mM → Prop) (hsp : spL_restore fl avs I Q) : mVCH (tabL_restore.map (fun q => q.1)) SL_restore fl Q kL_restore 3 avs I := by
  obtain ⟨p0, rfl, Q0, h0, hQ⟩ := hsp
  refine ⟨rfl, ?_⟩
  show mWpL _ _ _ _ _ _ kL_restore_0 [some (mR (some 0)), some (mI p0), none] [] I
  simp only [false_and, and_false, true_or, or_true, false_or, or_false, true_and, and_true, true_implies, false_implies, implies_true, not_true_eq_false, not_false_eq_true, and_self, List.length_cons, List.length_nil, mNoCut_, mCat_n, mCat_I, mCat_L, mCat_R, mIsL_n, mIsL_I, mIsL_R, mIsL_L, Nat.reduceAdd, Nat.reduceSub, Nat.reduceLeDiff, Nat.reduceLT, Nat.reduceEqDiff, Nat.zero_le, Int.reduceEq, Int.reduceLT, Int.reduceLE, Int.reduceNeg, Int.reduceAdd, if_true, if_false, reduceIte, reduceCtorEq, Bool.false_eq_true, ne_eq, qCmp_0, qCmp_1, qCmp_2, qCmp_3, qCmp_4, qCmp_5, ib_0, ib_1, ib_2, lb_0, lb_1, lb_2, dv_0, dv_1, wl_ic, wl_ld_i, wl_ld_a, wl_st_a, wl_goto, wl_ret1, ldR0, ldI1, wl_callV2_0, stR2, mPut_s, mPut_I0, mPut_R0, mPut_L0, mPut_I1, mPut_R1, mPut_L1, mGoL_n, sfxL_restore_14, kL_restore_0, kL_restore_14, SL_restore_100, sk_0, al_0, sk_230, al_230, sn_230, mSet_ap, ncast]
  refine ⟨Q0, h0, fun o I1 hq => ?_⟩
  have hk := hQ o I1 hq
  rcases o with (_ | v) | E
  · simp only [false_and, and_false, true_or, or_true, false_or, or_false, true_and, and_true, true_implies, false_implies, implies_true, not_true_eq_false, not_false_eq_true, and_self, List.length_cons, List.length_nil, mNoCut_, mCat_n, mCat_I, mCat_L, mCat_R, mIsL_n, mIsL_I, mIsL_R, mIsL_L, Nat.reduceAdd, Nat.reduceSub, Nat.reduceLeDiff, Nat.reduceLT, Nat.reduceEqDiff, Nat.zero_le, Int.reduceEq, Int.reduceLT, Int.reduceLE, Int.reduceNeg, Int.reduceAdd, if_true, if_false, reduceIte, reduceCtorEq, Bool.false_eq_true, ne_eq, qCmp_0, qCmp_1, qCmp_2, qCmp_3, qCmp_4, qCmp_5, ib_0, ib_1, ib_2, lb_0, lb_1, lb_2, dv_0, dv_1, wl_ic, wl_ld_i, wl_ld_a, wl_st_a, wl_goto, wl_ret1, ldR0, ldI1, wl_callV2_0, stR2, mPut_s, mPut_I0, mPut_R0, mPut_L0, mPut_I1, mPut_R1, mPut_L1, mGoL_n, sfxL_restore_14, kL_restore_0, kL_restore_14, SL_restore_100, sk_0, al_0, sk_230, al_230, sn_230, mSet_ap, ncast]
    exact hk
  · exact hk.elim
  · exact hk
theorem ctrL_restore {l : Launch} (hst : l.stackTraces = false) (hT : mTxM l) : mCtrH l (hTab 0 5 tabL_restore) calL_restore spL_restore :=
  mMetH (T := TL_restore) (S := SL_restore) (hs := fun _ => []) hT tabL_restore 0 5 2 2 (by decide) okL_restore ⟨_, _, rfl, rfl⟩ okHL_restore.1 okHL_restore.2 (one_ok (mCtr_up (ctrX10_restore hst hT))) one_no vcL_restore
end LWS
