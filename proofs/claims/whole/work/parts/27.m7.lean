section SPM7
/-- how many stand left of the middle, the one looked at counted first, once it does -/
def leftN (st : Int → Int) (c : Int) : Nat → Int
  | 0 => if c % 17 < 8 then 1 else 0
  | n + 1 => if st n = -1 then leftN st c n else leftN st c n + if 0 < leftN st c n ∧ st n % 17 < 8 then 1 else 0
def dupN (st : Int → Int) (c : Int) : Nat → Bool
  | 0 => false
  | n + 1 => dupN st c n || decide (st n = c)
def judgedT (t : Int → Int) (f : Int) : Int :=
  if ¬ insT t (stT t f % 17) (stT t f / 17) then 1
  else if far (stT t f) 144 < t 5 then 2
  else if dupN (stT t) (stT t f) f.toNat = true then 3
  else if t 4 < leftN (stT t) (stT t f) f.toNat then 4 else 0
def judgeGo (t : Int → Int) : Nat → Int → Int
  | 0, _ => -1
  | m + 1, f => if stT t f ≠ -1 ∧ 0 < judgedT t f then 10 * f + judgedT t f else judgeGo t m (f + 1)
def judgeT (t : Int → Int) : Int := judgeGo t 9 0
def lawT (t : Int → Int) : Prop := judgeT t = -1
theorem leftN_bd (st : Int → Int) (c : Int) : ∀ n : Nat, 0 ≤ leftN st c n ∧ leftN st c n ≤ n + 1
  | 0 => by unfold leftN; split <;> omega
  | n + 1 => by
    have h := leftN_bd st c n
    unfold leftN
    split
    · omega
    · split <;> omega
theorem judgedT_bd (t : Int → Int) (f : Int) : 0 ≤ judgedT t f ∧ judgedT t f ≤ 4 := by
  unfold judgedT
  repeat' split
  all_goals omega
theorem judgeGo_bd (t : Int → Int) : ∀ (m : Nat) (f : Int), 0 ≤ f → -1 ≤ judgeGo t m f ∧ judgeGo t m f ≤ 10 * (f + m) + 4
  | 0, f, _ => by unfold judgeGo; omega
  | m + 1, f, hf => by
    have h := judgeGo_bd t m (f + 1) (by omega)
    have h2 := judgedT_bd t f
    unfold judgeGo
    split <;> omega
theorem judgeT_bd (t : Int → Int) : -1 ≤ judgeT t ∧ judgeT t ≤ 94 := by
  have h := judgeGo_bd t 9 0 (by omega)
  unfold judgeT
  omega
theorem dupN_step (st : Int → Int) (c : Int) (n : Nat) : ∀ m : Nat, n < m → st n = c → dupN st c m = true
  | 0, h, _ => absurd h (by omega)
  | m + 1, h, e => by
    unfold dupN
    rcases Nat.lt_or_ge n m with q | q
    · rw [dupN_step st c n m q e]
      rfl
    · have : n = m := by omega
      subst this
      rw [decide_eq_true e, Bool.or_true]
def spX11_judged : mSp := shRI (fun _ i f I Q => i = some 200 ∧ WFt (I 201) ∧ (0 ≤ f ∧ f < 9) ∧ stT (I 201) f ≠ -1 ∧ Q (.inl (some (mI (judgedT (I 201) f)))) I)
def SX11_judged : Nat → mSp := fun a => match a with
  | 0 => spX11_standOf
  | 1 => spX11_isIn
  | 2 => spX11_fromBat
  | _ => fun _ _ _ _ => False
theorem SX11_judged_0 : SX11_judged 0 = spX11_standOf := Eq.trans rfl rfl
theorem SX11_judged_1 : SX11_judged 1 = spX11_isIn := Eq.trans rfl rfl
theorem SX11_judged_2 : SX11_judged 2 = spX11_fromBat := Eq.trans rfl rfl
theorem cutsX11_judged {t : Nat} {bs : List Bool} (h : cutX11_judged t = some bs) : (t = 49 ∧ bs = [true, true, true, true, true]) := by
  unfold cutX11_judged at h
  simp only [mLk] at h
  by_cases h0 : 49 = t
  · subst h0
    simp at h
    exact ⟨rfl, h.symm⟩
  rw [if_neg h0] at h
  cases h
set_option maxRecDepth 100000 in
set_option maxHeartbeats 4000000 in
theorem vcX11_judged (fl : Nat → Bool) (avs : List mV) (I : mM) (Q : mO → mM → Prop) (hsp : spX11_judged fl avs I Q) : mVC SX11_judged fl Q kX11_judged cutX11_judged 5 avs I := by
  obtain ⟨i, f, rfl, h0⟩ := shRI_inv hsp
  obtain ⟨rfl, H, hf, hst, h⟩ := h0
  have fl1 := H.fld hf
  have h1 := H.1
  refine ⟨rfl, (fun n t lv st I1 => I1 = I ∧ st = [] ∧ ∃ (left : Int) (j : Nat), lv = [some (mR (some 200)), some (mI f), some (mI (stT (I 201) f)), some (mI left), some (mI j)] ∧ left = leftN (stT (I 201)) (stT (I 201) f) j ∧ dupN (stT (I 201)) (stT (I 201) f) j = false ∧ insT (I 201) (stT (I 201) f % 17) (stT (I 201) f / 17) ∧ ¬ far (stT (I 201) f) 144 < I 201 5 ∧ j ≤ f.toNat ∧ n = 9 - j), ?_, ?_⟩
  · intro n t bs hbs lv st I1 hc
    rcases cutsX11_judged hbs with ⟨rfl, rfl⟩
    rw [sfxX11_judged_49]
    obtain ⟨rfl, rfl, left, j, rfl, el, hd, hin, hnr, hj, hn⟩ := hc
    simp only [true_or, or_true, false_or, or_false, true_and, and_true, true_implies, false_implies, implies_true, not_true_eq_false, not_false_eq_true, and_self, List.length_cons, List.length_nil, mNoCut_, mCat_n, mCat_I, mCat_L, mCat_R, mIsL_n, mIsL_I, mIsL_R, mIsL_L, Nat.reduceAdd, Nat.reduceSub, Nat.reduceLeDiff, Nat.reduceLT, Nat.reduceEqDiff, Nat.zero_le, Int.reduceEq, Int.reduceLT, Int.reduceLE, Int.reduceNeg, Int.reduceAdd, if_true, if_false, reduceIte, reduceCtorEq, Bool.false_eq_true, ne_eq, qCmp_0, qCmp_1, qCmp_2, qCmp_3, qCmp_4, qCmp_5, ib_0, ib_1, ib_2, lb_0, lb_1, lb_2, dv_0, dv_1, wq_ic, wq_ld_i, wq_ld_a, wq_st_i, wq_iinc, wq_ib, wq_idv, wq_icmp, wq_if, wq_goto, wq_get, mGet_0, mGet_1, mGet_2, mGet_3, wq_ald, wq_ret0, wq_ret1, wq_ret2, wq_ret3, wq_ret4, ldR0, ldI1, wq_callV2_0, stI2, ldI2, mrg_1_, wq_callS1_1, fk_11_0, mrg_5_, mrg_2_, mrg_17_, mrg_8_, mrg_0_, stI3, stI4, ldI4, mrg_m1_, mrg_3_, ldI3, wqinc4, mrg_4_, mPut_s, mPut_I0, mPut_R0, mPut_L0, mPut_I1, mPut_R1, mPut_L1, mGo_n, sfxX11_judged_16, cutX11_judged_16, sfxX11_judged_31, cutX11_judged_31, sfxX11_judged_44, cutX11_judged_44, sfxX11_judged_45, cutX11_judged_45, sfxX11_judged_49, cutX11_judged_49, sfxX11_judged_68, cutX11_judged_68, sfxX11_judged_80, cutX11_judged_80, sfxX11_judged_103, cutX11_judged_103, sfxX11_judged_104, cutX11_judged_104, sfxX11_judged_106, cutX11_judged_106, sfxX11_judged_112, cutX11_judged_112, sfxX11_judged_126, cutX11_judged_126, sfxX11_judged_127, cutX11_judged_127, wq_cut, mGo_c, mMask_t, mMask_f, mMask_n, kX11_judged_127, kX11_judged_126, kX11_judged_112, kX11_judged_106, kX11_judged_104, kX11_judged_103, kX11_judged_80, kX11_judged_68, kX11_judged_49, kX11_judged_45, kX11_judged_44, kX11_judged_31, kX11_judged_16, kX11_judged_0, sk_200, al_200, rf_200_0, sk_201, al_201, sn_201, ald_n, ro0_n, al_ro, SX11_judged_0, SX11_judged_1, SX11_judged_2, shqRI_, shqI_, spX11_standOf, spX11_isIn, spX11_fromBat, mrg, mrl, mSet_ap, ncast, Option.some.injEq]
    have lb := leftN_bd (stT (I1 201)) (stT (I1 201) f) j
    have sN : leftN (stT (I1 201)) (stT (I1 201) f) (j + 1) = if stT (I1 201) j = -1 then leftN (stT (I1 201)) (stT (I1 201) f) j else leftN (stT (I1 201)) (stT (I1 201) f) j + if 0 < leftN (stT (I1 201)) (stT (I1 201) f) j ∧ stT (I1 201) j % 17 < 8 then 1 else 0 := rfl
    rw [← el] at lb sN
    have go : ∀ l', ¬ f ≤ j → ¬ stT (I1 201) j = stT (I1 201) f → l' = leftN (stT (I1 201)) (stT (I1 201) f) (j + 1) → ∃ n', n' < n ∧ ∃ (left_1 : Int) (j_1 : Nat), [some (mR (some 200)), some (mI f), some (mI (stT (I1 201) f)), some (mI l'), some (mI ((j : Int) + 1))] = [some (mR (some 200)), some (mI f), some (mI (stT (I1 201) f)), some (mI left_1), some (mI j_1)] ∧ left_1 = leftN (stT (I1 201)) (stT (I1 201) f) j_1 ∧ dupN (stT (I1 201)) (stT (I1 201) f) j_1 = false ∧ insT (I1 201) (stT (I1 201) f % 17) (stT (I1 201) f / 17) ∧ ¬far (stT (I1 201) f) 144 < I1 201 5 ∧ j_1 ≤ f.toNat ∧ n' = 9 - j_1 := fun l' hz hne e => ⟨9 - (j + 1), by omega, l', j + 1, rfl, e, by unfold dupN; rw [hd, decide_eq_false hne]; rfl, hin, hnr, by omega, rfl⟩
    refine ⟨⟨⟨by omega, by omega⟩, by omega, by omega⟩, fun z => ?_, fun z => ?_⟩
    · have e : j = f.toNat := by omega
      subst e
      refine ⟨⟨⟨by omega, by omega⟩, by omega, by omega⟩, fun y => ?_, fun y => ?_⟩
      · refine q_I ?_ h
        unfold judgedT
        rw [if_neg (fun w => w hin), if_neg hnr, if_neg (by rw [hd]; exact Bool.false_ne_true), ← el, if_neg (by omega)]
      · refine q_I ?_ h
        unfold judgedT
        rw [if_neg (fun w => w hin), if_neg hnr, if_neg (by rw [hd]; exact Bool.false_ne_true), ← el, if_pos (by omega)]
    · have fj := H.fld (f := j) ⟨by omega, by omega⟩
      have hm : stT (I1 201) j ≠ -1 → (stT (I1 201) j).tmod 17 = stT (I1 201) j % 17 := fun w => Int.tmod_eq_emod_of_nonneg (by omega)
      refine ⟨⟨by omega, by omega⟩, ⟨by omega, by omega⟩, fun y => ?_, fun y => ?_⟩
      · have hm := hm y
        refine ⟨⟨by omega, by omega⟩, ⟨⟨by omega, by omega⟩, by omega, by omega⟩, fun x => ?_, fun x => ?_⟩
        · rw [if_neg y] at sN
          refine ⟨⟨by omega, by omega⟩, fun w => go _ z x ?_, fun w => ⟨⟨by omega, by omega⟩, ⟨by omega, by omega⟩, ⟨by omega, by omega⟩, fun v => go _ z x ?_, fun v => go _ z x ?_⟩⟩
          · rw [sN, if_neg (by omega)]
          · rw [sN, if_neg (by omega)]
          · rw [sN, if_pos (by omega)]
        · refine q_I ?_ h
          unfold judgedT
          rw [if_neg (fun w => w hin), if_neg hnr, if_pos (dupN_step _ _ j f.toNat (by omega) (by omega))]
      · rw [if_pos (by omega)] at sN
        exact go _ z (by omega) sN.symm
  · show mWp _ _ _ _ _ _ kX11_judged_0 [some (mR (some 200)), some (mI f), none, none, none] [] I
    simp only [true_or, or_true, false_or, or_false, true_and, and_true, true_implies, false_implies, implies_true, not_true_eq_false, not_false_eq_true, and_self, List.length_cons, List.length_nil, mNoCut_, mCat_n, mCat_I, mCat_L, mCat_R, mIsL_n, mIsL_I, mIsL_R, mIsL_L, Nat.reduceAdd, Nat.reduceSub, Nat.reduceLeDiff, Nat.reduceLT, Nat.reduceEqDiff, Nat.zero_le, Int.reduceEq, Int.reduceLT, Int.reduceLE, Int.reduceNeg, Int.reduceAdd, if_true, if_false, reduceIte, reduceCtorEq, Bool.false_eq_true, ne_eq, qCmp_0, qCmp_1, qCmp_2, qCmp_3, qCmp_4, qCmp_5, ib_0, ib_1, ib_2, lb_0, lb_1, lb_2, dv_0, dv_1, wq_ic, wq_ld_i, wq_ld_a, wq_st_i, wq_iinc, wq_ib, wq_idv, wq_icmp, wq_if, wq_goto, wq_get, mGet_0, mGet_1, mGet_2, mGet_3, wq_ald, wq_ret0, wq_ret1, wq_ret2, wq_ret3, wq_ret4, ldR0, ldI1, wq_callV2_0, stI2, ldI2, mrg_1_, wq_callS1_1, fk_11_0, mrg_5_, mrg_2_, mrg_17_, mrg_8_, mrg_0_, stI3, stI4, ldI4, mrg_m1_, mrg_3_, ldI3, wqinc4, mrg_4_, mPut_s, mPut_I0, mPut_R0, mPut_L0, mPut_I1, mPut_R1, mPut_L1, mGo_n, sfxX11_judged_16, cutX11_judged_16, sfxX11_judged_31, cutX11_judged_31, sfxX11_judged_44, cutX11_judged_44, sfxX11_judged_45, cutX11_judged_45, sfxX11_judged_49, cutX11_judged_49, sfxX11_judged_68, cutX11_judged_68, sfxX11_judged_80, cutX11_judged_80, sfxX11_judged_103, cutX11_judged_103, sfxX11_judged_104, cutX11_judged_104, sfxX11_judged_106, cutX11_judged_106, sfxX11_judged_112, cutX11_judged_112, sfxX11_judged_126, cutX11_judged_126, sfxX11_judged_127, cutX11_judged_127, wq_cut, mGo_c, mMask_t, mMask_f, mMask_n, kX11_judged_127, kX11_judged_126, kX11_judged_112, kX11_judged_106, kX11_judged_104, kX11_judged_103, kX11_judged_80, kX11_judged_68, kX11_judged_49, kX11_judged_45, kX11_judged_44, kX11_judged_31, kX11_judged_16, kX11_judged_0, sk_200, al_200, rf_200_0, sk_201, al_201, sn_201, ald_n, ro0_n, al_ro, SX11_judged_0, SX11_judged_1, SX11_judged_2, shqRI_, shqI_, spX11_standOf, spX11_isIn, spX11_fromBat, mrg, mrl, mSet_ap, ncast, Option.some.injEq]
    have hm : (stT (I 201) f).tmod 17 = stT (I 201) f % 17 := Int.tmod_eq_emod_of_nonneg (by omega)
    have fb := far_bd (a := stT (I 201) f) (b := 144) ⟨by omega, by omega⟩ ⟨by omega, by omega⟩
    refine ⟨hf, ⟨by omega, by omega⟩, ⟨by omega, by omega⟩, fun z => ⟨⟨by omega, by omega⟩, ⟨⟨by omega, by omega⟩, by omega, by omega⟩, fun y => ⟨⟨by omega, by omega⟩, ⟨by omega, by omega⟩, fun x => ?_, fun x => ?_⟩, fun y => ?_⟩, fun z => ?_⟩
    · exact ⟨9, 0, 0, rfl, by unfold leftN; rw [if_neg (by omega)], rfl, z, by omega, by omega, rfl⟩
    · exact ⟨9, 1, 0, rfl, by unfold leftN; rw [if_pos (by omega)], rfl, z, by omega, by omega, rfl⟩
    · refine q_I ?_ h
      unfold judgedT
      rw [if_neg (fun w => w z), if_pos (by omega)]
    · refine q_I ?_ h
      unfold judgedT
      rw [if_pos z]
theorem ctrX11_judged {l : Launch} (hst : l.stackTraces = false) (hT : mTxM l) : mCtr l calX11_judged spX11_judged :=
  mMet (T := TX11_judged) (S := SX11_judged) hst hT cutX11_judged (by decide) okX11_judged ⟨_, _, rfl, rfl⟩ trivial (fun t bs h => by rcases cutsX11_judged h with ⟨-, rfl⟩ <;> rfl) (fun a => match a with
    | 0 => ctrX11_standOf hst hT
    | 1 => ctrX11_isIn hst hT
    | 2 => ctrX11_fromBat hst hT
    | _ + 3 => mCtr_no) vcX11_judged

def spX11_judgement : mSp := shR (fun _ i I Q => i = some 200 ∧ WFt (I 201) ∧ Q (.inl (some (mI (judgeT (I 201))))) I)
def SX11_judgement : Nat → mSp := fun a => match a with
  | 0 => spX11_standOf
  | 1 => spX11_judged
  | _ => fun _ _ _ _ => False
theorem SX11_judgement_0 : SX11_judgement 0 = spX11_standOf := Eq.trans rfl rfl
theorem SX11_judgement_1 : SX11_judgement 1 = spX11_judged := Eq.trans rfl rfl
theorem cutsX11_judgement {t : Nat} {bs : List Bool} (h : cutX11_judgement t = some bs) : (t = 2 ∧ bs = [true, true]) := by
  unfold cutX11_judgement at h
  simp only [mLk] at h
  by_cases h0 : 2 = t
  · subst h0
    simp at h
    exact ⟨rfl, h.symm⟩
  rw [if_neg h0] at h
  cases h
set_option maxRecDepth 100000 in
set_option maxHeartbeats 4000000 in
theorem vcX11_judgement (fl : Nat → Bool) (avs : List mV) (I : mM) (Q : mO → mM → Prop) (hsp : spX11_judgement fl avs I Q) : mVC SX11_judgement fl Q kX11_judgement cutX11_judgement 2 avs I := by
  obtain ⟨i, rfl, h0⟩ := shR_inv hsp
  obtain ⟨rfl, H, h⟩ := h0
  refine ⟨rfl, (fun n t lv st I1 => I1 = I ∧ st = [] ∧ ∃ (j : Nat), lv = [some (mR (some 200)), some (mI j)] ∧ judgeT (I 201) = judgeGo (I 201) (9 - j) j ∧ j ≤ 9 ∧ n = 9 - j), ?_, ?_⟩
  · intro n t bs hbs lv st I1 hc
    rcases cutsX11_judgement hbs with ⟨rfl, rfl⟩
    rw [sfxX11_judgement_2]
    obtain ⟨rfl, rfl, j, rfl, el, hj, hn⟩ := hc
    simp only [true_or, or_true, false_or, or_false, true_and, and_true, true_implies, false_implies, implies_true, not_true_eq_false, not_false_eq_true, and_self, List.length_cons, List.length_nil, mNoCut_, mCat_n, mCat_I, mCat_L, mCat_R, mIsL_n, mIsL_I, mIsL_R, mIsL_L, Nat.reduceAdd, Nat.reduceSub, Nat.reduceLeDiff, Nat.reduceLT, Nat.reduceEqDiff, Nat.zero_le, Int.reduceEq, Int.reduceLT, Int.reduceLE, Int.reduceNeg, Int.reduceAdd, if_true, if_false, reduceIte, reduceCtorEq, Bool.false_eq_true, ne_eq, qCmp_0, qCmp_1, qCmp_2, qCmp_3, qCmp_4, qCmp_5, ib_0, ib_1, ib_2, lb_0, lb_1, lb_2, dv_0, dv_1, wq_ic, wq_ld_i, wq_ld_a, wq_st_i, wq_iinc, wq_ib, wq_icmp, wq_if, wq_goto, wq_ret0, wq_ret1, wq_ret2, wq_ret3, wq_ret4, mrg_0_, stI1, ldI1, mrg_9_, ldR0, wq_callV2_0, mrg_m1_, mrg_10_, wqinc1, mPut_s, mPut_I0, mPut_R0, mPut_L0, mPut_I1, mPut_R1, mPut_L1, mGo_n, sfxX11_judgement_2, cutX11_judgement_2, sfxX11_judgement_36, cutX11_judgement_36, sfxX11_judgement_42, cutX11_judgement_42, wq_cut, mGo_c, mMask_t, mMask_f, mMask_n, kX11_judgement_42, kX11_judgement_36, kX11_judgement_2, kX11_judgement_0, sk_200, al_200, SX11_judgement_0, SX11_judgement_1, shqRI_, spX11_standOf, spX11_judged, mrg, mrl, mSet_ap, ncast, Option.some.injEq]
    have jb := judgedT_bd (I1 201) j
    have st : ¬ 9 ≤ (j : Int) → judgeGo (I1 201) (9 - j) j = if stT (I1 201) j ≠ -1 ∧ 0 < judgedT (I1 201) j then 10 * (j : Int) + judgedT (I1 201) j else judgeGo (I1 201) (9 - (j + 1)) ((j + 1 : Nat) : Int) := fun z => by
      rw [show 9 - j = (9 - (j + 1)) + 1 by omega]
      rfl
    refine ⟨⟨by omega, by omega⟩, fun z => ?_, fun z => ?_⟩
    · have : j = 9 := by omega
      subst this
      exact q_I el h
    · have st := st z
      have fj := H.fld (f := j) ⟨by omega, by omega⟩
      have go : ¬ (stT (I1 201) j ≠ -1 ∧ 0 < judgedT (I1 201) j) → ∃ n', n' < n ∧ ∃ (j_1 : Nat), [some (mR (some 200)), some (mI ((j : Int) + 1))] = [some (mR (some 200)), some (mI j_1)] ∧ judgeT (I1 201) = judgeGo (I1 201) (9 - j_1) j_1 ∧ j_1 ≤ 9 ∧ n' = 9 - j_1 := fun w => ⟨9 - (j + 1), by omega, j + 1, rfl, by rw [el, st, if_neg w], by omega, rfl⟩
      refine ⟨⟨by omega, by omega⟩, ⟨by omega, by omega⟩, fun y => go (by omega), fun y => ⟨H, ⟨by omega, by omega⟩, y, ⟨by omega, by omega⟩, fun x => go (by omega), fun x => ⟨H, ⟨by omega, by omega⟩, y, ?_⟩⟩⟩
      rw [if_pos ⟨y, by omega⟩] at st
      exact q_I (by rw [el, st]) h
  · show mWp _ _ _ _ _ _ kX11_judgement_0 [some (mR (some 200)), none] [] I
    simp only [true_or, or_true, false_or, or_false, true_and, and_true, true_implies, false_implies, implies_true, not_true_eq_false, not_false_eq_true, and_self, List.length_cons, List.length_nil, mNoCut_, mCat_n, mCat_I, mCat_L, mCat_R, mIsL_n, mIsL_I, mIsL_R, mIsL_L, Nat.reduceAdd, Nat.reduceSub, Nat.reduceLeDiff, Nat.reduceLT, Nat.reduceEqDiff, Nat.zero_le, Int.reduceEq, Int.reduceLT, Int.reduceLE, Int.reduceNeg, Int.reduceAdd, if_true, if_false, reduceIte, reduceCtorEq, Bool.false_eq_true, ne_eq, qCmp_0, qCmp_1, qCmp_2, qCmp_3, qCmp_4, qCmp_5, ib_0, ib_1, ib_2, lb_0, lb_1, lb_2, dv_0, dv_1, wq_ic, wq_ld_i, wq_ld_a, wq_st_i, wq_iinc, wq_ib, wq_icmp, wq_if, wq_goto, wq_ret0, wq_ret1, wq_ret2, wq_ret3, wq_ret4, mrg_0_, stI1, ldI1, mrg_9_, ldR0, wq_callV2_0, mrg_m1_, mrg_10_, wqinc1, mPut_s, mPut_I0, mPut_R0, mPut_L0, mPut_I1, mPut_R1, mPut_L1, mGo_n, sfxX11_judgement_2, cutX11_judgement_2, sfxX11_judgement_36, cutX11_judgement_36, sfxX11_judgement_42, cutX11_judgement_42, wq_cut, mGo_c, mMask_t, mMask_f, mMask_n, kX11_judgement_42, kX11_judgement_36, kX11_judgement_2, kX11_judgement_0, sk_200, al_200, SX11_judgement_0, SX11_judgement_1, shqRI_, spX11_standOf, spX11_judged, mrg, mrl, mSet_ap, ncast, Option.some.injEq]
    exact ⟨9, 0, rfl, rfl, by omega, rfl⟩
theorem ctrX11_judgement {l : Launch} (hst : l.stackTraces = false) (hT : mTxM l) : mCtr l calX11_judgement spX11_judgement :=
  mMet (T := TX11_judgement) (S := SX11_judgement) hst hT cutX11_judgement (by decide) okX11_judgement ⟨_, _, rfl, rfl⟩ trivial (fun t bs h => by rcases cutsX11_judgement h with ⟨-, rfl⟩ <;> rfl) (fun a => match a with
    | 0 => ctrX11_standOf hst hT
    | 1 => ctrX11_judged hst hT
    | _ + 2 => mCtr_no) vcX11_judgement

def spX11_isLawful : mSp := shR (fun _ i I Q => i = some 200 ∧ WFt (I 201) ∧ (lawT (I 201) → Q (.inl (some (mI 1))) I) ∧ (¬ lawT (I 201) → Q (.inl (some (mI 0))) I))
def SX11_isLawful : Nat → mSp := fun a => match a with
  | 0 => spX11_judgement
  | _ => fun _ _ _ _ => False
theorem SX11_isLawful_0 : SX11_isLawful 0 = spX11_judgement := Eq.trans rfl rfl
set_option maxRecDepth 100000 in
set_option maxHeartbeats 4000000 in
theorem vcX11_isLawful (fl : Nat → Bool) (avs : List mV) (I : mM) (Q : mO → mM → Prop) (hsp : spX11_isLawful fl avs I Q) : mVC0 SX11_isLawful fl Q kX11_isLawful 1 avs I := by
  obtain ⟨i, rfl, h0⟩ := shR_inv hsp
  refine ⟨rfl, ?_⟩
  show mWp _ _ _ _ _ _ kX11_isLawful_0 [some (mR i)] [] I
  obtain ⟨rfl, H, h, h2⟩ := h0
  simp only [true_or, or_true, false_or, or_false, true_and, and_true, true_implies, false_implies, implies_true, not_true_eq_false, not_false_eq_true, and_self, List.length_cons, List.length_nil, mNoCut_, mCat_n, mCat_I, mCat_L, mCat_R, mIsL_n, mIsL_I, mIsL_R, mIsL_L, Nat.reduceAdd, Nat.reduceSub, Nat.reduceLeDiff, Nat.reduceLT, Nat.reduceEqDiff, Nat.zero_le, Int.reduceEq, Int.reduceLT, Int.reduceLE, Int.reduceNeg, Int.reduceAdd, if_true, if_false, reduceIte, reduceCtorEq, Bool.false_eq_true, ne_eq, qCmp_0, qCmp_1, qCmp_2, qCmp_3, qCmp_4, qCmp_5, ib_0, ib_1, ib_2, lb_0, lb_1, lb_2, dv_0, dv_1, wq_ic, wq_ld_a, wq_icmp, wq_goto, wq_ret0, wq_ret1, wq_ret2, wq_ret3, wq_ret4, ldR0, wq_callV1_0, mrg_m1_, mrg_1_, mrg_0_, mGo_n, sfxX11_isLawful_12, cutX11_isLawful_12, sfxX11_isLawful_13, cutX11_isLawful_13, kX11_isLawful_13, kX11_isLawful_12, kX11_isLawful_0, sk_200, al_200, SX11_isLawful_0, shqR_, spX11_judgement, mrg, mrl, mSet_ap, ncast, Option.some.injEq]
  have jb := judgeT_bd (I 201)
  refine ⟨H, ⟨by omega, by omega⟩, fun z => h2 z, fun z => h (Classical.not_not.mp z)⟩
theorem ctrX11_isLawful {l : Launch} (hst : l.stackTraces = false) (hT : mTxM l) : mCtr l calX11_isLawful spX11_isLawful :=
  mMet0 (T := TX11_isLawful) (S := SX11_isLawful) hst hT (by decide) okX11_isLawful ⟨_, _, rfl, rfl⟩ (fun a => match a with
    | 0 => ctrX11_judgement hst hT
    | _ + 1 => mCtr_no) vcX11_isLawful

end SPM7
