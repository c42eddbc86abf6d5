section SPM9
/-- the memory once the first n STANDS of the reference's row are the given ones -/
def standsM (I : mM) (g : Int → Int) (n : Int) : mM := fun (k : Nat) (q : Int) => if k = 201 ∧ (550 ≤ q ∧ q < 550 + 5 * n ∧ q % 5 = 0) then g ((q - 550) / 5) else I k q
theorem standsM_0 (I : mM) (g : Int → Int) : standsM I g 0 = I := by
  funext k q
  simp only [standsM]
  split
  · omega
  · rfl
theorem standsM_s (I : mM) (g : Int → Int) {n : Int} (hn : 0 ≤ n) : mSet (standsM I g n) 201 (550 + 5 * n) (g n) = standsM I g (n + 1) := by
  funext k q
  simp only [mSet, standsM]
  by_cases h1 : k = 201 ∧ q = 550 + 5 * n
  · rw [if_pos h1, if_pos ⟨h1.1, by omega, by omega, by omega⟩]
    congr 1
    omega
  · rw [if_neg h1]
    by_cases h2 : k = 201 ∧ (550 ≤ q ∧ q < 550 + 5 * n ∧ q % 5 = 0)
    · rw [if_pos h2, if_pos ⟨h2.1, by omega, by omega, by omega⟩]
    · rw [if_neg h2, if_neg (fun z => h2 ⟨z.1, by omega, by omega, by omega⟩)]
theorem standsM_out (I : mM) (g : Int → Int) (n : Int) {k : Nat} {q : Int} (h : k ≠ 201 ∨ q < 550 ∨ 550 + 5 * n ≤ q) : standsM I g n k q = I k q := by
  simp only [standsM]
  exact if_neg (fun z => by omega)
def spX11_takesWay : mSp := shRI (fun _ i w I Q => i = some 200 ∧ (0 ≤ w ∧ w < 4) ∧ Q (.inl none) (standsM I (fun f => I 201 (595 + 10 * w + 1 + f)) 9))
def SX11_takesWay : Nat → mSp := fun a => match a with
  | 0 => spX11_puts
  | _ => fun _ _ _ _ => False
theorem SX11_takesWay_0 : SX11_takesWay 0 = spX11_puts := Eq.trans rfl rfl
theorem cutsX11_takesWay {t : Nat} {bs : List Bool} (h : cutX11_takesWay t = some bs) : (t = 2 ∧ bs = [true, true, true]) := by
  unfold cutX11_takesWay at h
  simp only [mLk] at h
  by_cases h0 : 2 = t
  · subst h0
    simp at h
    exact ⟨rfl, h.symm⟩
  rw [if_neg h0] at h
  cases h
set_option maxRecDepth 100000 in
set_option maxHeartbeats 4000000 in
theorem vcX11_takesWay (fl : Nat → Bool) (avs : List mV) (I : mM) (Q : mO → mM → Prop) (hsp : spX11_takesWay fl avs I Q) : mVC SX11_takesWay fl Q kX11_takesWay cutX11_takesWay 3 avs I := by
  obtain ⟨i, w, rfl, h0⟩ := shRI_inv hsp
  obtain ⟨rfl, hw, h⟩ := h0
  refine ⟨rfl, (fun n t lv st I1 => st = [] ∧ ∃ (j : Nat), lv = [some (mR (some 200)), some (mI w), some (mI j)] ∧ I1 = standsM I (fun f => I 201 (595 + 10 * w + 1 + f)) j ∧ j ≤ 9 ∧ n = 9 - j), ?_, ?_⟩
  · intro n t bs hbs lv st I1 hc
    rcases cutsX11_takesWay hbs with ⟨rfl, rfl⟩
    rw [sfxX11_takesWay_2]
    obtain ⟨rfl, j, rfl, eI, hj, hn⟩ := hc
    simp only [true_or, or_true, false_or, or_false, true_and, and_true, true_implies, false_implies, implies_true, not_true_eq_false, not_false_eq_true, and_self, List.length_cons, List.length_nil, mNoCut_, mCat_n, mCat_I, mCat_L, mCat_R, mIsL_n, mIsL_I, mIsL_R, mIsL_L, Nat.reduceAdd, Nat.reduceSub, Nat.reduceLeDiff, Nat.reduceLT, Nat.reduceEqDiff, Nat.zero_le, Int.reduceEq, Int.reduceLT, Int.reduceLE, Int.reduceNeg, Int.reduceAdd, if_true, if_false, reduceIte, reduceCtorEq, Bool.false_eq_true, ne_eq, qCmp_0, qCmp_1, qCmp_2, qCmp_3, qCmp_4, qCmp_5, ib_0, ib_1, ib_2, lb_0, lb_1, lb_2, dv_0, dv_1, wq_ic, wq_ld_i, wq_ld_a, wq_st_i, wq_iinc, wq_ib, wq_icmp, wq_goto, wq_get, mGet_0, mGet_1, mGet_2, mGet_3, wq_ald, wq_ret0, wq_ret1, wq_ret2, wq_ret3, wq_ret4, mrg_0_, stI2, ldI2, mrg_9_, ldR0, fk_11_0, mrg_595_, mrg_10_, ldI1, mrg_1_, wq_callV3_0, wqinc2, mPut_s, mPut_I0, mPut_R0, mPut_L0, mPut_I1, mPut_R1, mPut_L1, mGo_n, sfxX11_takesWay_2, cutX11_takesWay_2, sfxX11_takesWay_36, cutX11_takesWay_36, wq_cut, mGo_c, mMask_t, mMask_f, mMask_n, kX11_takesWay_36, kX11_takesWay_2, kX11_takesWay_0, sk_200, al_200, rf_200_0, sk_201, al_201, sn_201, ald_n, ro0_n, al_ro, SX11_takesWay_0, shqRII_, spX11_puts, mrg, mrl, mSet_ap, ncast, Option.some.injEq]
    refine ⟨⟨by omega, by omega⟩, fun z => ?_, fun z => ?_⟩
    · have : j = 9 := by omega
      subst this
      rw [eI]
      exact h
    · refine ⟨⟨by omega, by omega⟩, ⟨by omega, by omega⟩, 9 - (j + 1), by omega, j + 1, rfl, ?_, by omega, rfl⟩
      rw [eI, standsM_out I _ j (k := 201) (q := 595 + 10 * w + 1 + j) (by omega)]
      exact standsM_s I (fun f => I 201 (595 + 10 * w + 1 + f)) (by omega)
  · show mWp _ _ _ _ _ _ kX11_takesWay_0 [some (mR (some 200)), some (mI w), none] [] I
    simp only [true_or, or_true, false_or, or_false, true_and, and_true, true_implies, false_implies, implies_true, not_true_eq_false, not_false_eq_true, and_self, List.length_cons, List.length_nil, mNoCut_, mCat_n, mCat_I, mCat_L, mCat_R, mIsL_n, mIsL_I, mIsL_R, mIsL_L, Nat.reduceAdd, Nat.reduceSub, Nat.reduceLeDiff, Nat.reduceLT, Nat.reduceEqDiff, Nat.zero_le, Int.reduceEq, Int.reduceLT, Int.reduceLE, Int.reduceNeg, Int.reduceAdd, if_true, if_false, reduceIte, reduceCtorEq, Bool.false_eq_true, ne_eq, qCmp_0, qCmp_1, qCmp_2, qCmp_3, qCmp_4, qCmp_5, ib_0, ib_1, ib_2, lb_0, lb_1, lb_2, dv_0, dv_1, wq_ic, wq_ld_i, wq_ld_a, wq_st_i, wq_iinc, wq_ib, wq_icmp, wq_goto, wq_get, mGet_0, mGet_1, mGet_2, mGet_3, wq_ald, wq_ret0, wq_ret1, wq_ret2, wq_ret3, wq_ret4, mrg_0_, stI2, ldI2, mrg_9_, ldR0, fk_11_0, mrg_595_, mrg_10_, ldI1, mrg_1_, wq_callV3_0, wqinc2, mPut_s, mPut_I0, mPut_R0, mPut_L0, mPut_I1, mPut_R1, mPut_L1, mGo_n, sfxX11_takesWay_2, cutX11_takesWay_2, sfxX11_takesWay_36, cutX11_takesWay_36, wq_cut, mGo_c, mMask_t, mMask_f, mMask_n, kX11_takesWay_36, kX11_takesWay_2, kX11_takesWay_0, sk_200, al_200, rf_200_0, sk_201, al_201, sn_201, ald_n, ro0_n, al_ro, SX11_takesWay_0, shqRII_, spX11_puts, mrg, mrl, mSet_ap, ncast, Option.some.injEq]
    exact ⟨9, 0, rfl, (standsM_0 I _).symm, by omega, rfl⟩
theorem ctrX11_takesWay {l : Launch} (hst : l.stackTraces = false) (hT : mTxM l) : mCtr l calX11_takesWay spX11_takesWay :=
  mMet (T := TX11_takesWay) (S := SX11_takesWay) hst hT cutX11_takesWay (by decide) okX11_takesWay ⟨_, _, rfl, rfl⟩ trivial (fun t bs h => by rcases cutsX11_takesWay h with ⟨-, rfl⟩ <;> rfl) (fun a => match a with
    | 0 => ctrX11_puts hst hT
    | _ + 1 => mCtr_no) vcX11_takesWay

def spX11_givesBack : mSp := shR (fun _ i I Q => i = some 200 ∧ Q (.inl none) (standsM I (I 208) 9))
def SX11_givesBack : Nat → mSp := fun a => match a with
  | 0 => spX11_puts
  | _ => fun _ _ _ _ => False
theorem SX11_givesBack_0 : SX11_givesBack 0 = spX11_puts := Eq.trans rfl rfl
theorem cutsX11_givesBack {t : Nat} {bs : List Bool} (h : cutX11_givesBack t = some bs) : (t = 2 ∧ bs = [true, true]) := by
  unfold cutX11_givesBack at h
  simp only [mLk] at h
  by_cases h0 : 2 = t
  · subst h0
    simp at h
    exact ⟨rfl, h.symm⟩
  rw [if_neg h0] at h
  cases h
set_option maxRecDepth 100000 in
set_option maxHeartbeats 4000000 in
theorem vcX11_givesBack (fl : Nat → Bool) (avs : List mV) (I : mM) (Q : mO → mM → Prop) (hsp : spX11_givesBack fl avs I Q) : mVC SX11_givesBack fl Q kX11_givesBack cutX11_givesBack 2 avs I := by
  obtain ⟨i, rfl, h0⟩ := shR_inv hsp
  obtain ⟨rfl, h⟩ := h0
  refine ⟨rfl, (fun n t lv st I1 => st = [] ∧ ∃ (j : Nat), lv = [some (mR (some 200)), some (mI j)] ∧ I1 = standsM I (I 208) j ∧ j ≤ 9 ∧ n = 9 - j), ?_, ?_⟩
  · intro n t bs hbs lv st I1 hc
    rcases cutsX11_givesBack hbs with ⟨rfl, rfl⟩
    rw [sfxX11_givesBack_2]
    obtain ⟨rfl, j, rfl, eI, hj, hn⟩ := hc
    simp only [true_or, or_true, false_or, or_false, true_and, and_true, true_implies, false_implies, implies_true, not_true_eq_false, not_false_eq_true, and_self, List.length_cons, List.length_nil, mNoCut_, mCat_n, mCat_I, mCat_L, mCat_R, mIsL_n, mIsL_I, mIsL_R, mIsL_L, Nat.reduceAdd, Nat.reduceSub, Nat.reduceLeDiff, Nat.reduceLT, Nat.reduceEqDiff, Nat.zero_le, Int.reduceEq, Int.reduceLT, Int.reduceLE, Int.reduceNeg, Int.reduceAdd, if_true, if_false, reduceIte, reduceCtorEq, Bool.false_eq_true, ne_eq, qCmp_0, qCmp_1, qCmp_2, qCmp_3, qCmp_4, qCmp_5, ib_0, ib_1, ib_2, lb_0, lb_1, lb_2, dv_0, dv_1, wq_ic, wq_ld_i, wq_ld_a, wq_st_i, wq_iinc, wq_icmp, wq_goto, wq_get, mGet_0, mGet_1, mGet_2, mGet_3, wq_ald, wq_ret0, wq_ret1, wq_ret2, wq_ret3, wq_ret4, mrg_0_, stI1, ldI1, mrg_9_, ldR0, fk_11_21, wq_callV3_0, wqinc1, mPut_s, mPut_I0, mPut_R0, mPut_L0, mPut_I1, mPut_R1, mPut_L1, mGo_n, sfxX11_givesBack_2, cutX11_givesBack_2, sfxX11_givesBack_25, cutX11_givesBack_25, wq_cut, mGo_c, mMask_t, mMask_f, mMask_n, kX11_givesBack_25, kX11_givesBack_2, kX11_givesBack_0, sk_200, al_200, rf_200_21, sk_208, al_208, sn_208, ald_n, ro0_n, al_ro, SX11_givesBack_0, shqRII_, spX11_puts, mrg, mrl, mSet_ap, ncast, Option.some.injEq]
    refine ⟨⟨by omega, by omega⟩, fun z => ?_, fun z => ?_⟩
    · have : j = 9 := by omega
      subst this
      rw [eI]
      exact h
    · refine ⟨⟨by omega, by omega⟩, ⟨by omega, by omega⟩, 9 - (j + 1), by omega, j + 1, rfl, ?_, by omega, rfl⟩
      rw [eI, standsM_out I _ j (k := 208) (q := j) (by omega)]
      exact standsM_s I (I 208) (by omega)
  · show mWp _ _ _ _ _ _ kX11_givesBack_0 [some (mR (some 200)), none] [] I
    simp only [true_or, or_true, false_or, or_false, true_and, and_true, true_implies, false_implies, implies_true, not_true_eq_false, not_false_eq_true, and_self, List.length_cons, List.length_nil, mNoCut_, mCat_n, mCat_I, mCat_L, mCat_R, mIsL_n, mIsL_I, mIsL_R, mIsL_L, Nat.reduceAdd, Nat.reduceSub, Nat.reduceLeDiff, Nat.reduceLT, Nat.reduceEqDiff, Nat.zero_le, Int.reduceEq, Int.reduceLT, Int.reduceLE, Int.reduceNeg, Int.reduceAdd, if_true, if_false, reduceIte, reduceCtorEq, Bool.false_eq_true, ne_eq, qCmp_0, qCmp_1, qCmp_2, qCmp_3, qCmp_4, qCmp_5, ib_0, ib_1, ib_2, lb_0, lb_1, lb_2, dv_0, dv_1, wq_ic, wq_ld_i, wq_ld_a, wq_st_i, wq_iinc, wq_icmp, wq_goto, wq_get, mGet_0, mGet_1, mGet_2, mGet_3, wq_ald, wq_ret0, wq_ret1, wq_ret2, wq_ret3, wq_ret4, mrg_0_, stI1, ldI1, mrg_9_, ldR0, fk_11_21, wq_callV3_0, wqinc1, mPut_s, mPut_I0, mPut_R0, mPut_L0, mPut_I1, mPut_R1, mPut_L1, mGo_n, sfxX11_givesBack_2, cutX11_givesBack_2, sfxX11_givesBack_25, cutX11_givesBack_25, wq_cut, mGo_c, mMask_t, mMask_f, mMask_n, kX11_givesBack_25, kX11_givesBack_2, kX11_givesBack_0, sk_200, al_200, rf_200_21, sk_208, al_208, sn_208, ald_n, ro0_n, al_ro, SX11_givesBack_0, shqRII_, spX11_puts, mrg, mrl, mSet_ap, ncast, Option.some.injEq]
    exact ⟨9, 0, rfl, (standsM_0 I _).symm, by omega, rfl⟩
theorem ctrX11_givesBack {l : Launch} (hst : l.stackTraces = false) (hT : mTxM l) : mCtr l calX11_givesBack spX11_givesBack :=
  mMet (T := TX11_givesBack) (S := SX11_givesBack) hst hT cutX11_givesBack (by decide) okX11_givesBack ⟨_, _, rfl, rfl⟩ trivial (fun t bs h => by rcases cutsX11_givesBack h with ⟨-, rfl⟩ <;> rfl) (fun a => match a with
    | 0 => ctrX11_puts hst hT
    | _ + 1 => mCtr_no) vcX11_givesBack

/-- the memory once the first n STANDS are set down in the array a -/
def noteM (I : mM) (a : Nat) (g : Int → Int) (n : Int) : mM := fun (k : Nat) (q : Int) => if k = a ∧ (0 ≤ q ∧ q < n) then g q else I k q
theorem noteM_0 (I : mM) (a : Nat) (g : Int → Int) : noteM I a g 0 = I := by
  funext k q
  simp only [noteM]
  split
  · omega
  · rfl
theorem noteM_s (I : mM) (a : Nat) (g : Int → Int) {n : Int} (hn : 0 ≤ n) : mSet (noteM I a g n) a n (g n) = noteM I a g (n + 1) := by
  funext k q
  simp only [mSet, noteM]
  by_cases h1 : k = a ∧ q = n
  · rw [if_pos h1, if_pos ⟨h1.1, by omega, by omega⟩, h1.2]
  · rw [if_neg h1]
    by_cases h2 : k = a ∧ (0 ≤ q ∧ q < n)
    · rw [if_pos h2, if_pos ⟨h2.1, by omega, by omega⟩]
    · rw [if_neg h2, if_neg (fun z => h2 ⟨z.1, by omega, by omega⟩)]
theorem noteM_out (I : mM) (a : Nat) (g : Int → Int) (n : Int) {k : Nat} {q : Int} (h : k ≠ a ∨ q < 0 ∨ n ≤ q) : noteM I a g n k q = I k q := by
  simp only [noteM]
  exact if_neg (fun z => by omega)
def spX11_putsBy : mSp := shR (fun _ i I Q => i = some 200 ∧ Q (.inl none) (noteM I 208 (stT (I 201)) 9))
def SX11_putsBy : Nat → mSp := fun a => match a with
  | 0 => spX11_standOf
  | _ => fun _ _ _ _ => False
theorem SX11_putsBy_0 : SX11_putsBy 0 = spX11_standOf := Eq.trans rfl rfl
theorem cutsX11_putsBy {t : Nat} {bs : List Bool} (h : cutX11_putsBy t = some bs) : (t = 2 ∧ bs = [true, true]) := by
  unfold cutX11_putsBy at h
  simp only [mLk] at h
  by_cases h0 : 2 = t
  · subst h0
    simp at h
    exact ⟨rfl, h.symm⟩
  rw [if_neg h0] at h
  cases h
set_option maxRecDepth 100000 in
set_option maxHeartbeats 4000000 in
theorem vcX11_putsBy (fl : Nat → Bool) (avs : List mV) (I : mM) (Q : mO → mM → Prop) (hsp : spX11_putsBy fl avs I Q) : mVC SX11_putsBy fl Q kX11_putsBy cutX11_putsBy 2 avs I := by
  obtain ⟨i, rfl, h0⟩ := shR_inv hsp
  obtain ⟨rfl, h⟩ := h0
  refine ⟨rfl, (fun n t lv st I1 => st = [] ∧ ∃ (j : Nat), lv = [some (mR (some 200)), some (mI j)] ∧ I1 = noteM I 208 (stT (I 201)) j ∧ j ≤ 9 ∧ n = 9 - j), ?_, ?_⟩
  · intro n t bs hbs lv st I1 hc
    rcases cutsX11_putsBy hbs with ⟨rfl, rfl⟩
    rw [sfxX11_putsBy_2]
    obtain ⟨rfl, j, rfl, eI, hj, hn⟩ := hc
    simp only [true_or, or_true, false_or, or_false, true_and, and_true, true_implies, false_implies, implies_true, not_true_eq_false, not_false_eq_true, and_self, List.length_cons, List.length_nil, mNoCut_, mCat_n, mCat_I, mCat_L, mCat_R, mIsL_n, mIsL_I, mIsL_R, mIsL_L, Nat.reduceAdd, Nat.reduceSub, Nat.reduceLeDiff, Nat.reduceLT, Nat.reduceEqDiff, Nat.zero_le, Int.reduceEq, Int.reduceLT, Int.reduceLE, Int.reduceNeg, Int.reduceAdd, if_true, if_false, reduceIte, reduceCtorEq, Bool.false_eq_true, ne_eq, qCmp_0, qCmp_1, qCmp_2, qCmp_3, qCmp_4, qCmp_5, ib_0, ib_1, ib_2, lb_0, lb_1, lb_2, dv_0, dv_1, wq_ic, wq_ld_i, wq_ld_a, wq_st_i, wq_iinc, wq_icmp, wq_goto, wq_get, mGet_0, mGet_1, mGet_2, mGet_3, wq_astI, wq_astL, wq_ret0, wq_ret1, wq_ret2, wq_ret3, wq_ret4, mrg_0_, stI1, ldI1, mrg_9_, ldR0, fk_11_21, wq_callV2_0, wqinc1, mPut_s, mPut_I0, mPut_R0, mPut_L0, mPut_I1, mPut_R1, mPut_L1, mGo_n, sfxX11_putsBy_2, cutX11_putsBy_2, sfxX11_putsBy_25, cutX11_putsBy_25, wq_cut, mGo_c, mMask_t, mMask_f, mMask_n, kX11_putsBy_25, kX11_putsBy_2, kX11_putsBy_0, sk_200, al_200, rf_200_21, sk_208, al_208, sn_208, SX11_putsBy_0, shqRI_, spX11_standOf, mrg, mrl, mSet_ap, ncast, Option.some.injEq]
    refine ⟨⟨by omega, by omega⟩, fun z => ?_, fun z => ?_⟩
    · have : j = 9 := by omega
      subst this
      rw [eI]
      exact h
    · refine ⟨⟨by omega, by omega⟩, ⟨by omega, by omega⟩, 9 - (j + 1), by omega, j + 1, rfl, ?_, by omega, rfl⟩
      have e : stT (I1 201) j = stT (I 201) j := by
        unfold stT
        rw [eI, noteM_out I 208 _ j (k := 201) (by omega)]
      rw [e, eI]
      exact noteM_s I 208 (stT (I 201)) (by omega)
  · show mWp _ _ _ _ _ _ kX11_putsBy_0 [some (mR (some 200)), none] [] I
    simp only [true_or, or_true, false_or, or_false, true_and, and_true, true_implies, false_implies, implies_true, not_true_eq_false, not_false_eq_true, and_self, List.length_cons, List.length_nil, mNoCut_, mCat_n, mCat_I, mCat_L, mCat_R, mIsL_n, mIsL_I, mIsL_R, mIsL_L, Nat.reduceAdd, Nat.reduceSub, Nat.reduceLeDiff, Nat.reduceLT, Nat.reduceEqDiff, Nat.zero_le, Int.reduceEq, Int.reduceLT, Int.reduceLE, Int.reduceNeg, Int.reduceAdd, if_true, if_false, reduceIte, reduceCtorEq, Bool.false_eq_true, ne_eq, qCmp_0, qCmp_1, qCmp_2, qCmp_3, qCmp_4, qCmp_5, ib_0, ib_1, ib_2, lb_0, lb_1, lb_2, dv_0, dv_1, wq_ic, wq_ld_i, wq_ld_a, wq_st_i, wq_iinc, wq_icmp, wq_goto, wq_get, mGet_0, mGet_1, mGet_2, mGet_3, wq_astI, wq_astL, wq_ret0, wq_ret1, wq_ret2, wq_ret3, wq_ret4, mrg_0_, stI1, ldI1, mrg_9_, ldR0, fk_11_21, wq_callV2_0, wqinc1, mPut_s, mPut_I0, mPut_R0, mPut_L0, mPut_I1, mPut_R1, mPut_L1, mGo_n, sfxX11_putsBy_2, cutX11_putsBy_2, sfxX11_putsBy_25, cutX11_putsBy_25, wq_cut, mGo_c, mMask_t, mMask_f, mMask_n, kX11_putsBy_25, kX11_putsBy_2, kX11_putsBy_0, sk_200, al_200, rf_200_21, sk_208, al_208, sn_208, SX11_putsBy_0, shqRI_, spX11_standOf, mrg, mrl, mSet_ap, ncast, Option.some.injEq]
    exact ⟨9, 0, rfl, (noteM_0 I 208 _).symm, by omega, rfl⟩
theorem ctrX11_putsBy {l : Launch} (hst : l.stackTraces = false) (hT : mTxM l) : mCtr l calX11_putsBy spX11_putsBy :=
  mMet (T := TX11_putsBy) (S := SX11_putsBy) hst hT cutX11_putsBy (by decide) okX11_putsBy ⟨_, _, rfl, rfl⟩ trivial (fun t bs h => by rcases cutsX11_putsBy h with ⟨-, rfl⟩ <;> rfl) (fun a => match a with
    | 0 => ctrX11_standOf hst hT
    | _ + 1 => mCtr_no) vcX11_putsBy

end SPM9
