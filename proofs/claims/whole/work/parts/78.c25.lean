section SPC25
/-- what is kept of HIT h while the others stay as O -/
def Wd (I : mM) (t O : Int → Int) (b h : Int) : Prop := I 142 h = ctS t O b h ∧ I 143 h = (if ctS t O b h = -1 then 0 else far (O (ctS t O b h)) (cellT t b h (airT t b h)) * pcT t (ctS t O b h)) ∧ I 144 h = chS t O b h ∧ I 145 h = rnS t O b h (-1) ∧ I 146 h = woS t O b h (ctS t O b h) ∧ I 147 h = spS t O b h (ctS t O b h) ∧ I 148 h = (if woS t O b h (ctS t O b h) = -1 then 0 else far (O (woS t O b h (ctS t O b h))) (cellT t b h (spS t O b h (ctS t O b h))) * pcT t (woS t O b h (ctS t O b h))) ∧ I 149 h = rnS t O b h (ctS t O b h)
theorem Wd_of {I J : mM} {t O : Int → Int} {b h : Int} (hf : ∀ i, 142 ≤ i → i ≤ 149 → J i h = I i h) (H : Wd I t O b h) : Wd J t O b h := by
  unfold Wd at *
  rw [hf 142 (by decide) (by decide), hf 143 (by decide) (by decide), hf 144 (by decide) (by decide), hf 145 (by decide) (by decide), hf 146 (by decide) (by decide), hf 147 (by decide) (by decide), hf 148 (by decide) (by decide), hf 149 (by decide) (by decide)]
  exact H
def spX2_timeOf : mSp := shRIII (fun _ i f h k I Q => i = some 140 ∧ (-1 ≤ f ∧ f < 9) ∧ mrg k ∧ ∃ t b, ctxU I t b ∧ hitB t b h ∧ (f ≠ -1 → (1 ≤ k ∧ k ≤ stepsT t b h) ∧ (0 ≤ I 141 f ∧ I 141 f < 289)) ∧ Q (.inl (some (mI (if f = -1 then 0 else far (I 141 f) (cellT t b h k) * pcT t f)))) I)
def SX2_timeOf : Nat → mSp := fun a => match a with
  | 0 => spX0_cellAt
  | 1 => spX9_timeTo
  | _ => fun _ _ _ _ => False
theorem SX2_timeOf_0 : SX2_timeOf 0 = spX0_cellAt := Eq.trans rfl rfl
theorem SX2_timeOf_1 : SX2_timeOf 1 = spX9_timeTo := Eq.trans rfl rfl
set_option maxRecDepth 100000 in
set_option maxHeartbeats 1000000 in
theorem vcX2_timeOf (fl : Nat → Bool) (avs : List mV) (I : mM) (Q : mO → mM → Prop) (hsp : spX2_timeOf fl avs I Q) : mVC0 SX2_timeOf fl Q kX2_timeOf 4 avs I := by
  obtain ⟨i, f, hh, k, rfl, h0⟩ := shRIII_inv hsp
  refine ⟨rfl, ?_⟩
  show mWp _ _ _ _ _ _ kX2_timeOf_0 [some (mR i), some (mI f), some (mI hh), some (mI k)] [] I
  obtain ⟨rfl, hf, hk, t, b, H, hh1, hF, h⟩ := h0
  have h8 := H.h8 hh1.1 hh1.2
  have lh := H.lh hh1.1 hh1.2
  have st8 := (steps_spec H.1 H.2.1 h8).1
  by_cases z : f = -1
  · subst z
    clear hF
    simp only [false_and, and_false, true_or, or_true, false_or, or_false, true_and, and_true, true_implies, false_implies, implies_true, not_true_eq_false, not_false_eq_true, and_self, List.length_cons, List.length_nil, mNoCut_, mCat_n, mCat_I, mCat_L, mCat_R, mIsL_n, mIsL_I, mIsL_R, mIsL_L, Nat.reduceAdd, Nat.reduceSub, Nat.reduceLeDiff, Nat.reduceLT, Nat.reduceEqDiff, Nat.zero_le, Int.reduceEq, Int.reduceLT, Int.reduceLE, Int.reduceNeg, Int.reduceAdd, if_true, if_false, reduceIte, reduceCtorEq, Bool.false_eq_true, ne_eq, qCmp_0, qCmp_1, qCmp_2, qCmp_3, qCmp_4, qCmp_5, ib_0, ib_1, ib_2, lb_0, lb_1, lb_2, dv_0, dv_1, wq_ic, wq_ld_i, wq_ld_a, wq_icmp, wq_goto, wq_get, mGet_0, mGet_1, mGet_2, mGet_3, wq_ald, wq_ret0, wq_ret1, wq_ret2, wq_ret3, wq_ret4, ldI1, mrg_m1_, mrg_0_, ldR0, fk_2_3, fk_2_4, fk_2_2, ldI2, ldI3, wq_callV3_0, wq_callV4_0, mGo_n, sfxX2_timeOf_9, cutX2_timeOf_9, sfxX2_timeOf_32, cutX2_timeOf_32, kX2_timeOf_32, kX2_timeOf_9, kX2_timeOf_0, sk_140, al_140, rf_140_3, sk_130, al_130, rf_140_4, sk_141, al_141, sn_141, rf_140_2, sk_120, al_120, ald_n, ro0_n, al_ro, SX2_timeOf_0, SX2_timeOf_1, shqRII_, shqRIII_, spX0_cellAt, spX9_timeTo, mrg, mrl, mSet_ap, ncast, Option.some.injEq]
    (try simp only [mrg, mrl] at *) <;> repeat' (first | (with_reducible assumption) | (with_reducible apply And.intro) | intro _)
    all_goals first | omega | exact h | skip
  · rw [if_neg z] at h
    obtain ⟨hk1, hO⟩ := hF z
    clear hF
    have lk := (lh.2.2.2.2.2 k hk1.1 hk1.2).1
    have cl := cell_in H.1 H.2.1 h8 (k := k) ⟨by omega, hk1.2⟩
    have pp := (H.2.2.2.1 f (by omega) (by omega)).1
    simp only [false_and, and_false, true_or, or_true, false_or, or_false, true_and, and_true, true_implies, false_implies, implies_true, not_true_eq_false, not_false_eq_true, and_self, List.length_cons, List.length_nil, mNoCut_, mCat_n, mCat_I, mCat_L, mCat_R, mIsL_n, mIsL_I, mIsL_R, mIsL_L, Nat.reduceAdd, Nat.reduceSub, Nat.reduceLeDiff, Nat.reduceLT, Nat.reduceEqDiff, Nat.zero_le, Int.reduceEq, Int.reduceLT, Int.reduceLE, Int.reduceNeg, Int.reduceAdd, if_true, if_false, reduceIte, reduceCtorEq, Bool.false_eq_true, ne_eq, qCmp_0, qCmp_1, qCmp_2, qCmp_3, qCmp_4, qCmp_5, ib_0, ib_1, ib_2, lb_0, lb_1, lb_2, dv_0, dv_1, wq_ic, wq_ld_i, wq_ld_a, wq_icmp, wq_goto, wq_get, mGet_0, mGet_1, mGet_2, mGet_3, wq_ald, wq_ret0, wq_ret1, wq_ret2, wq_ret3, wq_ret4, ldI1, mrg_m1_, mrg_0_, ldR0, fk_2_3, fk_2_4, fk_2_2, ldI2, ldI3, wq_callV3_0, wq_callV4_0, mGo_n, sfxX2_timeOf_9, cutX2_timeOf_9, sfxX2_timeOf_32, cutX2_timeOf_32, kX2_timeOf_32, kX2_timeOf_9, kX2_timeOf_0, sk_140, al_140, rf_140_3, sk_130, al_130, rf_140_4, sk_141, al_141, sn_141, rf_140_2, sk_120, al_120, ald_n, ro0_n, al_ro, SX2_timeOf_0, SX2_timeOf_1, shqRII_, shqRIII_, spX0_cellAt, spX9_timeTo, mrg, mrl, mSet_ap, ncast, Option.some.injEq, lk, pp]
    (try simp only [mrg, mrl] at *) <;> repeat' (first | (with_reducible assumption) | (with_reducible apply And.intro) | intro _)
    all_goals first | omega | exact h | exact absurd (by assumption) z | skip
theorem ctrX2_timeOf {l : Launch} (hst : l.stackTraces = false) (hT : mTxM l) : mCtr l calX2_timeOf spX2_timeOf :=
  mMet0 (T := TX2_timeOf) (S := SX2_timeOf) hst hT (by decide) okX2_timeOf ⟨_, _, rfl, rfl⟩ (fun a => match a with
    | 0 => ctrX0_cellAt hst hT
    | 1 => ctrX9_timeTo hst hT
    | _ + 2 => mCtr_no) vcX2_timeOf

def spX2_mayGo : mSp := shRI (fun _ i c I Q => i = some 140 ∧ (0 ≤ c ∧ c < 289) ∧ (2 ≤ I 11 1 ∧ I 11 1 ≤ 8) ∧ (0 ≤ I 11 5 ∧ I 11 5 ≤ 8) ∧ mrg (I 11 4) ∧ mrg (I 140 14) ∧ stB (I 141) ∧ (mayT (I 11) c ∧ ¬ (c % 17 < 8 ∧ I 11 4 ≤ I 140 14) ∧ (∀ g : Int, 0 ≤ g → g < 9 → I 141 g ≠ c) → Q (.inl (some (mI 1))) I) ∧ (¬ (mayT (I 11) c ∧ ¬ (c % 17 < 8 ∧ I 11 4 ≤ I 140 14) ∧ (∀ g : Int, 0 ≤ g → g < 9 → I 141 g ≠ c)) → Q (.inl (some (mI 0))) I))
def SX2_mayGo : Nat → mSp := fun a => match a with
  | 0 => spX3_mayHold
  | _ => fun _ _ _ _ => False
theorem SX2_mayGo_0 : SX2_mayGo 0 = spX3_mayHold := Eq.trans rfl rfl
theorem cutsX2_mayGo {t : Nat} {bs : List Bool} (h : cutX2_mayGo t = some bs) : (t = 38 ∧ bs = [true, true, true]) := by
  unfold cutX2_mayGo at h
  simp only [mLk] at h
  by_cases h0 : 38 = t
  · subst h0
    simp at h
    exact ⟨rfl, h.symm⟩
  rw [if_neg h0] at h
  cases h
set_option maxRecDepth 100000 in
set_option maxHeartbeats 1000000 in
theorem vcX2_mayGo (fl : Nat → Bool) (avs : List mV) (I : mM) (Q : mO → mM → Prop) (hsp : spX2_mayGo fl avs I Q) : mVC SX2_mayGo fl Q kX2_mayGo cutX2_mayGo 3 avs I := by
  obtain ⟨i, c, rfl, h0⟩ := shRI_inv hsp
  obtain ⟨rfl, hc1, e1, e5, e4, e14, hB, h1, h2⟩ := h0
  refine ⟨rfl, (fun m pc lv st I1 => st = [] ∧ I1 = I ∧ ∃ j : Nat, lv = [some (mR (some 140)), some (mI c), some (mI j)] ∧ j ≤ 9 ∧ m = 9 - j ∧ (mayT (I 11) c ∧ ¬ (c % 17 < 8 ∧ I 11 4 ≤ I 140 14)) ∧ ∀ g : Int, 0 ≤ g → g < j → I 141 g ≠ c), ?_, ?_⟩
  · intro n t bs hbs lv st I1 hc
    rcases cutsX2_mayGo hbs with ⟨rfl, rfl⟩
    rw [sfxX2_mayGo_38]
    obtain ⟨rfl, rfl, j, rfl, hj, hm, hA, hg⟩ := hc
    have g1 : ∀ _ : Unit, j = 9 → Q (.inl (some (mI 1))) I1 := fun _ z => h1 ⟨hA.1, hA.2, fun g g0 g1 => hg g g0 (by omega)⟩
    have g2 : ∀ _ : Unit, (j : Int) < 9 → I1 141 j = c → Q (.inl (some (mI 0))) I1 := fun _ z w => h2 (fun q => q.2.2 j (by omega) z w)
    have g3 : ∀ _ : Unit, I1 141 j ≠ c → ∀ g : Int, 0 ≤ g → g < ((j + 1 : Nat) : Int) → I1 141 g ≠ c := fun _ z g g0 g1 => (Decidable.em (g = (j : Int))).elim (fun q => by rw [q]; exact z) (fun q => hg g g0 (by omega))
    have hBj : ∀ _ : Unit, (j : Int) < 9 → -1 ≤ I1 141 j ∧ I1 141 j ≤ 288 := fun _ z => hB j (by omega) z
    clear h1 h2 hg hB
    simp only [false_and, and_false, true_or, or_true, false_or, or_false, true_and, and_true, true_implies, false_implies, implies_true, not_true_eq_false, not_false_eq_true, and_self, List.length_cons, List.length_nil, mNoCut_, mCat_n, mCat_I, mCat_L, mCat_R, mIsL_n, mIsL_I, mIsL_R, mIsL_L, Nat.reduceAdd, Nat.reduceSub, Nat.reduceLeDiff, Nat.reduceLT, Nat.reduceEqDiff, Nat.zero_le, Int.reduceEq, Int.reduceLT, Int.reduceLE, Int.reduceNeg, Int.reduceAdd, if_true, if_false, reduceIte, reduceCtorEq, Bool.false_eq_true, ne_eq, qCmp_0, qCmp_1, qCmp_2, qCmp_3, qCmp_4, qCmp_5, ib_0, ib_1, ib_2, lb_0, lb_1, lb_2, dv_0, dv_1, wq_ic, wq_ld_i, wq_ld_a, wq_st_i, wq_iinc, wq_idv, wq_icmp, wq_if, wq_goto, wq_get, mGet_0, mGet_1, mGet_2, mGet_3, wq_ald, wq_ret0, wq_ret1, wq_ret2, wq_ret3, wq_ret4, ldR0, fk_2_0, ldI1, wq_callV2_0, mrg_17_, mrg_8_, fk_2_14, fk_3_4, mrg_0_, stI2, ldI2, mrg_9_, fk_2_4, wqinc2, mrg_1_, mPut_s, mPut_I0, mPut_R0, mPut_L0, mPut_I1, mPut_R1, mPut_L1, mGo_n, sfxX2_mayGo_34, cutX2_mayGo_34, sfxX2_mayGo_36, cutX2_mayGo_36, sfxX2_mayGo_38, cutX2_mayGo_38, sfxX2_mayGo_56, cutX2_mayGo_56, sfxX2_mayGo_62, cutX2_mayGo_62, wq_cut, mGo_c, mMask_t, mMask_f, mMask_n, kX2_mayGo_62, kX2_mayGo_56, kX2_mayGo_38, kX2_mayGo_36, kX2_mayGo_34, kX2_mayGo_0, sk_140, al_140, rf_140_0, sk_11, al_11, rf_140_4, sk_141, al_141, sn_141, sk_102, al_102, ald_n, ro0_n, al_ro, SX2_mayGo_0, shqRI_, spX3_mayHold, mrg, mrl, mSet_ap, ncast, Option.some.injEq]
    (try simp only [mrg, mrl] at *) <;> repeat' (first | (with_reducible assumption) | (with_reducible apply And.intro) | intro _)
    all_goals first | omega | exact g1 () (by omega) | exact g2 () (by omega) (by omega) | (have := hBj () (by omega); omega) | exact ⟨9 - (j + 1), by omega, j + 1, rfl, by omega, rfl, hA, g3 () (by omega)⟩ | skip
  · show mWp _ _ _ _ _ _ kX2_mayGo_0 [some (mR (some 140)), some (mI c), none] [] I
    have hx : ∀ _ : Unit, mayT (I 11) c → ¬ (c % 17 < 8 ∧ I 11 4 ≤ I 140 14) → mayT (I 11) c ∧ ¬ (c % 17 < 8 ∧ I 11 4 ≤ I 140 14) := fun _ a b => ⟨a, b⟩
    have g2 : ∀ _ : Unit, ¬ (mayT (I 11) c ∧ ¬ (c % 17 < 8 ∧ I 11 4 ≤ I 140 14)) → Q (.inl (some (mI 0))) I := fun _ z => h2 (fun q => z ⟨q.1, q.2.1⟩)
    have hmod : c.tmod 17 = c % 17 := Int.tmod_eq_emod_of_nonneg (by omega)
    clear h1 h2 hB
    simp only [false_and, and_false, true_or, or_true, false_or, or_false, true_and, and_true, true_implies, false_implies, implies_true, not_true_eq_false, not_false_eq_true, and_self, List.length_cons, List.length_nil, mNoCut_, mCat_n, mCat_I, mCat_L, mCat_R, mIsL_n, mIsL_I, mIsL_R, mIsL_L, Nat.reduceAdd, Nat.reduceSub, Nat.reduceLeDiff, Nat.reduceLT, Nat.reduceEqDiff, Nat.zero_le, Int.reduceEq, Int.reduceLT, Int.reduceLE, Int.reduceNeg, Int.reduceAdd, if_true, if_false, reduceIte, reduceCtorEq, Bool.false_eq_true, ne_eq, qCmp_0, qCmp_1, qCmp_2, qCmp_3, qCmp_4, qCmp_5, ib_0, ib_1, ib_2, lb_0, lb_1, lb_2, dv_0, dv_1, wq_ic, wq_ld_i, wq_ld_a, wq_st_i, wq_iinc, wq_idv, wq_icmp, wq_if, wq_goto, wq_get, mGet_0, mGet_1, mGet_2, mGet_3, wq_ald, wq_ret0, wq_ret1, wq_ret2, wq_ret3, wq_ret4, ldR0, fk_2_0, ldI1, wq_callV2_0, mrg_17_, mrg_8_, fk_2_14, fk_3_4, mrg_0_, stI2, ldI2, mrg_9_, fk_2_4, wqinc2, mrg_1_, mPut_s, mPut_I0, mPut_R0, mPut_L0, mPut_I1, mPut_R1, mPut_L1, mGo_n, sfxX2_mayGo_34, cutX2_mayGo_34, sfxX2_mayGo_36, cutX2_mayGo_36, sfxX2_mayGo_38, cutX2_mayGo_38, sfxX2_mayGo_56, cutX2_mayGo_56, sfxX2_mayGo_62, cutX2_mayGo_62, wq_cut, mGo_c, mMask_t, mMask_f, mMask_n, kX2_mayGo_62, kX2_mayGo_56, kX2_mayGo_38, kX2_mayGo_36, kX2_mayGo_34, kX2_mayGo_0, sk_140, al_140, rf_140_0, sk_11, al_11, rf_140_4, sk_141, al_141, sn_141, sk_102, al_102, ald_n, ro0_n, al_ro, SX2_mayGo_0, shqRI_, spX3_mayHold, mrg, mrl, mSet_ap, ncast, Option.some.injEq, hmod]
    (try simp only [mrg, mrl] at *) <;> repeat' (first | (with_reducible assumption) | (with_reducible apply And.intro) | intro _)
    all_goals first | omega | exact g2 () (fun q => absurd q.1 (by assumption)) | exact g2 () (fun q => q.2 ⟨by omega, by omega⟩) | exact ⟨9, 0, rfl, by omega, rfl, hx () (by assumption) (by omega), fun g g0 g1 => by omega⟩ | skip
theorem ctrX2_mayGo {l : Launch} (hst : l.stackTraces = false) (hT : mTxM l) : mCtr l calX2_mayGo spX2_mayGo :=
  mMet (T := TX2_mayGo) (S := SX2_mayGo) hst hT cutX2_mayGo (by decide) okX2_mayGo ⟨_, _, rfl, rfl⟩ trivial (fun t bs h => by rcases cutsX2_mayGo h with ⟨-, rfl⟩ <;> rfl) (fun a => match a with
    | 0 => ctrX3_mayHold hst hT
    | _ + 1 => mCtr_no) vcX2_mayGo

theorem set_nj {I : mM} {a i : Nat} {p v q : Int} (h : q ≠ p) : mSet I a p v i q = I i q := if_neg (fun z => h z.2)
def frW (I' I : mM) : Prop := (∀ i, i ≠ 130 → i ≠ 140 → ¬ (142 ≤ i ∧ i ≤ 149) → I' i = I i) ∧ (∀ p : Int, p ≠ 14 → I' 140 p = I 140 p) ∧ I' 140 14 = leftU (I 141) 9
theorem wo_at {t s : Int → Int} {b h but : Int} (z : woS t s b h but ≠ -1) : s (woS t s b h but) ≠ -1 := by
  unfold woS whoT at *
  by_cases k : spS t s b h but = -1
  · rw [if_pos k] at z
    exact absurd rfl z
  · rw [if_neg k] at z ⊢
    exact ((soonT_bd s (pcT t) (cellT t b h (spS t s b h but)) (tickT t b h (spS t s b h but)) but).2.2 z).1
def spX2_weighOthers : mSp := shR (fun _ i I Q => i = some 140 ∧ stB (I 141) ∧ ∃ t b, ctxU I t b ∧ ∀ I' : mM, frW I' I → (∀ h : Int, hitB t b h → Wd I' t (I 141) b h) → Q (.inl none) I')
def SX2_weighOthers : Nat → mSp := fun a => match a with
  | 0 => spX9_findStop
  | 1 => spX9_runsBy
  | 2 => spX9_weigh
  | 3 => spX2_timeOf
  | _ => fun _ _ _ _ => False
theorem SX2_weighOthers_0 : SX2_weighOthers 0 = spX9_findStop := Eq.trans rfl rfl
theorem SX2_weighOthers_1 : SX2_weighOthers 1 = spX9_runsBy := Eq.trans rfl rfl
theorem SX2_weighOthers_2 : SX2_weighOthers 2 = spX9_weigh := Eq.trans rfl rfl
theorem SX2_weighOthers_3 : SX2_weighOthers 3 = spX2_timeOf := Eq.trans rfl rfl
theorem cutsX2_weighOthers {t : Nat} {bs : List Bool} (h : cutX2_weighOthers t = some bs) : (t = 7 ∧ bs = [true, true]) ∨ (t = 59 ∧ bs = [true, true]) := by
  unfold cutX2_weighOthers at h
  simp only [mLk] at h
  by_cases h0 : 7 = t
  · subst h0
    simp at h
    exact Or.inl ⟨rfl, h.symm⟩
  rw [if_neg h0] at h
  by_cases h1 : 59 = t
  · subst h1
    simp at h
    exact Or.inr (⟨rfl, h.symm⟩)
  rw [if_neg h1] at h
  cases h
set_option maxRecDepth 100000 in
set_option maxHeartbeats 1000000 in
theorem vcX2_weighOthers (fl : Nat → Bool) (avs : List mV) (I : mM) (Q : mO → mM → Prop) (hsp : spX2_weighOthers fl avs I Q) : mVC SX2_weighOthers fl Q kX2_weighOthers cutX2_weighOthers 2 avs I := by
  obtain ⟨i, rfl, h0⟩ := shR_inv hsp
  obtain ⟨rfl, hB, t, b, H, h⟩ := h0
  have hn := H.1.2.1 b H.2.1.1 H.2.1.2
  have e0 := H.2.2.1.1
  refine ⟨rfl, (fun m pc lv st I1 => st = [] ∧ ∃ j : Nat, lv = [some (mR (some 140)), some (mI j)] ∧ (if pc = 7 then j ≤ 9 ∧ m = 20 + (9 - j) ∧ I1 = mSet I 140 14 (leftU (I 141) j) else j ≤ (t (13 + b)).toNat ∧ m = 8 - j ∧ frW I1 I ∧ ∀ h : Int, 0 ≤ h → h < j → Wd I1 t (I 141) b h)), ?_, ?_⟩
  · intro n t bs hbs lv st I1 hc
    rcases cutsX2_weighOthers hbs with ⟨rfl, rfl⟩ | ⟨rfl, rfl⟩
    · skip
      rw [sfxX2_weighOthers_7]
      obtain ⟨rfl, j, rfl, hj, hm, rfl⟩ := hc
      clear h
      have hu : leftU (I 141) (j + 1) = leftU (I 141) j + if I 141 j ≠ -1 ∧ I 141 j % 17 < 8 then 1 else 0 := rfl
      have lb := leftU_bd (I 141) j
      have hBj : ∀ _ : Unit, (j : Int) < 9 → -1 ≤ I 141 j ∧ I 141 j ≤ 288 := fun _ z => hB j (by omega) z
      have hmod : ∀ _ : Unit, (j : Int) < 9 → I 141 j ≠ -1 → (I 141 j).tmod 17 = I 141 j % 17 := fun _ z w => Int.tmod_eq_emod_of_nonneg (by have := hB j (by omega) z; omega)
      have k0 : ∀ _ : Unit, (j : Int) < 9 → (I 141 j = -1 ∨ ¬ (I 141 j).tmod 17 < 8) → leftU (I 141) j + 0 = leftU (I 141) (j + 1) := fun _ z w => by
        rw [hu]
        have hm := hmod () z
        by_cases q : I 141 j = -1
        · rw [if_neg (fun e => e.1 q)]
        · have hm := hm q
          rw [if_neg (fun e => by omega)]
      have k1 : ∀ _ : Unit, (j : Int) < 9 → I 141 j ≠ -1 → (I 141 j).tmod 17 < 8 → leftU (I 141) j + 1 = leftU (I 141) (j + 1) := fun _ z q w => by
        have hm := hmod () z q
        rw [hu, if_pos ⟨q, by omega⟩]
      clear hu
      simp only [false_and, and_false, true_or, or_true, false_or, or_false, true_and, and_true, true_implies, false_implies, implies_true, not_true_eq_false, not_false_eq_true, and_self, List.length_cons, List.length_nil, mNoCut_, mCat_n, mCat_I, mCat_L, mCat_R, mIsL_n, mIsL_I, mIsL_R, mIsL_L, Nat.reduceAdd, Nat.reduceSub, Nat.reduceLeDiff, Nat.reduceLT, Nat.reduceEqDiff, Nat.zero_le, Int.reduceEq, Int.reduceLT, Int.reduceLE, Int.reduceNeg, Int.reduceAdd, if_true, if_false, reduceIte, reduceCtorEq, Bool.false_eq_true, ne_eq, qCmp_0, qCmp_1, qCmp_2, qCmp_3, qCmp_4, qCmp_5, ib_0, ib_1, ib_2, lb_0, lb_1, lb_2, dv_0, dv_1, wq_ic, wq_ld_i, wq_ld_a, wq_st_i, wq_iinc, wq_ib, wq_idv, wq_icmp, wq_goto, wq_get, mGet_0, mGet_1, mGet_2, mGet_3, wq_putI, wq_putL, wq_ald, wq_astI, wq_astL, wq_dupI, wq_dupR, dup_I, dup_R, wq_ret0, wq_ret1, wq_ret2, wq_ret3, wq_ret4, ldR0, mrg_0_, fk_2_14, stI1, ldI1, mrg_9_, fk_2_4, mrg_m1_, mrg_17_, mrg_8_, mrg_1_, wqinc1, fk_2_2, fk_0_0, fk_2_3, wq_callV4_0, fk_2_8, fk_9_5, fk_9_6, wq_callV3_0, fk_2_5, fk_9_3, fk_2_7, fk_9_4, fk_2_6, fk_0_5, fk_2_9, fk_2_10, fk_2_11, fk_2_12, fk_9_7, mPut_s, mPut_I0, mPut_R0, mPut_L0, mPut_I1, mPut_R1, mPut_L1, mGo_n, sfxX2_weighOthers_7, cutX2_weighOthers_7, sfxX2_weighOthers_46, cutX2_weighOthers_46, sfxX2_weighOthers_47, cutX2_weighOthers_47, sfxX2_weighOthers_57, cutX2_weighOthers_57, sfxX2_weighOthers_59, cutX2_weighOthers_59, sfxX2_weighOthers_246, cutX2_weighOthers_246, wq_cut, mGo_c, mMask_t, mMask_f, mMask_n, kX2_weighOthers_246, kX2_weighOthers_59, kX2_weighOthers_57, kX2_weighOthers_47, kX2_weighOthers_46, kX2_weighOthers_7, kX2_weighOthers_0, sk_120, al_120, rf_120_5, sk_123, al_123, sn_123, sk_130, al_130, sk_140, al_140, rf_140_4, sk_141, al_141, sn_141, rf_140_2, rf_140_3, rf_140_8, sk_145, al_145, sn_145, rf_140_5, sk_142, al_142, sn_142, rf_140_7, sk_144, al_144, sn_144, rf_140_6, sk_143, al_143, sn_143, rf_140_9, sk_146, al_146, sn_146, rf_140_10, sk_147, al_147, sn_147, rf_140_11, sk_148, al_148, sn_148, rf_140_12, sk_149, al_149, sn_149, ald_n, ro0_n, al_ro, SX2_weighOthers_0, SX2_weighOthers_1, SX2_weighOthers_2, SX2_weighOthers_3, shqRIRI_, shqRIII_, shqRIR_, spX9_findStop, spX9_runsBy, spX9_weigh, spX2_timeOf, mrg, mrl, mSet_ap, ncast, Option.some.injEq, set_over1]
      (try simp only [mrg, mrl] at *) <;> repeat' (first | (with_reducible assumption) | (with_reducible apply And.intro) | intro _)
      all_goals first | omega | exact ⟨8, by omega, 0, rfl, by omega, rfl, ⟨fun i _ h140 _ => set_ne h140, fun p hp => set_nq hp, by rw [set_eq, show j = 9 by omega]⟩, fun h h0 h1 => by omega⟩ | (have := hBj () (by omega); omega) | (have := hBj () (by omega); rw [hmod () (by omega) (by omega)]; omega) | exact ⟨20 + (9 - (j + 1)), by omega, j + 1, rfl, by omega, rfl, congrArg (mSet I 140 14) (k0 () (by omega) (by omega))⟩ | exact ⟨20 + (9 - (j + 1)), by omega, j + 1, rfl, by omega, rfl, congrArg (mSet I 140 14) (k1 () (by omega) (by omega) (by omega))⟩ | skip
    · skip
      rw [sfxX2_weighOthers_59]
      obtain ⟨rfl, j, rfl, hj, hm, hF, hW⟩ := hc
      rcases Nat.lt_or_ge j (t (13 + b)).toNat with z | z
      · have hh1 : hitB t b j := ⟨by omega, by omega⟩
        have h8 := H.h8 hh1.1 hh1.2
        have lh := H.lh hh1.1 hh1.2
        have st8 := (steps_spec H.1 H.2.1 h8).1
        have ha := H.1.air H.2.1 h8
        have wf0 := wg_facts H.1 (I 141) (-1) H.2.1 h8
        have wf := wg_facts H.1 (I 141) (ctS t (I 141) b j) H.2.1 h8
        have e123 := lh.2.2.1
        have HC : ctxU I1 t b := ctxU_of (fun i hi => hF.1 i (by omega) (by omega) (by omega)) H
        have e141 := hF.1 141 (by decide) (by decide) (by decide)
        have e120 := hF.1 120 (by decide) (by decide) (by decide)
        have e123' := hF.1 123 (by decide) (by decide) (by decide)
        have eK : stopT (I 141) (pcT t) (cellT t b j) (tickT t b j) (airT t b j) (stepsT t b j) (-1) = spS t (I 141) b j (-1) := rfl
        have eW : whoT (I 141) (pcT t) (cellT t b j) (tickT t b j) (spS t (I 141) b j (-1)) (-1) = woS t (I 141) b j (-1) := rfl
        clear h
        simp only [false_and, and_false, true_or, or_true, false_or, or_false, true_and, and_true, true_implies, false_implies, implies_true, not_true_eq_false, not_false_eq_true, and_self, List.length_cons, List.length_nil, mNoCut_, mCat_n, mCat_I, mCat_L, mCat_R, mIsL_n, mIsL_I, mIsL_R, mIsL_L, Nat.reduceAdd, Nat.reduceSub, Nat.reduceLeDiff, Nat.reduceLT, Nat.reduceEqDiff, Nat.zero_le, Int.reduceEq, Int.reduceLT, Int.reduceLE, Int.reduceNeg, Int.reduceAdd, if_true, if_false, reduceIte, reduceCtorEq, Bool.false_eq_true, ne_eq, qCmp_0, qCmp_1, qCmp_2, qCmp_3, qCmp_4, qCmp_5, ib_0, ib_1, ib_2, lb_0, lb_1, lb_2, dv_0, dv_1, wq_ic, wq_ld_i, wq_ld_a, wq_st_i, wq_iinc, wq_ib, wq_idv, wq_icmp, wq_goto, wq_get, mGet_0, mGet_1, mGet_2, mGet_3, wq_putI, wq_putL, wq_ald, wq_astI, wq_astL, wq_dupI, wq_dupR, dup_I, dup_R, wq_ret0, wq_ret1, wq_ret2, wq_ret3, wq_ret4, ldR0, mrg_0_, fk_2_14, stI1, ldI1, mrg_9_, fk_2_4, mrg_m1_, mrg_17_, mrg_8_, mrg_1_, wqinc1, fk_2_2, fk_0_0, fk_2_3, wq_callV4_0, fk_2_8, fk_9_5, fk_9_6, wq_callV3_0, fk_2_5, fk_9_3, fk_2_7, fk_9_4, fk_2_6, fk_0_5, fk_2_9, fk_2_10, fk_2_11, fk_2_12, fk_9_7, mPut_s, mPut_I0, mPut_R0, mPut_L0, mPut_I1, mPut_R1, mPut_L1, mGo_n, sfxX2_weighOthers_7, cutX2_weighOthers_7, sfxX2_weighOthers_46, cutX2_weighOthers_46, sfxX2_weighOthers_47, cutX2_weighOthers_47, sfxX2_weighOthers_57, cutX2_weighOthers_57, sfxX2_weighOthers_59, cutX2_weighOthers_59, sfxX2_weighOthers_246, cutX2_weighOthers_246, wq_cut, mGo_c, mMask_t, mMask_f, mMask_n, kX2_weighOthers_246, kX2_weighOthers_59, kX2_weighOthers_57, kX2_weighOthers_47, kX2_weighOthers_46, kX2_weighOthers_7, kX2_weighOthers_0, sk_120, al_120, rf_120_5, sk_123, al_123, sn_123, sk_130, al_130, sk_140, al_140, rf_140_4, sk_141, al_141, sn_141, rf_140_2, rf_140_3, rf_140_8, sk_145, al_145, sn_145, rf_140_5, sk_142, al_142, sn_142, rf_140_7, sk_144, al_144, sn_144, rf_140_6, sk_143, al_143, sn_143, rf_140_9, sk_146, al_146, sn_146, rf_140_10, sk_147, al_147, sn_147, rf_140_11, sk_148, al_148, sn_148, rf_140_12, sk_149, al_149, sn_149, ald_n, ro0_n, al_ro, SX2_weighOthers_0, SX2_weighOthers_1, SX2_weighOthers_2, SX2_weighOthers_3, shqRIRI_, shqRIII_, shqRIR_, spX9_findStop, spX9_runsBy, spX9_weigh, spX2_timeOf, mrg, mrl, mSet_ap, ncast, Option.some.injEq, e141, e120, e123', e123, e0, uM_a5, uM_a6, uM_ne, fr_ne, Option.getD_some]
        refine ⟨⟨⟨by omega, by omega⟩, by omega, by omega⟩, fun q => by omega, fun _ => ⟨Or.inr (Or.inr rfl), hB, t, b, HC, hh1, ?_⟩⟩
        rw [eK, eW]
        refine ⟨⟨wf0.1.1, wf0.1.2⟩, t, b, by rw [ctxU_u]; exact HC, hh1, wf0.2.2.1, ⟨by omega, by omega⟩, ?_⟩
        rw [wf0.2.2.2]
        have HM : ctxU (mSet (uM I1 (woS t (I 141) b j (-1)) (spS t (I 141) b j (-1))) 145 j (rnS t (I 141) b j (-1))) t b := by
          rw [ctxU_set (by decide), ctxU_u]
          exact HC
        have M141 : mSet (uM I1 (woS t (I 141) b j (-1)) (spS t (I 141) b j (-1))) 145 j (rnS t (I 141) b j (-1)) 141 = I 141 := by
          rw [set_ne (by decide), uM_ne _ _ _ (by decide)]
          exact e141
        have Mne : ∀ i, i ≠ 130 → i ≠ 145 → mSet (uM I1 (woS t (I 141) b j (-1)) (spS t (I 141) b j (-1))) 145 j (rnS t (I 141) b j (-1)) i = I1 i := fun i i0 i1 => by rw [set_ne i1, uM_ne _ _ _ i0]
        have M145 : mSet (uM I1 (woS t (I 141) b j (-1)) (spS t (I 141) b j (-1))) 145 j (rnS t (I 141) b j (-1)) 145 j = rnS t (I 141) b j (-1) := set_eq
        have M145n : ∀ q : Int, q ≠ j → mSet (uM I1 (woS t (I 141) b j (-1)) (spS t (I 141) b j (-1))) 145 j (rnS t (I 141) b j (-1)) 145 q = I1 145 q := fun q hq => by rw [set_nq hq, uM_ne _ _ _ (by decide)]
        generalize mSet (uM I1 (woS t (I 141) b j (-1)) (spS t (I 141) b j (-1))) 145 j (rnS t (I 141) b j (-1)) = M at *
        rw [M141]
        refine ⟨h8, Or.inr (Or.inr rfl), hB, t, b, HM, hh1, fun J j3 j4 j5 j6 j7 j8 => ?_⟩
        have ct := catcherT_bd (I 141) (pcT t) (cellT t b j) (tickT t b j) (airT t b j) (stepsT t b j)
        have HC2 : ctxU (fr 130 130 J M) t b := by
          rw [ctxU_fr (by decide)]
          exact HM
        simp only [fr_130, j3, j4, j5, j6, j7]
        have hBc : ctS t (I 141) b j ≠ -1 → (1 ≤ airT t b j ∧ airT t b j ≤ stepsT t b j) ∧ 0 ≤ I 141 (ctS t (I 141) b j) ∧ I 141 (ctS t (I 141) b j) < 289 := fun z => by
          have c1 := ct.2.2 z
          have c2 : -1 ≤ ctS t (I 141) b j ∧ ctS t (I 141) b j < 9 := ⟨ct.1, ct.2.1⟩
          have c3 := hB (ctS t (I 141) b j) (by omega) (by omega)
          have c4 : I 141 (ctS t (I 141) b j) ≠ -1 := c1.2
          exact ⟨c1.1, by omega, by omega⟩
        have hBw : woS t (I 141) b j (ctS t (I 141) b j) ≠ -1 → (1 ≤ spS t (I 141) b j (ctS t (I 141) b j) ∧ spS t (I 141) b j (ctS t (I 141) b j) ≤ stepsT t b j) ∧ 0 ≤ I 141 (woS t (I 141) b j (ctS t (I 141) b j)) ∧ I 141 (woS t (I 141) b j (ctS t (I 141) b j)) < 289 := fun z => by
          have c3 := hB (woS t (I 141) b j (ctS t (I 141) b j)) (by omega) (by omega)
          have c4 := wo_at z
          exact ⟨wf.2.2.1 z, by omega, by omega⟩
        refine ⟨h8, h8, h8, ⟨ct.1, ct.2.1⟩, ⟨by omega, by omega⟩, t, b, ?_, hh1, hBc, h8, h8, h8, wf.1, ⟨by omega, by omega⟩, t, b, ?_, hh1, hBw, h8, ?_⟩
        · rw [ctxU_set (by decide), ctxU_set (by decide)]
          exact HC2
        · rw [ctxU_set (by decide), ctxU_set (by decide), ctxU_set (by decide), ctxU_set (by decide), ctxU_set (by decide)]
          exact HC2
        · refine ⟨h8, 8 - (j + 1), by omega, j + 1, rfl, by omega, rfl, ⟨fun i i1 i2 i3 => ?_, fun p hp => ?_, ?_⟩, fun h' k0 k1 => ?_⟩
          · rw [set_ne (by omega), set_ne (by omega), set_ne (by omega), set_ne (by omega), set_ne (by omega), set_ne (by omega), set_ne (by omega), fr_ne (by omega), Mne i i1 (by omega)]
            exact hF.1 i i1 i2 i3
          · rw [set_ne (by decide), set_ne (by decide), set_ne (by decide), set_ne (by decide), set_ne (by decide), set_ne (by decide), set_ne (by decide), fr_ne (by decide), Mne 140 (by decide) (by decide)]
            exact hF.2.1 p hp
          · rw [set_ne (by decide), set_ne (by decide), set_ne (by decide), set_ne (by decide), set_ne (by decide), set_ne (by decide), set_ne (by decide), fr_ne (by decide), Mne 140 (by decide) (by decide)]
            exact hF.2.2
          · by_cases q : h' = j
            · subst q
              exact ⟨by rw [set_ne (by decide), set_ne (by decide), set_ne (by decide), set_ne (by decide), set_ne (by decide), set_ne (by decide), set_eq], by rw [set_ne (by decide), set_ne (by decide), set_ne (by decide), set_ne (by decide), set_eq], by rw [set_ne (by decide), set_ne (by decide), set_ne (by decide), set_ne (by decide), set_ne (by decide), set_eq], by rw [set_ne (by decide), set_ne (by decide), set_ne (by decide), set_ne (by decide), set_ne (by decide), set_ne (by decide), set_ne (by decide), fr_ne (by decide)]; exact M145, by rw [set_ne (by decide), set_ne (by decide), set_ne (by decide), set_eq], by rw [set_ne (by decide), set_ne (by decide), set_eq], by rw [set_ne (by decide), set_eq], set_eq⟩
            · refine Wd_of (I := I1) (fun i i0 i1 => ?_) (hW h' k0 (by omega))
              rw [set_nj q, set_nj q, set_nj q, set_nj q, set_nj q, set_nj q, set_nj q, fr_ne (by omega)]
              by_cases e : i = 145
              · rw [e]
                exact M145n h' q
              · rw [Mne i (by omega) e]
      · have hfin := h I1 hF (fun h' q => hW h' q.1 (by have := q.2; omega))
        have e120 := hF.1 120 (by decide) (by decide) (by decide)
        clear h hW
        simp only [false_and, and_false, true_or, or_true, false_or, or_false, true_and, and_true, true_implies, false_implies, implies_true, not_true_eq_false, not_false_eq_true, and_self, List.length_cons, List.length_nil, mNoCut_, mCat_n, mCat_I, mCat_L, mCat_R, mIsL_n, mIsL_I, mIsL_R, mIsL_L, Nat.reduceAdd, Nat.reduceSub, Nat.reduceLeDiff, Nat.reduceLT, Nat.reduceEqDiff, Nat.zero_le, Int.reduceEq, Int.reduceLT, Int.reduceLE, Int.reduceNeg, Int.reduceAdd, if_true, if_false, reduceIte, reduceCtorEq, Bool.false_eq_true, ne_eq, qCmp_0, qCmp_1, qCmp_2, qCmp_3, qCmp_4, qCmp_5, ib_0, ib_1, ib_2, lb_0, lb_1, lb_2, dv_0, dv_1, wq_ic, wq_ld_i, wq_ld_a, wq_st_i, wq_iinc, wq_ib, wq_idv, wq_icmp, wq_goto, wq_get, mGet_0, mGet_1, mGet_2, mGet_3, wq_putI, wq_putL, wq_ald, wq_astI, wq_astL, wq_dupI, wq_dupR, dup_I, dup_R, wq_ret0, wq_ret1, wq_ret2, wq_ret3, wq_ret4, ldR0, mrg_0_, fk_2_14, stI1, ldI1, mrg_9_, fk_2_4, mrg_m1_, mrg_17_, mrg_8_, mrg_1_, wqinc1, fk_2_2, fk_0_0, fk_2_3, wq_callV4_0, fk_2_8, fk_9_5, fk_9_6, wq_callV3_0, fk_2_5, fk_9_3, fk_2_7, fk_9_4, fk_2_6, fk_0_5, fk_2_9, fk_2_10, fk_2_11, fk_2_12, fk_9_7, mPut_s, mPut_I0, mPut_R0, mPut_L0, mPut_I1, mPut_R1, mPut_L1, mGo_n, sfxX2_weighOthers_7, cutX2_weighOthers_7, sfxX2_weighOthers_46, cutX2_weighOthers_46, sfxX2_weighOthers_47, cutX2_weighOthers_47, sfxX2_weighOthers_57, cutX2_weighOthers_57, sfxX2_weighOthers_59, cutX2_weighOthers_59, sfxX2_weighOthers_246, cutX2_weighOthers_246, wq_cut, mGo_c, mMask_t, mMask_f, mMask_n, kX2_weighOthers_246, kX2_weighOthers_59, kX2_weighOthers_57, kX2_weighOthers_47, kX2_weighOthers_46, kX2_weighOthers_7, kX2_weighOthers_0, sk_120, al_120, rf_120_5, sk_123, al_123, sn_123, sk_130, al_130, sk_140, al_140, rf_140_4, sk_141, al_141, sn_141, rf_140_2, rf_140_3, rf_140_8, sk_145, al_145, sn_145, rf_140_5, sk_142, al_142, sn_142, rf_140_7, sk_144, al_144, sn_144, rf_140_6, sk_143, al_143, sn_143, rf_140_9, sk_146, al_146, sn_146, rf_140_10, sk_147, al_147, sn_147, rf_140_11, sk_148, al_148, sn_148, rf_140_12, sk_149, al_149, sn_149, ald_n, ro0_n, al_ro, SX2_weighOthers_0, SX2_weighOthers_1, SX2_weighOthers_2, SX2_weighOthers_3, shqRIRI_, shqRIII_, shqRIR_, spX9_findStop, spX9_runsBy, spX9_weigh, spX2_timeOf, mrg, mrl, mSet_ap, ncast, Option.some.injEq, e120, e0]
        (try simp only [mrg, mrl] at *) <;> repeat' (first | (with_reducible assumption) | (with_reducible apply And.intro) | intro _)
        all_goals first | omega | exact hfin | skip
  · show mWp _ _ _ _ _ _ kX2_weighOthers_0 [some (mR (some 140)), none] [] I
    clear h
    simp only [false_and, and_false, true_or, or_true, false_or, or_false, true_and, and_true, true_implies, false_implies, implies_true, not_true_eq_false, not_false_eq_true, and_self, List.length_cons, List.length_nil, mNoCut_, mCat_n, mCat_I, mCat_L, mCat_R, mIsL_n, mIsL_I, mIsL_R, mIsL_L, Nat.reduceAdd, Nat.reduceSub, Nat.reduceLeDiff, Nat.reduceLT, Nat.reduceEqDiff, Nat.zero_le, Int.reduceEq, Int.reduceLT, Int.reduceLE, Int.reduceNeg, Int.reduceAdd, if_true, if_false, reduceIte, reduceCtorEq, Bool.false_eq_true, ne_eq, qCmp_0, qCmp_1, qCmp_2, qCmp_3, qCmp_4, qCmp_5, ib_0, ib_1, ib_2, lb_0, lb_1, lb_2, dv_0, dv_1, wq_ic, wq_ld_i, wq_ld_a, wq_st_i, wq_iinc, wq_ib, wq_idv, wq_icmp, wq_goto, wq_get, mGet_0, mGet_1, mGet_2, mGet_3, wq_putI, wq_putL, wq_ald, wq_astI, wq_astL, wq_dupI, wq_dupR, dup_I, dup_R, wq_ret0, wq_ret1, wq_ret2, wq_ret3, wq_ret4, ldR0, mrg_0_, fk_2_14, stI1, ldI1, mrg_9_, fk_2_4, mrg_m1_, mrg_17_, mrg_8_, mrg_1_, wqinc1, fk_2_2, fk_0_0, fk_2_3, wq_callV4_0, fk_2_8, fk_9_5, fk_9_6, wq_callV3_0, fk_2_5, fk_9_3, fk_2_7, fk_9_4, fk_2_6, fk_0_5, fk_2_9, fk_2_10, fk_2_11, fk_2_12, fk_9_7, mPut_s, mPut_I0, mPut_R0, mPut_L0, mPut_I1, mPut_R1, mPut_L1, mGo_n, sfxX2_weighOthers_7, cutX2_weighOthers_7, sfxX2_weighOthers_46, cutX2_weighOthers_46, sfxX2_weighOthers_47, cutX2_weighOthers_47, sfxX2_weighOthers_57, cutX2_weighOthers_57, sfxX2_weighOthers_59, cutX2_weighOthers_59, sfxX2_weighOthers_246, cutX2_weighOthers_246, wq_cut, mGo_c, mMask_t, mMask_f, mMask_n, kX2_weighOthers_246, kX2_weighOthers_59, kX2_weighOthers_57, kX2_weighOthers_47, kX2_weighOthers_46, kX2_weighOthers_7, kX2_weighOthers_0, sk_120, al_120, rf_120_5, sk_123, al_123, sn_123, sk_130, al_130, sk_140, al_140, rf_140_4, sk_141, al_141, sn_141, rf_140_2, rf_140_3, rf_140_8, sk_145, al_145, sn_145, rf_140_5, sk_142, al_142, sn_142, rf_140_7, sk_144, al_144, sn_144, rf_140_6, sk_143, al_143, sn_143, rf_140_9, sk_146, al_146, sn_146, rf_140_10, sk_147, al_147, sn_147, rf_140_11, sk_148, al_148, sn_148, rf_140_12, sk_149, al_149, sn_149, ald_n, ro0_n, al_ro, SX2_weighOthers_0, SX2_weighOthers_1, SX2_weighOthers_2, SX2_weighOthers_3, shqRIRI_, shqRIII_, shqRIR_, spX9_findStop, spX9_runsBy, spX9_weigh, spX2_timeOf, mrg, mrl, mSet_ap, ncast, Option.some.injEq]
    exact ⟨29, 0, rfl, by omega, rfl, rfl⟩
theorem ctrX2_weighOthers {l : Launch} (hst : l.stackTraces = false) (hT : mTxM l) : mCtr l calX2_weighOthers spX2_weighOthers :=
  mMet (T := TX2_weighOthers) (S := SX2_weighOthers) hst hT cutX2_weighOthers (by decide) okX2_weighOthers ⟨_, _, rfl, rfl⟩ trivial (fun t bs h => by rcases cutsX2_weighOthers h with ⟨-, rfl⟩ | ⟨-, rfl⟩ <;> rfl) (fun a => match a with
    | 0 => ctrX9_findStop hst hT
    | 1 => ctrX9_runsBy hst hT
    | 2 => ctrX9_weigh hst hT
    | 3 => ctrX2_timeOf hst hT
    | _ + 4 => mCtr_no) vcX2_weighOthers

end SPC25
