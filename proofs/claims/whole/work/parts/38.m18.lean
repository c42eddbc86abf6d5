section SPM18
def seenN (t : Int → Int) (b : Int) : Nat → Int
  | 0 => 0
  | n + 1 => seenN t b n + rawT t b n 4
def seenT (t : Int → Int) (b : Int) : Int := seenN t b (t (13 + b)).toNat
theorem seenN_bd {t : Int → Int} (H : WFt t) {b : Int} (hb : 0 ≤ b ∧ b < 6) : ∀ n : Nat, n ≤ 8 → 0 ≤ seenN t b n ∧ seenN t b n ≤ 9999 * n
  | 0, _ => by simp [seenN]
  | n + 1, hn => by
    have h1 := seenN_bd H hb n (by omega)
    have h2 := (H.raw hb (h := n) ⟨by omega, by omega⟩).2.2.2.2
    simp only [seenN]
    omega
theorem seenT_bd {t : Int → Int} (H : WFt t) {b : Int} (hb : 0 ≤ b ∧ b < 6) : 0 ≤ seenT t b ∧ seenT t b ≤ 79992 := by
  have hn := H.2.1 b hb.1 hb.2
  have h := seenN_bd H hb (t (13 + b)).toNat (by omega)
  unfold seenT
  omega
def spX11_seenOf : mSp := shRI (fun _ i b I Q => i = some 200 ∧ (0 ≤ I 201 (13 + b) ∧ I 201 (13 + b) ≤ 8) ∧ (0 ≤ b ∧ b < 6) ∧ Q (.inl (some (mI (seenT (I 201) b)))) I)
def SX11_seenOf : Nat → mSp := fun a => match a with
  | 0 => spX11_raw
  | _ => fun _ _ _ _ => False
theorem SX11_seenOf_0 : SX11_seenOf 0 = spX11_raw := Eq.trans rfl rfl
theorem cutsX11_seenOf {t : Nat} {bs : List Bool} (h : cutX11_seenOf t = some bs) : (t = 4 ∧ bs = [true, true, true, true]) := by
  unfold cutX11_seenOf at h
  simp only [mLk] at h
  by_cases h0 : 4 = t
  · subst h0
    simp at h
    exact ⟨rfl, h.symm⟩
  rw [if_neg h0] at h
  cases h
set_option maxRecDepth 100000 in
set_option maxHeartbeats 1000000 in
theorem vcX11_seenOf (fl : Nat → Bool) (avs : List mV) (I : mM) (Q : mO → mM → Prop) (hsp : spX11_seenOf fl avs I Q) : mVC SX11_seenOf fl Q kX11_seenOf cutX11_seenOf 4 avs I := by
  obtain ⟨i, b, rfl, h0⟩ := shRI_inv hsp
  obtain ⟨rfl, hn, hb, h⟩ := h0
  refine ⟨rfl, (fun m t lv st I1 => I1 = I ∧ st = [] ∧ ∃ (v : Int) (j : Nat), lv = [some (mR (some 200)), some (mI b), some (mI v), some (mI j)] ∧ v = seenN (I 201) b j ∧ j ≤ (I 201 (13 + b)).toNat ∧ m = 8 - j), ?_, ?_⟩
  · intro n t bs hbs lv st I1 hc
    rcases cutsX11_seenOf hbs with ⟨rfl, rfl⟩
    rw [sfxX11_seenOf_4]
    obtain ⟨rfl, rfl, v, j, rfl, ev, hj, hm⟩ := hc
    simp only [false_and, and_false, true_or, or_true, false_or, or_false, true_and, and_true, true_implies, false_implies, implies_true, not_true_eq_false, not_false_eq_true, and_self, List.length_cons, List.length_nil, mNoCut_, mCat_n, mCat_I, mCat_L, mCat_R, mIsL_n, mIsL_I, mIsL_R, mIsL_L, Nat.reduceAdd, Nat.reduceSub, Nat.reduceLeDiff, Nat.reduceLT, Nat.reduceEqDiff, Nat.zero_le, Int.reduceEq, Int.reduceLT, Int.reduceLE, Int.reduceNeg, Int.reduceAdd, if_true, if_false, reduceIte, reduceCtorEq, Bool.false_eq_true, ne_eq, qCmp_0, qCmp_1, qCmp_2, qCmp_3, qCmp_4, qCmp_5, ib_0, ib_1, ib_2, lb_0, lb_1, lb_2, dv_0, dv_1, wq_ic, wq_ld_i, wq_ld_a, wq_st_i, wq_iinc, wq_ib, wq_icmp, wq_goto, wq_get, mGet_0, mGet_1, mGet_2, mGet_3, wq_ald, wq_ret0, wq_ret1, wq_ret2, wq_ret3, wq_ret4, mrg_0_, stI2, stI3, ldI3, ldR0, fk_11_0, mrg_13_, ldI1, ldI2, mrg_4_, wq_callV4_0, wqinc3, mPut_s, mPut_I0, mPut_R0, mPut_L0, mPut_I1, mPut_R1, mPut_L1, mGo_n, sfxX11_seenOf_4, cutX11_seenOf_4, sfxX11_seenOf_33, cutX11_seenOf_33, wq_cut, mGo_c, mMask_t, mMask_f, mMask_n, kX11_seenOf_33, kX11_seenOf_4, kX11_seenOf_0, sk_200, al_200, rf_200_0, sk_201, al_201, sn_201, ald_n, ro0_n, al_ro, SX11_seenOf_0, shqRIII_, spX11_raw, mrg, mrl, mSet_ap, ncast, Option.some.injEq]
    refine ⟨⟨by omega, by omega⟩, ⟨⟨by omega, by omega⟩, by omega, by omega⟩, fun z => ?_, fun z => ?_⟩
    · have : j = (I1 201 (13 + b)).toNat := by omega
      subst this
      exact q_I ev.symm h
    · exact ⟨hb, ⟨by omega, by omega⟩, _, by omega, _, j + 1, rfl, by rw [ev]; rfl, by omega, rfl⟩
  · show mWp _ _ _ _ _ _ kX11_seenOf_0 [some (mR (some 200)), some (mI b), none, none] [] I
    simp only [false_and, and_false, true_or, or_true, false_or, or_false, true_and, and_true, true_implies, false_implies, implies_true, not_true_eq_false, not_false_eq_true, and_self, List.length_cons, List.length_nil, mNoCut_, mCat_n, mCat_I, mCat_L, mCat_R, mIsL_n, mIsL_I, mIsL_R, mIsL_L, Nat.reduceAdd, Nat.reduceSub, Nat.reduceLeDiff, Nat.reduceLT, Nat.reduceEqDiff, Nat.zero_le, Int.reduceEq, Int.reduceLT, Int.reduceLE, Int.reduceNeg, Int.reduceAdd, if_true, if_false, reduceIte, reduceCtorEq, Bool.false_eq_true, ne_eq, qCmp_0, qCmp_1, qCmp_2, qCmp_3, qCmp_4, qCmp_5, ib_0, ib_1, ib_2, lb_0, lb_1, lb_2, dv_0, dv_1, wq_ic, wq_ld_i, wq_ld_a, wq_st_i, wq_iinc, wq_ib, wq_icmp, wq_goto, wq_get, mGet_0, mGet_1, mGet_2, mGet_3, wq_ald, wq_ret0, wq_ret1, wq_ret2, wq_ret3, wq_ret4, mrg_0_, stI2, stI3, ldI3, ldR0, fk_11_0, mrg_13_, ldI1, ldI2, mrg_4_, wq_callV4_0, wqinc3, mPut_s, mPut_I0, mPut_R0, mPut_L0, mPut_I1, mPut_R1, mPut_L1, mGo_n, sfxX11_seenOf_4, cutX11_seenOf_4, sfxX11_seenOf_33, cutX11_seenOf_33, wq_cut, mGo_c, mMask_t, mMask_f, mMask_n, kX11_seenOf_33, kX11_seenOf_4, kX11_seenOf_0, sk_200, al_200, rf_200_0, sk_201, al_201, sn_201, ald_n, ro0_n, al_ro, SX11_seenOf_0, shqRIII_, spX11_raw, mrg, mrl, mSet_ap, ncast, Option.some.injEq]
    exact ⟨8, 0, 0, rfl, rfl, by omega, rfl⟩
theorem ctrX11_seenOf {l : Launch} (hst : l.stackTraces = false) (hT : mTxM l) : mCtr l calX11_seenOf spX11_seenOf :=
  mMet (T := TX11_seenOf) (S := SX11_seenOf) hst hT cutX11_seenOf (by decide) okX11_seenOf ⟨_, _, rfl, rfl⟩ trivial (fun t bs h => by rcases cutsX11_seenOf h with ⟨-, rfl⟩ <;> rfl) (fun a => match a with
    | 0 => ctrX11_raw hst hT
    | _ + 1 => mCtr_no) vcX11_seenOf

def spX11_book : mSp := shRIII (fun _ i b h m I Q => i = some 200 ∧ WFt (I 201) ∧ mrg b ∧ mrg h ∧ mrg m ∧ (¬ hitP (I 201) b h → Q (.inl (some (mI 0))) (mSet I 200 3 1)) ∧ (hitP (I 201) b h → ¬ (0 ≤ m ∧ m ≤ 9999) → Q (.inl (some (mI 0))) (mSet I 200 3 2)) ∧ (hitP (I 201) b h → (0 ≤ m ∧ m ≤ 9999) → Q (.inl (some (mI (min 9999 (rawT (I 201) b h 4 + m))))) (mSet (mSet I 200 3 0) 201 (310 + 5 * (8 * b + h) + 4) (min 9999 (rawT (I 201) b h 4 + m)))))
def SX11_book : Nat → mSp := fun a => match a with
  | 0 => spX11_isHit
  | 1 => spX11_fails
  | 2 => spX11_within
  | _ => fun _ _ _ _ => False
theorem SX11_book_0 : SX11_book 0 = spX11_isHit := Eq.trans rfl rfl
theorem SX11_book_1 : SX11_book 1 = spX11_fails := Eq.trans rfl rfl
theorem SX11_book_2 : SX11_book 2 = spX11_within := Eq.trans rfl rfl
set_option maxRecDepth 100000 in
set_option maxHeartbeats 1000000 in
theorem vcX11_book (fl : Nat → Bool) (avs : List mV) (I : mM) (Q : mO → mM → Prop) (hsp : spX11_book fl avs I Q) : mVC0 SX11_book fl Q kX11_book 5 avs I := by
  obtain ⟨i, b, hh, m, rfl, h0⟩ := shRIII_inv hsp
  refine ⟨rfl, ?_⟩
  show mWp _ _ _ _ _ _ kX11_book_0 [some (mR i), some (mI b), some (mI hh), some (mI m), none] [] I
  obtain ⟨rfl, H, hb, hh1, hm, h1, h2, h3⟩ := h0
  have hn := fun hb : 0 ≤ b ∧ b < 6 => H.2.1 b hb.1 hb.2
  have hr := fun z : hitP (I 201) b hh => (H.raw (b := b) (h := hh) ⟨z.1, z.2.1⟩ (by omega)).2.2.2.2
  have er : I 201 (310 + 5 * (8 * b + hh) + 4) = rawT (I 201) b hh 4 := rfl
  simp only [false_and, and_false, true_or, or_true, false_or, or_false, true_and, and_true, true_implies, false_implies, implies_true, not_true_eq_false, not_false_eq_true, and_self, List.length_cons, List.length_nil, mNoCut_, mCat_n, mCat_I, mCat_L, mCat_R, mIsL_n, mIsL_I, mIsL_R, mIsL_L, Nat.reduceAdd, Nat.reduceSub, Nat.reduceLeDiff, Nat.reduceLT, Nat.reduceEqDiff, Nat.zero_le, Int.reduceEq, Int.reduceLT, Int.reduceLE, Int.reduceNeg, Int.reduceAdd, if_true, if_false, reduceIte, reduceCtorEq, Bool.false_eq_true, ne_eq, qCmp_0, qCmp_1, qCmp_2, qCmp_3, qCmp_4, qCmp_5, ib_0, ib_1, ib_2, lb_0, lb_1, lb_2, dv_0, dv_1, wq_ic, wq_lc, wq_ld_i, wq_ld_a, wq_st_i, wq_ib, wq_i2l, wq_if, wq_get, mGet_0, mGet_1, mGet_2, mGet_3, wq_putI, wq_putL, wq_ald, wq_astI, wq_astL, wq_ret0, wq_ret1, wq_ret2, wq_ret3, wq_ret4, wq_max, wq_min, wq_abs, wq_lmax, ldR0, mrg_0_, fk_11_3, ldI1, ldI2, wq_callV3_0, mrg_1_, wq_callV2_0, ldI3, wq_callS3_1, mrg_2_, mrg_310_, mrg_5_, mrg_8_, mrg_4_, stI4, fk_11_0, ldI4, mrg_9999_, mPut_s, mPut_I0, mPut_R0, mPut_L0, mPut_I1, mPut_R1, mPut_L1, mGo_n, sfxX11_book_20, cutX11_book_20, sfxX11_book_38, cutX11_book_38, kX11_book_38, kX11_book_20, kX11_book_0, sk_200, al_200, rf_200_0, sk_201, al_201, sn_201, ald_n, ro0_n, al_ro, SX11_book_0, SX11_book_1, SX11_book_2, shqRII_, shqRI_, shqLLL_, spX11_isHit, spX11_fails, spX11_within, mrg, mrl, mSet_ap, ncast, Option.some.injEq, set_201, set_over1, er]
  (try simp only [mrg, mrl] at *) <;> repeat' (first | (with_reducible assumption) | (with_reducible apply And.intro) | intro _)
  all_goals first | omega | assumption | exact h1 (by omega) | exact h2 (by omega) (by omega) | exact h3 (by omega) (by omega) | skip
theorem ctrX11_book {l : Launch} (hst : l.stackTraces = false) (hT : mTxM l) : mCtr l calX11_book spX11_book :=
  mMet0 (T := TX11_book) (S := SX11_book) hst hT (by decide) okX11_book ⟨_, _, rfl, rfl⟩ (fun a => match a with
    | 0 => ctrX11_isHit hst hT
    | 1 => ctrX11_fails hst hT
    | 2 => ctrX11_within hst hT
    | _ + 3 => mCtr_no) vcX11_book

def learnN (t : Int → Int) (b j : Int) : Int → Int := fun q => if 310 + 40 * b ≤ q ∧ q < 310 + 40 * b + 5 * j ∧ q % 5 = 3 then min 99 (max 1 (t (q + 1))) else t q
theorem learnN_seen (t : Int → Int) (b j : Int) (h : Int) : rawT (learnN t b j) b h 4 = rawT t b h 4 := if_neg (by omega)
theorem learn_seenN (t : Int → Int) (b j : Int) : ∀ n : Nat, seenN (learnN t b j) b n = seenN t b n
  | 0 => rfl
  | n + 1 => by
    simp only [seenN]
    rw [learn_seenN t b j n, learnN_seen]
theorem learn_hits (t : Int → Int) {b : Int} (j : Int) {c : Int} (hb : 0 ≤ b) (hc : c < 6) : learnN t b j (13 + c) = t (13 + c) := if_neg (by omega)
theorem learn_seenT (t : Int → Int) {b : Int} (j : Int) (hb : ballP b) : seenT (learnN t b j) b = seenT t b := by
  unfold seenT
  rw [learn_hits t j hb.1 hb.2]
  exact learn_seenN t b j _
def spX11_learn : mSp := shRI (fun _ i b I Q => i = some 200 ∧ WFt (I 201) ∧ mrg b ∧ (¬ ballP b → Q (.inl (some (mI 0))) (mSet I 200 3 1)) ∧ (ballP b → Q (.inl (some (mI (seenT (I 201) b)))) (rowM (mSet I 200 3 0) (learnN (I 201) b (I 201 (13 + b))))))
def SX11_learn : Nat → mSp := fun a => match a with
  | 0 => spX11_isBall
  | 1 => spX11_fails
  | 2 => spX11_raw
  | 3 => spX11_seenOf
  | _ => fun _ _ _ _ => False
theorem SX11_learn_0 : SX11_learn 0 = spX11_isBall := Eq.trans rfl rfl
theorem SX11_learn_1 : SX11_learn 1 = spX11_fails := Eq.trans rfl rfl
theorem SX11_learn_2 : SX11_learn 2 = spX11_raw := Eq.trans rfl rfl
theorem SX11_learn_3 : SX11_learn 3 = spX11_seenOf := Eq.trans rfl rfl
theorem cutsX11_learn {t : Nat} {bs : List Bool} (h : cutX11_learn t = some bs) : (t = 20 ∧ bs = [true, true, true]) := by
  unfold cutX11_learn at h
  simp only [mLk] at h
  by_cases h0 : 20 = t
  · subst h0
    simp at h
    exact ⟨rfl, h.symm⟩
  rw [if_neg h0] at h
  cases h
set_option maxRecDepth 100000 in
set_option maxHeartbeats 1000000 in
theorem vcX11_learn (fl : Nat → Bool) (avs : List mV) (I : mM) (Q : mO → mM → Prop) (hsp : spX11_learn fl avs I Q) : mVC SX11_learn fl Q kX11_learn cutX11_learn 3 avs I := by
  obtain ⟨i, b, rfl, h0⟩ := shRI_inv hsp
  obtain ⟨rfl, H, hb, h1, h2⟩ := h0
  refine ⟨rfl, (fun m t lv st I1 => st = [] ∧ ballP b ∧ ∃ (j : Nat), I1 = rowM (mSet I 200 3 0) (learnN (I 201) b j) ∧ lv = [some (mR (some 200)), some (mI b), some (mI j)] ∧ j ≤ (I 201 (13 + b)).toNat ∧ m = 8 - j), ?_, ?_⟩
  · intro n t bs hbs lv st I1 hc
    rcases cutsX11_learn hbs with ⟨rfl, rfl⟩
    rw [sfxX11_learn_20]
    obtain ⟨rfl, kb, j, rfl, rfl, hj, hm⟩ := hc
    have hn := H.2.1 b kb.1 kb.2
    have hr := fun z : j < 8 => (H.raw (b := b) (h := j) kb ⟨by omega, by omega⟩).2.2.2.2
    have eh := learn_hits (I 201) (j : Int) kb.1 kb.2
    have es := learnN_seen (I 201) b j j
    have et := learn_seenT (I 201) (j : Int) kb
    have em : mSet (rowM (mSet I 200 3 0) (learnN (I 201) b j)) 201 (310 + 5 * (8 * b + j) + 3) (min 99 (max 1 (rawT (I 201) b j 4))) = rowM (mSet I 200 3 0) (learnN (I 201) b ((j + 1 : Nat) : Int)) := by
      funext k q
      simp only [mSet, rowM, learnN]
      by_cases hk : k = 201
      · simp only [hk, if_true, true_and]
        by_cases hq : q = 310 + 5 * (8 * b + j) + 3
        · rw [if_pos hq, if_pos (by omega), hq]
          unfold rawT
          rw [show 310 + 5 * (8 * b + (j : Int)) + 4 = 310 + 5 * (8 * b + (j : Int)) + 3 + 1 by omega]
        · rw [if_neg hq]
          by_cases h3 : 310 + 40 * b ≤ q ∧ q < 310 + 40 * b + 5 * (j : Int) ∧ q % 5 = 3
          · rw [if_pos h3, if_pos (by omega)]
          · rw [if_neg h3, if_neg (by omega)]
      · simp [hk]
    simp only [false_and, and_false, true_or, or_true, false_or, or_false, true_and, and_true, true_implies, false_implies, implies_true, not_true_eq_false, not_false_eq_true, and_self, List.length_cons, List.length_nil, mNoCut_, mCat_n, mCat_I, mCat_L, mCat_R, mIsL_n, mIsL_I, mIsL_R, mIsL_L, Nat.reduceAdd, Nat.reduceSub, Nat.reduceLeDiff, Nat.reduceLT, Nat.reduceEqDiff, Nat.zero_le, Int.reduceEq, Int.reduceLT, Int.reduceLE, Int.reduceNeg, Int.reduceAdd, if_true, if_false, reduceIte, reduceCtorEq, Bool.false_eq_true, ne_eq, qCmp_0, qCmp_1, qCmp_2, qCmp_3, qCmp_4, qCmp_5, ib_0, ib_1, ib_2, lb_0, lb_1, lb_2, dv_0, dv_1, wq_ic, wq_ld_i, wq_ld_a, wq_st_i, wq_iinc, wq_ib, wq_icmp, wq_if, wq_goto, wq_get, mGet_0, mGet_1, mGet_2, mGet_3, wq_putI, wq_putL, wq_ald, wq_astI, wq_astL, wq_ret0, wq_ret1, wq_ret2, wq_ret3, wq_ret4, wq_max, wq_min, wq_abs, wq_lmax, ldR0, mrg_0_, fk_11_3, ldI1, wq_callS1_1, mrg_1_, wq_callV2_0, stI2, ldI2, fk_11_0, mrg_13_, mrg_310_, mrg_5_, mrg_8_, mrg_3_, mrg_99_, mrg_4_, wq_callV4_0, wqinc2, mPut_s, mPut_I0, mPut_R0, mPut_L0, mPut_I1, mPut_R1, mPut_L1, mGo_n, sfxX11_learn_18, cutX11_learn_18, sfxX11_learn_20, cutX11_learn_20, sfxX11_learn_74, cutX11_learn_74, wq_cut, mGo_c, mMask_t, mMask_f, mMask_n, kX11_learn_74, kX11_learn_20, kX11_learn_18, kX11_learn_0, sk_200, al_200, rf_200_0, sk_201, al_201, sn_201, ald_n, ro0_n, al_ro, SX11_learn_0, SX11_learn_1, SX11_learn_2, SX11_learn_3, shqI_, shqRI_, shqRIII_, spX11_isBall, spX11_fails, spX11_raw, spX11_seenOf, mrg, mrl, mSet_ap, ncast, Option.some.injEq, rowM_201, eh, es, em]
    (try simp only [mrg, mrl] at *) <;> repeat' (first | (with_reducible assumption) | (with_reducible apply And.intro) | intro _)
    all_goals first | omega | assumption | (have e : j = (I 201 (13 + b)).toNat := by omega); rw [et]; (have e2 : (j : Int) = I 201 (13 + b) := by omega); rw [e2]; exact h2 kb | exact ⟨8 - (j + 1), by omega, kb, j + 1, rfl, rfl, by omega, rfl⟩ | skip
  · show mWp _ _ _ _ _ _ kX11_learn_0 [some (mR (some 200)), some (mI b), none] [] I
    have e0 : mSet I 200 3 0 = rowM (mSet I 200 3 0) (learnN (I 201) b (0 : Nat)) := by
      have e := rowM_self (mSet I 200 3 0)
      rw [set_201] at e
      refine e.symm.trans ?_
      congr 1
      funext q
      simp only [learnN]
      rw [if_neg (by omega)]
    have hn := fun hb : 0 ≤ b ∧ b < 6 => H.2.1 b hb.1 hb.2
    simp only [false_and, and_false, true_or, or_true, false_or, or_false, true_and, and_true, true_implies, false_implies, implies_true, not_true_eq_false, not_false_eq_true, and_self, List.length_cons, List.length_nil, mNoCut_, mCat_n, mCat_I, mCat_L, mCat_R, mIsL_n, mIsL_I, mIsL_R, mIsL_L, Nat.reduceAdd, Nat.reduceSub, Nat.reduceLeDiff, Nat.reduceLT, Nat.reduceEqDiff, Nat.zero_le, Int.reduceEq, Int.reduceLT, Int.reduceLE, Int.reduceNeg, Int.reduceAdd, if_true, if_false, reduceIte, reduceCtorEq, Bool.false_eq_true, ne_eq, qCmp_0, qCmp_1, qCmp_2, qCmp_3, qCmp_4, qCmp_5, ib_0, ib_1, ib_2, lb_0, lb_1, lb_2, dv_0, dv_1, wq_ic, wq_ld_i, wq_ld_a, wq_st_i, wq_iinc, wq_ib, wq_icmp, wq_if, wq_goto, wq_get, mGet_0, mGet_1, mGet_2, mGet_3, wq_putI, wq_putL, wq_ald, wq_astI, wq_astL, wq_ret0, wq_ret1, wq_ret2, wq_ret3, wq_ret4, wq_max, wq_min, wq_abs, wq_lmax, ldR0, mrg_0_, fk_11_3, ldI1, wq_callS1_1, mrg_1_, wq_callV2_0, stI2, ldI2, fk_11_0, mrg_13_, mrg_310_, mrg_5_, mrg_8_, mrg_3_, mrg_99_, mrg_4_, wq_callV4_0, wqinc2, mPut_s, mPut_I0, mPut_R0, mPut_L0, mPut_I1, mPut_R1, mPut_L1, mGo_n, sfxX11_learn_18, cutX11_learn_18, sfxX11_learn_20, cutX11_learn_20, sfxX11_learn_74, cutX11_learn_74, wq_cut, mGo_c, mMask_t, mMask_f, mMask_n, kX11_learn_74, kX11_learn_20, kX11_learn_18, kX11_learn_0, sk_200, al_200, rf_200_0, sk_201, al_201, sn_201, ald_n, ro0_n, al_ro, SX11_learn_0, SX11_learn_1, SX11_learn_2, SX11_learn_3, shqI_, shqRI_, shqRIII_, spX11_isBall, spX11_fails, spX11_raw, spX11_seenOf, mrg, mrl, mSet_ap, ncast, Option.some.injEq, set_201, set_over1]
    (try simp only [mrg, mrl] at *) <;> repeat' (first | (with_reducible assumption) | (with_reducible apply And.intro) | intro _)
    all_goals first | omega | assumption | exact h1 (by omega) | exact ⟨8, by omega, 0, e0, rfl, by omega, rfl⟩ | skip
theorem ctrX11_learn {l : Launch} (hst : l.stackTraces = false) (hT : mTxM l) : mCtr l calX11_learn spX11_learn :=
  mMet (T := TX11_learn) (S := SX11_learn) hst hT cutX11_learn (by decide) okX11_learn ⟨_, _, rfl, rfl⟩ trivial (fun t bs h => by rcases cutsX11_learn h with ⟨-, rfl⟩ <;> rfl) (fun a => match a with
    | 0 => ctrX11_isBall hst hT
    | 1 => ctrX11_fails hst hT
    | 2 => ctrX11_raw hst hT
    | 3 => ctrX11_seenOf hst hT
    | _ + 4 => mCtr_no) vcX11_learn

def rootN (n : Int) : Nat → Int
  | 0 => 0
  | k + 1 => if ((k + 1 : Nat) : Int) * ((k + 1 : Nat) : Int) ≤ n then ((k + 1 : Nat) : Int) else rootN n k
def rootT (n : Int) : Int := rootN n 1100
abbrev isqP (n r : Int) : Prop := 0 ≤ r ∧ r * r ≤ n ∧ n < (r + 1) * (r + 1)
theorem sq_mono {x y : Int} (hx : 0 ≤ x) (h : x ≤ y) : x * x ≤ y * y := Int.mul_le_mul h h hx (by omega)
theorem rootN_sp {n : Int} (h0 : 0 ≤ n) : ∀ k : Nat, n < ((k : Int) + 1) * ((k : Int) + 1) → isqP n (rootN n k)
  | 0, h => ⟨by simp [rootN], by simpa [rootN] using h0, by simpa [rootN] using h⟩
  | k + 1, h => by
    simp only [rootN]
    split
    · rename_i z
      exact ⟨by omega, z, h⟩
    · rename_i z
      have e : ((k + 1 : Nat) : Int) = (k : Int) + 1 := by omega
      rw [e] at z
      exact rootN_sp h0 k (by omega)
theorem isq_un {n r s : Int} (hr : isqP n r) (hs : isqP n s) : r = s := by
  rcases Int.lt_trichotomy r s with h | h | h
  · have := sq_mono (x := r + 1) (y := s) (by omega) (by omega)
    omega
  · exact h
  · have := sq_mono (x := s + 1) (y := r) (by omega) (by omega)
    omega
theorem rootT_sp {n : Int} (h0 : 0 ≤ n) (h1 : n ≤ 1000000) : isqP n (rootT n) := rootN_sp h0 1100 (by omega)
theorem rootT_bd {n : Int} (h0 : 0 ≤ n) (h1 : n ≤ 1000000) : 0 ≤ rootT n ∧ rootT n ≤ 1000 := by
  have h := rootT_sp h0 h1
  refine ⟨h.1, ?_⟩
  rcases Int.lt_or_le 1000 (rootT n) with q | q
  · have := sq_mono (x := 1001) (y := rootT n) (by omega) (by omega)
    omega
  · exact q
def spX11_roughly : mSp := shI (fun _ n I Q => (0 ≤ n ∧ n ≤ 1000000) ∧ Q (.inl (some (mI (1 + rootT n)))) I)
def SX11_roughly : Nat → mSp := fun a => match a with
  | _ => fun _ _ _ _ => False
theorem cutsX11_roughly {t : Nat} {bs : List Bool} (h : cutX11_roughly t = some bs) : (t = 6 ∧ bs = [true, true, true, false]) := by
  unfold cutX11_roughly at h
  simp only [mLk] at h
  by_cases h0 : 6 = t
  · subst h0
    simp at h
    exact ⟨rfl, h.symm⟩
  rw [if_neg h0] at h
  cases h
set_option maxRecDepth 100000 in
set_option maxHeartbeats 1000000 in
theorem vcX11_roughly (fl : Nat → Bool) (avs : List mV) (I : mM) (Q : mO → mM → Prop) (hsp : spX11_roughly fl avs I Q) : mVC SX11_roughly fl Q kX11_roughly cutX11_roughly 4 avs I := by
  obtain ⟨v, rfl, h0⟩ := shI_inv hsp
  obtain ⟨hn, h⟩ := h0
  refine ⟨rfl, (fun m t lv st I1 => st = [] ∧ I1 = I ∧ ∃ (lo hi : Int), lv = [some (mI v), some (mI lo), some (mI hi), none] ∧ (0 ≤ lo ∧ lo ≤ hi ∧ hi ≤ 1100) ∧ lo * lo ≤ v ∧ v < (hi + 1) * (hi + 1) ∧ m = (hi - lo).toNat), ?_, ?_⟩
  · intro n t bs hbs lv st I1 hc
    rcases cutsX11_roughly hbs with ⟨rfl, rfl⟩
    rw [sfxX11_roughly_6]
    obtain ⟨rfl, rfl, lo, hi, rfl, hb, hl, hh, hm⟩ := hc
    have hd : (lo + hi + 1).tdiv 2 = (lo + hi + 1) / 2 := Int.tdiv_eq_ediv_of_nonneg (by omega)
    have hq := fun z : lo < hi => prod_bd (x := (lo + hi + 1) / 2) (y := (lo + hi + 1) / 2) (a := 1100) (b := 1100) ⟨by omega, by omega⟩ ⟨by omega, by omega⟩
    simp only [false_and, and_false, true_or, or_true, false_or, or_false, true_and, and_true, true_implies, false_implies, implies_true, not_true_eq_false, not_false_eq_true, and_self, List.length_cons, List.length_nil, mNoCut_, mCat_n, mCat_I, mCat_L, mCat_R, mIsL_n, mIsL_I, mIsL_R, mIsL_L, Nat.reduceAdd, Nat.reduceSub, Nat.reduceLeDiff, Nat.reduceLT, Nat.reduceEqDiff, Nat.zero_le, Int.reduceEq, Int.reduceLT, Int.reduceLE, Int.reduceNeg, Int.reduceAdd, if_true, if_false, reduceIte, reduceCtorEq, Bool.false_eq_true, ne_eq, qCmp_0, qCmp_1, qCmp_2, qCmp_3, qCmp_4, qCmp_5, ib_0, ib_1, ib_2, lb_0, lb_1, lb_2, dv_0, dv_1, wq_ic, wq_ld_i, wq_st_i, wq_ib, wq_idv, wq_icmp, wq_goto, wq_ret0, wq_ret1, wq_ret2, wq_ret3, wq_ret4, mrg_0_, stI1, mrg_1100_, stI2, ldI1, ldI2, mrg_1_, mrg_2_, stI3, ldI3, ldI0, mPut_s, mPut_I0, mPut_R0, mPut_L0, mPut_I1, mPut_R1, mPut_L1, mGo_n, sfxX11_roughly_6, cutX11_roughly_6, sfxX11_roughly_31, cutX11_roughly_31, sfxX11_roughly_35, cutX11_roughly_35, sfxX11_roughly_38, cutX11_roughly_38, wq_cut, mGo_c, mMask_t, mMask_f, mMask_n, kX11_roughly_38, kX11_roughly_35, kX11_roughly_31, kX11_roughly_6, kX11_roughly_0, mrg, mrl, mSet_ap, ncast, Option.some.injEq, hd]
    (try simp only [mrg, mrl] at *) <;> repeat' (first | (with_reducible assumption) | (with_reducible apply And.intro) | intro _)
    all_goals first | omega | exact q_I (by (have e : lo = hi := by omega); subst e; rw [isq_un (rootT_sp hn.1 hn.2) ⟨hb.1, hl, hh⟩]) h | exact ⟨_, (by omega), _, _, rfl, ⟨by omega, by omega, by omega⟩, (by first | assumption | omega), (by rw [show (lo + hi + 1) / 2 - 1 + 1 = (lo + hi + 1) / 2 by omega]; omega), rfl⟩ | exact ⟨_, (by omega), _, _, rfl, ⟨by omega, by omega, by omega⟩, (by first | assumption | omega), (by first | assumption | omega), rfl⟩ | skip
  · show mWp _ _ _ _ _ _ kX11_roughly_0 [some (mI v), none, none, none] [] I
    simp only [false_and, and_false, true_or, or_true, false_or, or_false, true_and, and_true, true_implies, false_implies, implies_true, not_true_eq_false, not_false_eq_true, and_self, List.length_cons, List.length_nil, mNoCut_, mCat_n, mCat_I, mCat_L, mCat_R, mIsL_n, mIsL_I, mIsL_R, mIsL_L, Nat.reduceAdd, Nat.reduceSub, Nat.reduceLeDiff, Nat.reduceLT, Nat.reduceEqDiff, Nat.zero_le, Int.reduceEq, Int.reduceLT, Int.reduceLE, Int.reduceNeg, Int.reduceAdd, if_true, if_false, reduceIte, reduceCtorEq, Bool.false_eq_true, ne_eq, qCmp_0, qCmp_1, qCmp_2, qCmp_3, qCmp_4, qCmp_5, ib_0, ib_1, ib_2, lb_0, lb_1, lb_2, dv_0, dv_1, wq_ic, wq_ld_i, wq_st_i, wq_ib, wq_idv, wq_icmp, wq_goto, wq_ret0, wq_ret1, wq_ret2, wq_ret3, wq_ret4, mrg_0_, stI1, mrg_1100_, stI2, ldI1, ldI2, mrg_1_, mrg_2_, stI3, ldI3, ldI0, mPut_s, mPut_I0, mPut_R0, mPut_L0, mPut_I1, mPut_R1, mPut_L1, mGo_n, sfxX11_roughly_6, cutX11_roughly_6, sfxX11_roughly_31, cutX11_roughly_31, sfxX11_roughly_35, cutX11_roughly_35, sfxX11_roughly_38, cutX11_roughly_38, wq_cut, mGo_c, mMask_t, mMask_f, mMask_n, kX11_roughly_38, kX11_roughly_35, kX11_roughly_31, kX11_roughly_6, kX11_roughly_0, mrg, mrl, mSet_ap, ncast, Option.some.injEq]
    exact ⟨_, 0, 1100, rfl, ⟨by omega, by omega, by omega⟩, by omega, by omega, rfl⟩
theorem ctrX11_roughly {l : Launch} (hst : l.stackTraces = false) (hT : mTxM l) : mCtr l calX11_roughly spX11_roughly :=
  mMet (T := TX11_roughly) (S := SX11_roughly) hst hT cutX11_roughly (by decide) okX11_roughly ⟨_, _, rfl, rfl⟩ trivial (fun t bs h => by rcases cutsX11_roughly h with ⟨-, rfl⟩ <;> rfl) (fun a => mCtr_no) vcX11_roughly

def endT (t : Int → Int) (b h m : Int) : Int := if m = 0 then max 0 (rawT t b h 4 - (1 + rootT (rawT t b h 4))) else min (seenT t b) (rawT t b h 4 + (1 + rootT (rawT t b h 4)))
def spX11_ends : mSp := shRIII (fun _ i b h m I Q => i = some 200 ∧ WFt (I 201) ∧ mrg b ∧ mrg h ∧ mrg m ∧ (¬ hitP (I 201) b h → Q (.inl (some (mI 0))) (mSet I 200 3 1)) ∧ (hitP (I 201) b h → seenT (I 201) b = 0 → Q (.inl (some (mI 0))) (mSet (mSet (mSet I 200 3 0) 200 16 0) 200 17 0)) ∧ (hitP (I 201) b h → ¬ seenT (I 201) b = 0 → Q (.inl (some (mI 1))) (mSet (mSet (mSet I 200 3 0) 200 16 (upT (endT (I 201) b h m) (seenT (I 201) b))) 200 17 (loT (endT (I 201) b h m) (seenT (I 201) b)))))
def SX11_ends : Nat → mSp := fun a => match a with
  | 0 => spX11_isHit
  | 1 => spX11_seenOf
  | 2 => spX11_raw
  | 3 => spX11_roughly
  | 4 => spX11_takes
  | _ => fun _ _ _ _ => False
theorem SX11_ends_0 : SX11_ends 0 = spX11_isHit := Eq.trans rfl rfl
theorem SX11_ends_1 : SX11_ends 1 = spX11_seenOf := Eq.trans rfl rfl
theorem SX11_ends_2 : SX11_ends 2 = spX11_raw := Eq.trans rfl rfl
theorem SX11_ends_3 : SX11_ends 3 = spX11_roughly := Eq.trans rfl rfl
theorem SX11_ends_4 : SX11_ends 4 = spX11_takes := Eq.trans rfl rfl
set_option maxRecDepth 100000 in
set_option maxHeartbeats 1000000 in
theorem vcX11_ends (fl : Nat → Bool) (avs : List mV) (I : mM) (Q : mO → mM → Prop) (hsp : spX11_ends fl avs I Q) : mVC0 SX11_ends fl Q kX11_ends 6 avs I := by
  obtain ⟨i, b, hh, m, rfl, h0⟩ := shRIII_inv hsp
  refine ⟨rfl, ?_⟩
  show mWp _ _ _ _ _ _ kX11_ends_0 [some (mR i), some (mI b), some (mI hh), some (mI m), none, none] [] I
  obtain ⟨rfl, H, hb, hh1, hm, h1, h2, h3⟩ := h0
  have hn := fun hb : 0 ≤ b ∧ b < 6 => H.2.1 b hb.1 hb.2
  have hr := fun z : hitP (I 201) b hh => (H.raw (b := b) (h := hh) ⟨z.1, z.2.1⟩ (by omega)).2.2.2.2
  have sb := fun z : hitP (I 201) b hh => seenT_bd H (b := b) ⟨z.1, z.2.1⟩
  have rt := fun z : hitP (I 201) b hh => rootT_bd (n := rawT (I 201) b hh 4) (by have := hr z; omega) (by have := hr z; omega)
  have h4 : hitP (I 201) b hh → ¬ seenT (I 201) b = 0 → m = 0 → Q (.inl (some (mI 1))) (mSet (mSet (mSet I 200 3 0) 200 16 (upT (max 0 (rawT (I 201) b hh 4 - (1 + rootT (rawT (I 201) b hh 4)))) (seenT (I 201) b))) 200 17 (loT (max 0 (rawT (I 201) b hh 4 - (1 + rootT (rawT (I 201) b hh 4)))) (seenT (I 201) b))) := fun z1 z2 z3 => by
    have h := h3 z1 z2
    unfold endT at h
    rw [if_pos z3] at h
    exact h
  have h5 : hitP (I 201) b hh → ¬ seenT (I 201) b = 0 → ¬ m = 0 → Q (.inl (some (mI 1))) (mSet (mSet (mSet I 200 3 0) 200 16 (upT (min (seenT (I 201) b) (rawT (I 201) b hh 4 + (1 + rootT (rawT (I 201) b hh 4)))) (seenT (I 201) b))) 200 17 (loT (min (seenT (I 201) b) (rawT (I 201) b hh 4 + (1 + rootT (rawT (I 201) b hh 4)))) (seenT (I 201) b))) := fun z1 z2 z3 => by
    have h := h3 z1 z2
    unfold endT at h
    rw [if_neg z3] at h
    exact h
  simp only [false_and, and_false, true_or, or_true, false_or, or_false, true_and, and_true, true_implies, false_implies, implies_true, not_true_eq_false, not_false_eq_true, and_self, List.length_cons, List.length_nil, mNoCut_, mCat_n, mCat_I, mCat_L, mCat_R, mIsL_n, mIsL_I, mIsL_R, mIsL_L, Nat.reduceAdd, Nat.reduceSub, Nat.reduceLeDiff, Nat.reduceLT, Nat.reduceEqDiff, Nat.zero_le, Int.reduceEq, Int.reduceLT, Int.reduceLE, Int.reduceNeg, Int.reduceAdd, if_true, if_false, reduceIte, reduceCtorEq, Bool.false_eq_true, ne_eq, qCmp_0, qCmp_1, qCmp_2, qCmp_3, qCmp_4, qCmp_5, ib_0, ib_1, ib_2, lb_0, lb_1, lb_2, dv_0, dv_1, wq_ic, wq_ld_i, wq_ld_a, wq_st_i, wq_ib, wq_i2l, wq_if, wq_goto, wq_get, mGet_0, mGet_1, mGet_2, mGet_3, wq_putI, wq_putL, wq_ret0, wq_ret1, wq_ret2, wq_ret3, wq_ret4, wq_max, wq_min, wq_abs, wq_lmax, ldR0, ldI1, ldI2, wq_callV3_0, mrg_0_, mrg_1_, fk_11_3, wq_callV2_0, stI4, mrg_4_, wq_callV4_0, stI5, ldI3, ldI4, ldI5, wq_callS1_1, mPut_s, mPut_I0, mPut_R0, mPut_L0, mPut_I1, mPut_R1, mPut_L1, mGo_n, sfxX11_ends_14, cutX11_ends_14, sfxX11_ends_15, cutX11_ends_15, sfxX11_ends_27, cutX11_ends_27, sfxX11_ends_65, cutX11_ends_65, sfxX11_ends_78, cutX11_ends_78, kX11_ends_78, kX11_ends_65, kX11_ends_27, kX11_ends_15, kX11_ends_14, kX11_ends_0, sk_200, al_200, SX11_ends_0, SX11_ends_1, SX11_ends_2, SX11_ends_3, SX11_ends_4, shqRII_, shqRI_, shqRIII_, shqI_, shqRLL_, spX11_isHit, spX11_seenOf, spX11_raw, spX11_roughly, spX11_takes, mrg, mrl, mSet_ap, ncast, Option.some.injEq, set_201, set_over1]
  (try simp only [mrg, mrl] at *) <;> repeat' (first | (with_reducible assumption) | (with_reducible apply And.intro) | intro _)
  all_goals first | omega | assumption | exact h1 (by omega) | exact h2 (by omega) (by omega) | exact h4 (by omega) (by omega) (by omega) | exact h5 (by omega) (by omega) (by omega) | skip
theorem ctrX11_ends {l : Launch} (hst : l.stackTraces = false) (hT : mTxM l) : mCtr l calX11_ends spX11_ends :=
  mMet0 (T := TX11_ends) (S := SX11_ends) hst hT (by decide) okX11_ends ⟨_, _, rfl, rfl⟩ (fun a => match a with
    | 0 => ctrX11_isHit hst hT
    | 1 => ctrX11_seenOf hst hT
    | 2 => ctrX11_raw hst hT
    | 3 => ctrX11_roughly hst hT
    | 4 => ctrX11_takes hst hT
    | _ + 5 => mCtr_no) vcX11_ends

def enoughGo (t : Int → Int) (b h w : Int) : Nat → Int → Int
  | 0, _ => -1
  | m + 1, k => if 200 * (1 + rootT (k * rawT t b h 4)) ≤ w * k * seenT t b then k else enoughGo t b h w m (k + 1)
def enoughT (t : Int → Int) (b h w : Int) : Int := if seenT t b = 0 then -1 else enoughGo t b h w 100 1
def spX11_enough : mSp := shRIII (fun _ i b h w I Q => i = some 200 ∧ WFt (I 201) ∧ mrg b ∧ mrg h ∧ mrg w ∧ (¬ hitP (I 201) b h → Q (.inl (some (mI 0))) (mSet I 200 3 1)) ∧ (hitP (I 201) b h → ¬ (1 ≤ w ∧ w ≤ 100) → Q (.inl (some (mI 0))) (mSet I 200 3 2)) ∧ (hitP (I 201) b h → (1 ≤ w ∧ w ≤ 100) → Q (.inl (some (mI (enoughT (I 201) b h w)))) (mSet I 200 3 0)))
def SX11_enough : Nat → mSp := fun a => match a with
  | 0 => spX11_isHit
  | 1 => spX11_fails
  | 2 => spX11_within
  | 3 => spX11_seenOf
  | 4 => spX11_raw
  | 5 => spX11_roughly
  | _ => fun _ _ _ _ => False
theorem SX11_enough_0 : SX11_enough 0 = spX11_isHit := Eq.trans rfl rfl
theorem SX11_enough_1 : SX11_enough 1 = spX11_fails := Eq.trans rfl rfl
theorem SX11_enough_2 : SX11_enough 2 = spX11_within := Eq.trans rfl rfl
theorem SX11_enough_3 : SX11_enough 3 = spX11_seenOf := Eq.trans rfl rfl
theorem SX11_enough_4 : SX11_enough 4 = spX11_raw := Eq.trans rfl rfl
theorem SX11_enough_5 : SX11_enough 5 = spX11_roughly := Eq.trans rfl rfl
theorem cutsX11_enough {t : Nat} {bs : List Bool} (h : cutX11_enough t = some bs) : (t = 48 ∧ bs = [true, true, true, true, true, true]) := by
  unfold cutX11_enough at h
  simp only [mLk] at h
  by_cases h0 : 48 = t
  · subst h0
    simp at h
    exact ⟨rfl, h.symm⟩
  rw [if_neg h0] at h
  cases h
set_option maxRecDepth 100000 in
set_option maxHeartbeats 1000000 in
theorem vcX11_enough (fl : Nat → Bool) (avs : List mV) (I : mM) (Q : mO → mM → Prop) (hsp : spX11_enough fl avs I Q) : mVC SX11_enough fl Q kX11_enough cutX11_enough 6 avs I := by
  obtain ⟨i, b, hh, w, rfl, h0⟩ := shRIII_inv hsp
  obtain ⟨rfl, H, hb, hh1, hw, h1, h2, h3⟩ := h0
  have hn := fun hb : 0 ≤ b ∧ b < 6 => H.2.1 b hb.1 hb.2
  refine ⟨rfl, (fun m t lv st I1 => st = [] ∧ I1 = mSet I 200 3 0 ∧ ∃ (k : Int), lv = [some (mR (some 200)), some (mI b), some (mI hh), some (mI w), some (mI (seenT (I 201) b)), some (mI k)] ∧ hitP (I 201) b hh ∧ (1 ≤ w ∧ w ≤ 100) ∧ (1 ≤ k ∧ k ≤ 101) ∧ m = (101 - k).toNat ∧ enoughT (I 201) b hh w = if seenT (I 201) b = 0 then -1 else enoughGo (I 201) b hh w (101 - k).toNat k), ?_, ?_⟩
  · intro n t bs hbs lv st I1 hc
    rcases cutsX11_enough hbs with ⟨rfl, rfl⟩
    rw [sfxX11_enough_48]
    obtain ⟨rfl, rfl, k, rfl, hP, kw, kk, hm, he⟩ := hc
    have hn := hn ⟨hP.1, hP.2.1⟩
    have hr := (H.raw (b := b) (h := hh) ⟨hP.1, hP.2.1⟩ (by omega)).2.2.2.2
    have sb := seenT_bd H (b := b) ⟨hP.1, hP.2.1⟩
    have p1 := fun z : k ≤ 100 => prod_bd (x := k) (a := 100) ⟨by omega, z⟩ hr
    have rt := fun z : k ≤ 100 => rootT_bd (n := k * rawT (I 201) b hh 4) (by have := p1 z; omega) (by have := p1 z; omega)
    have p2 := fun z : k ≤ 100 => prod_bd (x := w) (a := 100) (y := k) (b := 100) ⟨by omega, by omega⟩ ⟨by omega, z⟩
    have p3 := fun z : k ≤ 100 => prod_bd (x := w * k) (a := 10000) (p2 z) sb
    have gs : k ≤ 100 → enoughGo (I 201) b hh w (101 - k).toNat k = if 200 * (1 + rootT (k * rawT (I 201) b hh 4)) ≤ w * k * seenT (I 201) b then k else enoughGo (I 201) b hh w (101 - (k + 1)).toNat (k + 1) := fun z => by
      rw [show (101 - k).toNat = (101 - (k + 1)).toNat + 1 by omega]
      rfl
    simp only [false_and, and_false, true_or, or_true, false_or, or_false, true_and, and_true, true_implies, false_implies, implies_true, not_true_eq_false, not_false_eq_true, and_self, List.length_cons, List.length_nil, mNoCut_, mCat_n, mCat_I, mCat_L, mCat_R, mIsL_n, mIsL_I, mIsL_R, mIsL_L, Nat.reduceAdd, Nat.reduceSub, Nat.reduceLeDiff, Nat.reduceLT, Nat.reduceEqDiff, Nat.zero_le, Int.reduceEq, Int.reduceLT, Int.reduceLE, Int.reduceNeg, Int.reduceAdd, if_true, if_false, reduceIte, reduceCtorEq, Bool.false_eq_true, ne_eq, qCmp_0, qCmp_1, qCmp_2, qCmp_3, qCmp_4, qCmp_5, ib_0, ib_1, ib_2, lb_0, lb_1, lb_2, dv_0, dv_1, wq_ic, wq_lc, wq_ld_i, wq_ld_a, wq_st_i, wq_iinc, wq_ib, wq_lb, wq_i2l, wq_icmp, wq_if, wq_lcmp, wq_goto, wq_putI, wq_putL, wq_ret0, wq_ret1, wq_ret2, wq_ret3, wq_ret4, ldR0, mrg_0_, fk_11_3, ldI1, ldI2, wq_callV3_0, mrg_1_, wq_callV2_0, ldI3, wq_callS3_1, mrg_2_, stI4, stI5, ldI5, mrg_100_, ldI4, mrg_4_, wq_callV4_0, wq_callS1_1, wqinc5, mrg_m1_, mPut_s, mPut_I0, mPut_R0, mPut_L0, mPut_I1, mPut_R1, mPut_L1, mGo_n, sfxX11_enough_20, cutX11_enough_20, sfxX11_enough_38, cutX11_enough_38, sfxX11_enough_48, cutX11_enough_48, sfxX11_enough_95, cutX11_enough_95, sfxX11_enough_101, cutX11_enough_101, wq_cut, mGo_c, mMask_t, mMask_f, mMask_n, kX11_enough_101, kX11_enough_95, kX11_enough_48, kX11_enough_38, kX11_enough_20, kX11_enough_0, sk_200, al_200, SX11_enough_0, SX11_enough_1, SX11_enough_2, SX11_enough_3, SX11_enough_4, SX11_enough_5, shqRII_, shqRI_, shqLLL_, shqRIII_, shqI_, spX11_isHit, spX11_fails, spX11_within, spX11_seenOf, spX11_raw, spX11_roughly, mrg, mrl, mSet_ap, ncast, Option.some.injEq, set_201]
    (try simp only [mrg, mrl] at *) <;> repeat' (first | (with_reducible assumption) | (with_reducible apply And.intro) | intro _)
    all_goals first | omega | assumption | exact ⟨_, (by omega), _, rfl, hP, kw, ⟨by omega, by omega⟩, rfl, by rw [he, if_neg (by omega), if_neg (by omega), gs (by omega), if_neg (by omega)]⟩ | (have e2 := h3 hP kw; rw [he, if_neg (by omega), gs (by omega), if_pos (by omega)] at e2; exact e2) | (have e2 := h3 hP kw; rw [he, show (101 - k).toNat = 0 by omega] at e2; exact q_I (by split <;> rfl) e2) | (have e2 := h3 hP kw; rw [he, if_pos (by omega)] at e2; exact e2) | skip
  · show mWp _ _ _ _ _ _ kX11_enough_0 [some (mR (some 200)), some (mI b), some (mI hh), some (mI w), none, none] [] I
    simp only [false_and, and_false, true_or, or_true, false_or, or_false, true_and, and_true, true_implies, false_implies, implies_true, not_true_eq_false, not_false_eq_true, and_self, List.length_cons, List.length_nil, mNoCut_, mCat_n, mCat_I, mCat_L, mCat_R, mIsL_n, mIsL_I, mIsL_R, mIsL_L, Nat.reduceAdd, Nat.reduceSub, Nat.reduceLeDiff, Nat.reduceLT, Nat.reduceEqDiff, Nat.zero_le, Int.reduceEq, Int.reduceLT, Int.reduceLE, Int.reduceNeg, Int.reduceAdd, if_true, if_false, reduceIte, reduceCtorEq, Bool.false_eq_true, ne_eq, qCmp_0, qCmp_1, qCmp_2, qCmp_3, qCmp_4, qCmp_5, ib_0, ib_1, ib_2, lb_0, lb_1, lb_2, dv_0, dv_1, wq_ic, wq_lc, wq_ld_i, wq_ld_a, wq_st_i, wq_iinc, wq_ib, wq_lb, wq_i2l, wq_icmp, wq_if, wq_lcmp, wq_goto, wq_putI, wq_putL, wq_ret0, wq_ret1, wq_ret2, wq_ret3, wq_ret4, ldR0, mrg_0_, fk_11_3, ldI1, ldI2, wq_callV3_0, mrg_1_, wq_callV2_0, ldI3, wq_callS3_1, mrg_2_, stI4, stI5, ldI5, mrg_100_, ldI4, mrg_4_, wq_callV4_0, wq_callS1_1, wqinc5, mrg_m1_, mPut_s, mPut_I0, mPut_R0, mPut_L0, mPut_I1, mPut_R1, mPut_L1, mGo_n, sfxX11_enough_20, cutX11_enough_20, sfxX11_enough_38, cutX11_enough_38, sfxX11_enough_48, cutX11_enough_48, sfxX11_enough_95, cutX11_enough_95, sfxX11_enough_101, cutX11_enough_101, wq_cut, mGo_c, mMask_t, mMask_f, mMask_n, kX11_enough_101, kX11_enough_95, kX11_enough_48, kX11_enough_38, kX11_enough_20, kX11_enough_0, sk_200, al_200, SX11_enough_0, SX11_enough_1, SX11_enough_2, SX11_enough_3, SX11_enough_4, SX11_enough_5, shqRII_, shqRI_, shqLLL_, shqRIII_, shqI_, spX11_isHit, spX11_fails, spX11_within, spX11_seenOf, spX11_raw, spX11_roughly, mrg, mrl, mSet_ap, ncast, Option.some.injEq, set_201, set_over1]
    (try simp only [mrg, mrl] at *) <;> repeat' (first | (with_reducible assumption) | (with_reducible apply And.intro) | intro _)
    all_goals first | omega | assumption | exact h1 (by omega) | exact h2 (by omega) (by omega) | exact ⟨_, 1, rfl, by omega, by omega, by omega, rfl, rfl⟩ | skip
theorem ctrX11_enough {l : Launch} (hst : l.stackTraces = false) (hT : mTxM l) : mCtr l calX11_enough spX11_enough :=
  mMet (T := TX11_enough) (S := SX11_enough) hst hT cutX11_enough (by decide) okX11_enough ⟨_, _, rfl, rfl⟩ trivial (fun t bs h => by rcases cutsX11_enough h with ⟨-, rfl⟩ <;> rfl) (fun a => match a with
    | 0 => ctrX11_isHit hst hT
    | 1 => ctrX11_fails hst hT
    | 2 => ctrX11_within hst hT
    | 3 => ctrX11_seenOf hst hT
    | 4 => ctrX11_raw hst hT
    | 5 => ctrX11_roughly hst hT
    | _ + 6 => mCtr_no) vcX11_enough

def spX11_chase : mSp := shRI (fun _ i n I Q => i = some 200 ∧ WFt (I 201) ∧ (n = 0 ∨ n = 1) ∧ Q (.inl (some (mI (I 201 8)))) (mSet (mSet I 200 3 0) 201 8 n))
def SX11_chase : Nat → mSp := fun a => match a with
  | _ => fun _ _ _ _ => False
set_option maxRecDepth 100000 in
set_option maxHeartbeats 1000000 in
theorem vcX11_chase (fl : Nat → Bool) (avs : List mV) (I : mM) (Q : mO → mM → Prop) (hsp : spX11_chase fl avs I Q) : mVC0 SX11_chase fl Q kX11_chase 3 avs I := by
  obtain ⟨i, n, rfl, h0⟩ := shRI_inv hsp
  refine ⟨rfl, ?_⟩
  show mWp _ _ _ _ _ _ kX11_chase_0 [some (mR i), some (mI n), none] [] I
  obtain ⟨rfl, H, hn, h⟩ := h0
  have h8 := H.1.2.2.2.2.2.2.2.2
  have e1 : n = 0 → mSet (mSet I 200 3 0) 201 8 0 = mSet (mSet I 200 3 0) 201 8 n := fun e => by rw [e]
  have e2 : n = 1 → mSet (mSet I 200 3 0) 201 8 1 = mSet (mSet I 200 3 0) 201 8 n := fun e => by rw [e]
  simp only [false_and, and_false, true_or, or_true, false_or, or_false, true_and, and_true, true_implies, false_implies, implies_true, not_true_eq_false, not_false_eq_true, and_self, List.length_cons, List.length_nil, mNoCut_, mCat_n, mCat_I, mCat_L, mCat_R, mIsL_n, mIsL_I, mIsL_R, mIsL_L, Nat.reduceAdd, Nat.reduceSub, Nat.reduceLeDiff, Nat.reduceLT, Nat.reduceEqDiff, Nat.zero_le, Int.reduceEq, Int.reduceLT, Int.reduceLE, Int.reduceNeg, Int.reduceAdd, if_true, if_false, reduceIte, reduceCtorEq, Bool.false_eq_true, ne_eq, qCmp_0, qCmp_1, qCmp_2, qCmp_3, qCmp_4, qCmp_5, ib_0, ib_1, ib_2, lb_0, lb_1, lb_2, dv_0, dv_1, wq_ic, wq_ld_i, wq_ld_a, wq_st_i, wq_icmp, wq_if, wq_goto, wq_get, mGet_0, mGet_1, mGet_2, mGet_3, wq_putI, wq_putL, wq_ald, wq_astI, wq_astL, wq_ret0, wq_ret1, wq_ret2, wq_ret3, wq_ret4, ldR0, mrg_0_, fk_11_3, fk_11_0, mrg_8_, mrg_1_, stI2, ldI1, ldI2, mPut_s, mPut_I0, mPut_R0, mPut_L0, mPut_I1, mPut_R1, mPut_L1, mGo_n, sfxX11_chase_20, cutX11_chase_20, sfxX11_chase_21, cutX11_chase_21, sfxX11_chase_36, cutX11_chase_36, sfxX11_chase_37, cutX11_chase_37, kX11_chase_37, kX11_chase_36, kX11_chase_21, kX11_chase_20, kX11_chase_0, sk_200, al_200, rf_200_0, sk_201, al_201, sn_201, ald_n, ro0_n, al_ro, mrg, mrl, mSet_ap, ncast, Option.some.injEq, set_201, set_over1]
  (try simp only [mrg, mrl] at *) <;> repeat' (first | (with_reducible assumption) | (with_reducible apply And.intro) | intro _)
  all_goals first | omega | (rw [e1 (by omega)]; exact q_I (by omega) h) | (rw [e2 (by omega)]; exact q_I (by omega) h) | skip
theorem ctrX11_chase {l : Launch} (hst : l.stackTraces = false) (hT : mTxM l) : mCtr l calX11_chase spX11_chase :=
  mMet0 (T := TX11_chase) (S := SX11_chase) hst hT (by decide) okX11_chase ⟨_, _, rfl, rfl⟩ (fun a => mCtr_no) vcX11_chase

def spX11_score : mSp := shRI (fun _ i w I Q => i = some 200 ∧ mrg w ∧ (0 ≤ w ∧ w ≤ 3 → Q (.inl (some (mI (I 201 (9 + w))))) (mSet I 200 3 0)) ∧ (¬ (0 ≤ w ∧ w ≤ 3) → Q (.inl (some (mI (-1)))) (mSet I 200 3 0)))
def SX11_score : Nat → mSp := fun a => match a with
  | 0 => spX11_within
  | _ => fun _ _ _ _ => False
theorem SX11_score_0 : SX11_score 0 = spX11_within := Eq.trans rfl rfl
set_option maxRecDepth 100000 in
set_option maxHeartbeats 1000000 in
theorem vcX11_score (fl : Nat → Bool) (avs : List mV) (I : mM) (Q : mO → mM → Prop) (hsp : spX11_score fl avs I Q) : mVC0 SX11_score fl Q kX11_score 2 avs I := by
  obtain ⟨i, w, rfl, h0⟩ := shRI_inv hsp
  refine ⟨rfl, ?_⟩
  show mWp _ _ _ _ _ _ kX11_score_0 [some (mR i), some (mI w)] [] I
  obtain ⟨rfl, hw, h1, h2⟩ := h0
  simp only [false_and, and_false, true_or, or_true, false_or, or_false, true_and, and_true, true_implies, false_implies, implies_true, not_true_eq_false, not_false_eq_true, and_self, List.length_cons, List.length_nil, mNoCut_, mCat_n, mCat_I, mCat_L, mCat_R, mIsL_n, mIsL_I, mIsL_R, mIsL_L, Nat.reduceAdd, Nat.reduceSub, Nat.reduceLeDiff, Nat.reduceLT, Nat.reduceEqDiff, Nat.zero_le, Int.reduceEq, Int.reduceLT, Int.reduceLE, Int.reduceNeg, Int.reduceAdd, if_true, if_false, reduceIte, reduceCtorEq, Bool.false_eq_true, ne_eq, qCmp_0, qCmp_1, qCmp_2, qCmp_3, qCmp_4, qCmp_5, ib_0, ib_1, ib_2, lb_0, lb_1, lb_2, dv_0, dv_1, wq_ic, wq_lc, wq_ld_i, wq_ld_a, wq_ib, wq_i2l, wq_if, wq_goto, wq_get, mGet_0, mGet_1, mGet_2, mGet_3, wq_putI, wq_putL, wq_ald, wq_ret0, wq_ret1, wq_ret2, wq_ret3, wq_ret4, ldR0, mrg_0_, fk_11_3, ldI1, wq_callS3_1, fk_11_0, mrg_9_, mrg_m1_, mGo_n, sfxX11_score_29, cutX11_score_29, sfxX11_score_30, cutX11_score_30, kX11_score_30, kX11_score_29, kX11_score_0, sk_200, al_200, rf_200_0, sk_201, al_201, sn_201, ald_n, ro0_n, al_ro, SX11_score_0, shqLLL_, spX11_within, mrg, mrl, mSet_ap, ncast, Option.some.injEq, set_201, set_over1]
  (try simp only [mrg, mrl] at *) <;> repeat' (first | (with_reducible assumption) | (with_reducible apply And.intro) | intro _)
  all_goals first | omega | exact h1 (by omega) | exact h2 (by omega) | skip
theorem ctrX11_score {l : Launch} (hst : l.stackTraces = false) (hT : mTxM l) : mCtr l calX11_score spX11_score :=
  mMet0 (T := TX11_score) (S := SX11_score) hst hT (by decide) okX11_score ⟨_, _, rfl, rfl⟩ (fun a => match a with
    | 0 => ctrX11_within hst hT
    | _ + 1 => mCtr_no) vcX11_score

end SPM18
