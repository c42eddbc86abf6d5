section SPC9
def seenC (S : Int → Int) (b : Int) : Nat → Int
  | 0 => 0
  | n + 1 => seenC S b n + S (8 * b + n)
theorem seenC_eq {I : mM} {t : Int → Int} {b : Int} (hb : 0 ≤ b ∧ b < 6) (h : ∀ k : Int, 0 ≤ k → k < 48 → I 26 k = t (314 + 5 * k)) : ∀ n : Nat, n ≤ 8 → seenC (I 26) b n = seenN t b n
  | 0, _ => rfl
  | n + 1, hn => by
    simp only [seenC, seenN]
    rw [seenC_eq hb h n (by omega), h (8 * b + n) (by omega) (by omega)]
    unfold rawT
    congr 2
    omega
def spX10_seenOf : mSp := shRI (fun _ i b I Q => i = some 0 ∧ ballP b ∧ (0 ≤ I 15 b ∧ I 15 b ≤ 8) ∧ Q (.inl (some (mI (seenC (I 26) b (I 15 b).toNat)))) I)
def SX10_seenOf : Nat → mSp := fun a => match a with
  | 0 => spX3_hitsOf
  | _ => fun _ _ _ _ => False
theorem SX10_seenOf_0 : SX10_seenOf 0 = spX3_hitsOf := Eq.trans rfl rfl
theorem cutsX10_seenOf {t : Nat} {bs : List Bool} (h : cutX10_seenOf t = some bs) : (t = 17 ∧ bs = [true, true, true, true, true]) := by
  unfold cutX10_seenOf at h
  simp only [mLk] at h
  by_cases h0 : 17 = t
  · subst h0
    simp at h
    exact ⟨rfl, h.symm⟩
  rw [if_neg h0] at h
  cases h
set_option maxRecDepth 100000 in
set_option maxHeartbeats 1000000 in
theorem vcX10_seenOf (fl : Nat → Bool) (avs : List mV) (I : mM) (Q : mO → mM → Prop) (hsp : spX10_seenOf fl avs I Q) : mVC SX10_seenOf fl Q kX10_seenOf cutX10_seenOf 5 avs I := by
  obtain ⟨i, b, rfl, h0⟩ := shRI_inv hsp
  obtain ⟨rfl, hb, hn, h⟩ := h0
  refine ⟨rfl, (fun m pc lv st I1 => st = [] ∧ I1 = I ∧ ∃ j : Nat, lv = [some (mR (some 0)), some (mI b), some (mI (seenC (I 26) b j)), some (mI (I 15 b)), some (mI j)] ∧ j ≤ (I 15 b).toNat ∧ m = 8 - j), ?_, ?_⟩
  · intro n t bs hbs lv st I1 hc
    rcases cutsX10_seenOf hbs with ⟨rfl, rfl⟩
    rw [sfxX10_seenOf_17]
    obtain ⟨rfl, rfl, j, rfl, hj, hm⟩ := hc
    have e : seenC (I1 26) b (j + 1) = seenC (I1 26) b j + I1 26 (8 * b + j) := rfl
    rw [show 8 * b + (j : Int) = b * 8 + j by omega] at e
    simp only [false_and, and_false, true_or, or_true, false_or, or_false, true_and, and_true, true_implies, false_implies, implies_true, not_true_eq_false, not_false_eq_true, and_self, List.length_cons, List.length_nil, mNoCut_, mCat_n, mCat_I, mCat_L, mCat_R, mIsL_n, mIsL_I, mIsL_R, mIsL_L, Nat.reduceAdd, Nat.reduceSub, Nat.reduceLeDiff, Nat.reduceLT, Nat.reduceEqDiff, Nat.zero_le, Int.reduceEq, Int.reduceLT, Int.reduceLE, Int.reduceNeg, Int.reduceAdd, if_true, if_false, reduceIte, reduceCtorEq, Bool.false_eq_true, ne_eq, qCmp_0, qCmp_1, qCmp_2, qCmp_3, qCmp_4, qCmp_5, ib_0, ib_1, ib_2, lb_0, lb_1, lb_2, dv_0, dv_1, wq_ic, wq_ld_i, wq_ld_a, wq_st_i, wq_iinc, wq_ib, wq_icmp, wq_goto, wq_get, mGet_0, mGet_1, mGet_2, mGet_3, wq_ald, wq_ret0, wq_ret1, wq_ret2, wq_ret3, wq_ret4, mrg_0_, stI2, ldR0, fk_10_0, fk_7_0, ldI1, wq_callV2_0, stI3, stI4, ldI4, ldI3, ldI2, fk_7_2, fk_1_3, mrg_8_, wqinc4, mPut_s, mPut_I0, mPut_R0, mPut_L0, mPut_I1, mPut_R1, mPut_L1, mGo_n, sfxX10_seenOf_17, cutX10_seenOf_17, sfxX10_seenOf_50, cutX10_seenOf_50, wq_cut, mGo_c, mMask_t, mMask_f, mMask_n, kX10_seenOf_50, kX10_seenOf_17, kX10_seenOf_0, sk_13, al_13, rf_13_3, sk_26, al_26, sn_26, sk_0, al_0, rf_0_0, sk_10, al_10, rf_10_0, sk_11, al_11, rf_10_2, sk_102, al_102, ald_n, ro0_n, al_ro, SX10_seenOf_0, shqRI_, spX3_hitsOf, mrg, mrl, mSet_ap, ncast, Option.some.injEq]
    (try simp only [mrg, mrl] at *) <;> repeat' (first | (with_reducible assumption) | (with_reducible apply And.intro) | intro _)
    all_goals first | omega | exact ⟨8 - (j + 1), by omega, j + 1, by rw [e]; rfl, by omega, rfl⟩ | (have q : j = (I1 15 b).toNat := by omega); subst q; exact h | skip
  · show mWp _ _ _ _ _ _ kX10_seenOf_0 [some (mR (some 0)), some (mI b), none, none, none] [] I
    simp only [false_and, and_false, true_or, or_true, false_or, or_false, true_and, and_true, true_implies, false_implies, implies_true, not_true_eq_false, not_false_eq_true, and_self, List.length_cons, List.length_nil, mNoCut_, mCat_n, mCat_I, mCat_L, mCat_R, mIsL_n, mIsL_I, mIsL_R, mIsL_L, Nat.reduceAdd, Nat.reduceSub, Nat.reduceLeDiff, Nat.reduceLT, Nat.reduceEqDiff, Nat.zero_le, Int.reduceEq, Int.reduceLT, Int.reduceLE, Int.reduceNeg, Int.reduceAdd, if_true, if_false, reduceIte, reduceCtorEq, Bool.false_eq_true, ne_eq, qCmp_0, qCmp_1, qCmp_2, qCmp_3, qCmp_4, qCmp_5, ib_0, ib_1, ib_2, lb_0, lb_1, lb_2, dv_0, dv_1, wq_ic, wq_ld_i, wq_ld_a, wq_st_i, wq_iinc, wq_ib, wq_icmp, wq_goto, wq_get, mGet_0, mGet_1, mGet_2, mGet_3, wq_ald, wq_ret0, wq_ret1, wq_ret2, wq_ret3, wq_ret4, mrg_0_, stI2, ldR0, fk_10_0, fk_7_0, ldI1, wq_callV2_0, stI3, stI4, ldI4, ldI3, ldI2, fk_7_2, fk_1_3, mrg_8_, wqinc4, mPut_s, mPut_I0, mPut_R0, mPut_L0, mPut_I1, mPut_R1, mPut_L1, mGo_n, sfxX10_seenOf_17, cutX10_seenOf_17, sfxX10_seenOf_50, cutX10_seenOf_50, wq_cut, mGo_c, mMask_t, mMask_f, mMask_n, kX10_seenOf_50, kX10_seenOf_17, kX10_seenOf_0, sk_13, al_13, rf_13_3, sk_26, al_26, sn_26, sk_0, al_0, rf_0_0, sk_10, al_10, rf_10_0, sk_11, al_11, rf_10_2, sk_102, al_102, ald_n, ro0_n, al_ro, SX10_seenOf_0, shqRI_, spX3_hitsOf, mrg, mrl, mSet_ap, ncast, Option.some.injEq, Option.getD_some]
    exact ⟨hb, 8, 0, rfl, by omega, rfl⟩
theorem ctrX10_seenOf {l : Launch} (hst : l.stackTraces = false) (hT : mTxM l) : mCtr l calX10_seenOf spX10_seenOf :=
  mMet (T := TX10_seenOf) (S := SX10_seenOf) hst hT cutX10_seenOf (by decide) okX10_seenOf ⟨_, _, rfl, rfl⟩ trivial (fun t bs h => by rcases cutsX10_seenOf h with ⟨-, rfl⟩ <;> rfl) (fun a => match a with
    | 0 => ctrX3_hitsOf hst hT
    | _ + 1 => mCtr_no) vcX10_seenOf

def ubT (j : Nat) : Int := 2 ^ (10 - j)
theorem ub_s : ∀ j : Nat, j < 10 → ubT j = 2 * ubT (j + 1) ∧ (1 ≤ ubT (j + 1) ∧ ubT (j + 1) ≤ 512) ∧ ib 7 (ubT (j + 1)) 1 = (if j + 1 < 10 then ubT (j + 2) else 0) := by decide +kernel
theorem ub_10 : ubT 10 = 1 := rfl
def spX10_leeway : mSp := shI (fun _ n I Q => (0 ≤ n ∧ n ≤ 1000000) ∧ Q (.inl (some (mI (1 + rootT n)))) I)
def SX10_leeway : Nat → mSp := fun a => match a with
  | _ => fun _ _ _ _ => False
theorem cutsX10_leeway {t : Nat} {bs : List Bool} (h : cutX10_leeway t = some bs) : (t = 6 ∧ bs = [true, true, true]) := by
  unfold cutX10_leeway at h
  simp only [mLk] at h
  by_cases h0 : 6 = t
  · subst h0
    simp at h
    exact ⟨rfl, h.symm⟩
  rw [if_neg h0] at h
  cases h
set_option maxRecDepth 100000 in
set_option maxHeartbeats 1000000 in
theorem vcX10_leeway (fl : Nat → Bool) (avs : List mV) (I : mM) (Q : mO → mM → Prop) (hsp : spX10_leeway fl avs I Q) : mVC SX10_leeway fl Q kX10_leeway cutX10_leeway 3 avs I := by
  obtain ⟨v, rfl, h0⟩ := shI_inv hsp
  obtain ⟨hv, h⟩ := h0
  refine ⟨rfl, (fun m pc lv st I1 => st = [] ∧ I1 = I ∧ ∃ (r : Int) (j : Nat), lv = [some (mI v), some (mI r), some (mI (if j < 10 then ubT (j + 1) else 0))] ∧ (0 ≤ r ∧ r ≤ 1024) ∧ r * r ≤ v ∧ v < (r + ubT j) * (r + ubT j) ∧ j ≤ 10 ∧ m = 10 - j), ?_, ?_⟩
  · intro n t bs hbs lv st I1 hc
    rcases cutsX10_leeway hbs with ⟨rfl, rfl⟩
    rw [sfxX10_leeway_6]
    obtain ⟨rfl, rfl, r, j, rfl, hr, h1, h2, hj, hm⟩ := hc
    rcases Nat.lt_or_ge j 10 with z | z
    · have us := ub_s j z
      rw [if_pos z]
      have us1 := us.1
      have us2 := us.2.1
      have us3 := us.2.2
      have p1 := prod_bd (x := r + ubT (j + 1)) (y := r + ubT (j + 1)) (a := 1536) (b := 1536) ⟨by omega, by omega⟩ ⟨by omega, by omega⟩
      have e2 : r + ubT j = r + ubT (j + 1) + ubT (j + 1) := by omega
      rw [e2] at h2
      have r2 : ∀ x : Int, 0 ≤ x → x * x ≤ 1000000 → x ≤ 1024 := fun x x0 x1 => by
        rcases Int.lt_or_le 1024 x with q | q
        · have := sq_mono (x := 1025) (y := x) (by omega) (by omega)
          omega
        · exact q
      have rb := r2 (r + ubT (j + 1)) (by omega)
      clear us e2 r2
      simp only [false_and, and_false, true_or, or_true, false_or, or_false, true_and, and_true, true_implies, false_implies, implies_true, not_true_eq_false, not_false_eq_true, and_self, List.length_cons, List.length_nil, mNoCut_, mCat_n, mCat_I, mCat_L, mCat_R, mIsL_n, mIsL_I, mIsL_R, mIsL_L, Nat.reduceAdd, Nat.reduceSub, Nat.reduceLeDiff, Nat.reduceLT, Nat.reduceEqDiff, Nat.zero_le, Int.reduceEq, Int.reduceLT, Int.reduceLE, Int.reduceNeg, Int.reduceAdd, if_true, if_false, reduceIte, reduceCtorEq, Bool.false_eq_true, ne_eq, qCmp_0, qCmp_1, qCmp_2, qCmp_3, qCmp_4, qCmp_5, ib_0, ib_1, ib_2, lb_0, lb_1, lb_2, dv_0, dv_1, wq_ic, wq_ld_i, wq_st_i, wq_ib, wq_icmp, wq_if, wq_goto, wq_ret0, wq_ret1, wq_ret2, wq_ret3, wq_ret4, mrg_0_, stI1, mrg_512_, stI2, ldI2, ldI1, ldI0, mrg_1_, mPut_s, mPut_I0, mPut_R0, mPut_L0, mPut_I1, mPut_R1, mPut_L1, mGo_n, sfxX10_leeway_6, cutX10_leeway_6, sfxX10_leeway_25, cutX10_leeway_25, sfxX10_leeway_32, cutX10_leeway_32, wq_cut, mGo_c, mMask_t, mMask_f, mMask_n, kX10_leeway_32, kX10_leeway_25, kX10_leeway_6, kX10_leeway_0, mrg, mrl, mSet_ap, ncast, Option.some.injEq, us3]
      generalize hX : (r + ubT (j + 1)) * (r + ubT (j + 1)) = X at *
      (try simp only [mrg, mrl] at *) <;> repeat' (first | (with_reducible assumption) | (with_reducible apply And.intro) | intro _)
      all_goals first | omega | exact ⟨10 - (j + 1), by omega, _, j + 1, rfl, ⟨by omega, rb (by omega)⟩, by omega, h2, by omega, rfl⟩ | exact ⟨10 - (j + 1), by omega, r, j + 1, rfl, hr, h1, by omega, by omega, rfl⟩ | skip
    · have e : j = 10 := by omega
      subst e
      rw [ub_10] at h2
      rw [if_neg (by omega)]
      have er := isq_un (rootT_sp hv.1 hv.2) ⟨hr.1, h1, h2⟩
      simp only [false_and, and_false, true_or, or_true, false_or, or_false, true_and, and_true, true_implies, false_implies, implies_true, not_true_eq_false, not_false_eq_true, and_self, List.length_cons, List.length_nil, mNoCut_, mCat_n, mCat_I, mCat_L, mCat_R, mIsL_n, mIsL_I, mIsL_R, mIsL_L, Nat.reduceAdd, Nat.reduceSub, Nat.reduceLeDiff, Nat.reduceLT, Nat.reduceEqDiff, Nat.zero_le, Int.reduceEq, Int.reduceLT, Int.reduceLE, Int.reduceNeg, Int.reduceAdd, if_true, if_false, reduceIte, reduceCtorEq, Bool.false_eq_true, ne_eq, qCmp_0, qCmp_1, qCmp_2, qCmp_3, qCmp_4, qCmp_5, ib_0, ib_1, ib_2, lb_0, lb_1, lb_2, dv_0, dv_1, wq_ic, wq_ld_i, wq_st_i, wq_ib, wq_icmp, wq_if, wq_goto, wq_ret0, wq_ret1, wq_ret2, wq_ret3, wq_ret4, mrg_0_, stI1, mrg_512_, stI2, ldI2, ldI1, ldI0, mrg_1_, mPut_s, mPut_I0, mPut_R0, mPut_L0, mPut_I1, mPut_R1, mPut_L1, mGo_n, sfxX10_leeway_6, cutX10_leeway_6, sfxX10_leeway_25, cutX10_leeway_25, sfxX10_leeway_32, cutX10_leeway_32, wq_cut, mGo_c, mMask_t, mMask_f, mMask_n, kX10_leeway_32, kX10_leeway_25, kX10_leeway_6, kX10_leeway_0, mrg, mrl, mSet_ap, ncast, Option.some.injEq]
      (try simp only [mrg, mrl] at *) <;> repeat' (first | (with_reducible assumption) | (with_reducible apply And.intro) | intro _)
      all_goals first | omega | exact q_I (by rw [er]; omega) h | skip
  · show mWp _ _ _ _ _ _ kX10_leeway_0 [some (mI v), none, none] [] I
    simp only [false_and, and_false, true_or, or_true, false_or, or_false, true_and, and_true, true_implies, false_implies, implies_true, not_true_eq_false, not_false_eq_true, and_self, List.length_cons, List.length_nil, mNoCut_, mCat_n, mCat_I, mCat_L, mCat_R, mIsL_n, mIsL_I, mIsL_R, mIsL_L, Nat.reduceAdd, Nat.reduceSub, Nat.reduceLeDiff, Nat.reduceLT, Nat.reduceEqDiff, Nat.zero_le, Int.reduceEq, Int.reduceLT, Int.reduceLE, Int.reduceNeg, Int.reduceAdd, if_true, if_false, reduceIte, reduceCtorEq, Bool.false_eq_true, ne_eq, qCmp_0, qCmp_1, qCmp_2, qCmp_3, qCmp_4, qCmp_5, ib_0, ib_1, ib_2, lb_0, lb_1, lb_2, dv_0, dv_1, wq_ic, wq_ld_i, wq_st_i, wq_ib, wq_icmp, wq_if, wq_goto, wq_ret0, wq_ret1, wq_ret2, wq_ret3, wq_ret4, mrg_0_, stI1, mrg_512_, stI2, ldI2, ldI1, ldI0, mrg_1_, mPut_s, mPut_I0, mPut_R0, mPut_L0, mPut_I1, mPut_R1, mPut_L1, mGo_n, sfxX10_leeway_6, cutX10_leeway_6, sfxX10_leeway_25, cutX10_leeway_25, sfxX10_leeway_32, cutX10_leeway_32, wq_cut, mGo_c, mMask_t, mMask_f, mMask_n, kX10_leeway_32, kX10_leeway_25, kX10_leeway_6, kX10_leeway_0, mrg, mrl, mSet_ap, ncast, Option.some.injEq]
    exact ⟨10, 0, 0, rfl, ⟨by omega, by omega⟩, by omega, by show v < (0 + 1024) * (0 + 1024); omega, by omega, rfl⟩
theorem ctrX10_leeway {l : Launch} (hst : l.stackTraces = false) (hT : mTxM l) : mCtr l calX10_leeway spX10_leeway :=
  mMet (T := TX10_leeway) (S := SX10_leeway) hst hT cutX10_leeway (by decide) okX10_leeway ⟨_, _, rfl, rfl⟩ trivial (fun t bs h => by rcases cutsX10_leeway h with ⟨-, rfl⟩ <;> rfl) (fun a => mCtr_no) vcX10_leeway

theorem seenN_le {t : Int → Int} (H : WFt t) {b : Int} (hb : 0 ≤ b ∧ b < 6) {h : Nat} : ∀ n : Nat, h < n → n ≤ 8 → rawT t b h 4 ≤ seenN t b n
  | 0, q, _ => absurd q (by omega)
  | n + 1, q, hn => by
    have h1 := seenN_bd H hb n (by omega)
    have h2 := (H.raw hb (h := n) ⟨by omega, by omega⟩).2.2.2.2
    simp only [seenN]
    rcases Nat.lt_or_ge h n with z | z
    · have := seenN_le H hb n z (by omega)
      omega
    · have e : h = n := by omega
      subst e
      omega
theorem seenT_le {t : Int → Int} (H : WFt t) {b h : Int} (z : hitP t b h) : rawT t b h 4 ≤ seenT t b := by
  have hn := H.2.1 b z.1 z.2.1
  have z3 := z.2.2.1
  have z4 := z.2.2.2
  have e : h = ((h.toNat : Nat) : Int) := by omega
  rw [e]
  exact seenN_le H ⟨z.1, z.2.1⟩ _ (by omega) (by omega)
theorem clsI.sn {I : mM} (H : clsI I) {b : Int} (hb : 0 ≤ b ∧ b < 6) : I 15 b = I 201 (13 + b) ∧ (0 ≤ I 15 b ∧ I 15 b ≤ 8) ∧ seenC (I 26) b (I 15 b).toNat = seenT (I 201) b := by
  have e : I 15 b = I 201 (13 + b) := H.2.1.2.2.1 b hb.1 hb.2
  have hn := H.1.2.1 b hb.1 hb.2
  refine ⟨e, by omega, ?_⟩
  rw [e]
  exact seenC_eq hb H.2.2.2.2.2.2.1 _ (by omega)
theorem clsI.se {I : mM} (H : clsI I) {b h : Int} (z : hitP (I 201) b h) : I 26 (b * 8 + h) = rawT (I 201) b h 4 := by
  have hn := H.1.2.1 b z.1 z.2.1
  have z3 := z.2.2.1
  have z4 := z.2.2.2
  have z1 := z.1
  have z2 := z.2.1
  have e26 : I 26 (8 * b + h) = I 201 (314 + 5 * (8 * b + h)) := H.2.2.2.2.2.2.1 _ (by omega) (by omega)
  rw [show b * 8 + h = 8 * b + h by omega, e26]
  unfold rawT
  congr 1
  omega
def spX10_ends : mSp := shRIII (fun _ i b h m I Q => i = some 0 ∧ clsI I ∧ mrg b ∧ mrg h ∧ mrg m ∧ (¬ hitP (I 201) b h → Q (.inr (mEx 0)) I) ∧ (hitP (I 201) b h → seenT (I 201) b = 0 → Q (.inl (some (mI 0))) (mSet (mSet I 0 13 0) 0 14 0)) ∧ (hitP (I 201) b h → ¬ seenT (I 201) b = 0 → Q (.inl (some (mI 1))) (mSet (mSet I 0 13 (upT (endT (I 201) b h m) (seenT (I 201) b))) 0 14 (loT (endT (I 201) b h m) (seenT (I 201) b)))))
def SX10_ends : Nat → mSp := fun a => match a with
  | 0 => spX10_needHit
  | 1 => spX10_seenOf
  | 2 => spX10_leeway
  | 3 => spX10_tell
  | _ => fun _ _ _ _ => False
theorem SX10_ends_0 : SX10_ends 0 = spX10_needHit := Eq.trans rfl rfl
theorem SX10_ends_1 : SX10_ends 1 = spX10_seenOf := Eq.trans rfl rfl
theorem SX10_ends_2 : SX10_ends 2 = spX10_leeway := Eq.trans rfl rfl
theorem SX10_ends_3 : SX10_ends 3 = spX10_tell := Eq.trans rfl rfl
set_option maxRecDepth 100000 in
set_option maxHeartbeats 1000000 in
theorem vcX10_ends (fl : Nat → Bool) (avs : List mV) (I : mM) (Q : mO → mM → Prop) (hsp : spX10_ends fl avs I Q) : mVC0 SX10_ends fl Q kX10_ends 7 avs I := by
  obtain ⟨i, b, hh, m, rfl, h0⟩ := shRIII_inv hsp
  refine ⟨rfl, ?_⟩
  show mWp _ _ _ _ _ _ kX10_ends_0 [some (mR i), some (mI b), some (mI hh), some (mI m), none, none, none] [] I
  obtain ⟨rfl, H, hb, hh1, hm, h1, h2, h3⟩ := h0
  by_cases z : hitP (I 201) b hh
  · have hn := H.1.2.1 b z.1 z.2.1
    have z3 := z.2.2.1
    have z4 := z.2.2.2
    have hr := (H.1.raw (b := b) (h := hh) ⟨z.1, z.2.1⟩ ⟨z3, by omega⟩).2.2.2.2
    have sb := seenT_bd H.1 (b := b) ⟨z.1, z.2.1⟩
    have sl := seenT_le H.1 z
    have es := H.sn ⟨z.1, z.2.1⟩
    have es1 := es.2.1
    have es2 := es.2.2
    have er := H.se z
    have rt := rootT_bd (n := rawT (I 201) b hh 4) (by omega) (by omega)
    have h2 := h2 z
    have h3 := h3 z
    have e1 : ∀ _ : Unit, m = 0 → endT (I 201) b hh m = max 0 (min (seenT (I 201) b) (rawT (I 201) b hh 4 - (1 + rootT (rawT (I 201) b hh 4)))) := fun _ q => by
      unfold endT
      rw [if_pos q]
      omega
    have e2 : ∀ _ : Unit, ¬ m = 0 → endT (I 201) b hh m = max 0 (min (seenT (I 201) b) (rawT (I 201) b hh 4 + (1 + rootT (rawT (I 201) b hh 4)))) := fun _ q => by
      unfold endT
      rw [if_neg q]
      omega
    clear h1 es
    by_cases z0 : m = 0
    · rw [e1 () z0] at h3
      simp only [false_and, and_false, true_or, or_true, false_or, or_false, true_and, and_true, true_implies, false_implies, implies_true, not_true_eq_false, not_false_eq_true, and_self, List.length_cons, List.length_nil, mNoCut_, mCat_n, mCat_I, mCat_L, mCat_R, mIsL_n, mIsL_I, mIsL_R, mIsL_L, Nat.reduceAdd, Nat.reduceSub, Nat.reduceLeDiff, Nat.reduceLT, Nat.reduceEqDiff, Nat.zero_le, Int.reduceEq, Int.reduceLT, Int.reduceLE, Int.reduceNeg, Int.reduceAdd, if_true, if_false, reduceIte, reduceCtorEq, Bool.false_eq_true, ne_eq, qCmp_0, qCmp_1, qCmp_2, qCmp_3, qCmp_4, qCmp_5, ib_0, ib_1, ib_2, lb_0, lb_1, lb_2, dv_0, dv_1, wq_ic, wq_ld_i, wq_ld_a, wq_st_i, wq_ib, wq_i2l, wq_if, wq_goto, wq_get, mGet_0, mGet_1, mGet_2, mGet_3, wq_ald, wq_ret0, wq_ret1, wq_ret2, wq_ret3, wq_ret4, wq_max, wq_min, wq_abs, wq_lmax, ldR0, ldI1, ldI2, wq_callV3_0, fk_10_0, fk_7_2, fk_1_3, mrg_8_, stI4, wq_callV2_0, stI5, ldI3, ldI4, wq_callS1_1, stI6, mrg_0_, ldI5, ldI6, mPut_s, mPut_I0, mPut_R0, mPut_L0, mPut_I1, mPut_R1, mPut_L1, mGo_n, sfxX10_ends_47, cutX10_ends_47, sfxX10_ends_55, cutX10_ends_55, kX10_ends_55, kX10_ends_47, kX10_ends_0, sk_13, al_13, rf_13_3, sk_26, al_26, sn_26, sk_0, al_0, rf_0_0, sk_10, al_10, rf_10_2, ald_n, ro0_n, al_ro, SX10_ends_0, SX10_ends_1, SX10_ends_2, SX10_ends_3, shqRII_, shqRI_, shqI_, shqRLL_, spX10_needHit, spX10_seenOf, spX10_leeway, spX10_tell, mrg, mrl, mSet_ap, ncast, Option.some.injEq, es2, er]
      (try simp only [mrg, mrl] at *) <;> repeat' (first | (with_reducible assumption) | (with_reducible apply And.intro) | intro _)
      all_goals first | omega | exact H | exact h2 (by omega) | exact h3 (by omega) | skip
    · rw [e2 () z0] at h3
      simp only [false_and, and_false, true_or, or_true, false_or, or_false, true_and, and_true, true_implies, false_implies, implies_true, not_true_eq_false, not_false_eq_true, and_self, List.length_cons, List.length_nil, mNoCut_, mCat_n, mCat_I, mCat_L, mCat_R, mIsL_n, mIsL_I, mIsL_R, mIsL_L, Nat.reduceAdd, Nat.reduceSub, Nat.reduceLeDiff, Nat.reduceLT, Nat.reduceEqDiff, Nat.zero_le, Int.reduceEq, Int.reduceLT, Int.reduceLE, Int.reduceNeg, Int.reduceAdd, if_true, if_false, reduceIte, reduceCtorEq, Bool.false_eq_true, ne_eq, qCmp_0, qCmp_1, qCmp_2, qCmp_3, qCmp_4, qCmp_5, ib_0, ib_1, ib_2, lb_0, lb_1, lb_2, dv_0, dv_1, wq_ic, wq_ld_i, wq_ld_a, wq_st_i, wq_ib, wq_i2l, wq_if, wq_goto, wq_get, mGet_0, mGet_1, mGet_2, mGet_3, wq_ald, wq_ret0, wq_ret1, wq_ret2, wq_ret3, wq_ret4, wq_max, wq_min, wq_abs, wq_lmax, ldR0, ldI1, ldI2, wq_callV3_0, fk_10_0, fk_7_2, fk_1_3, mrg_8_, stI4, wq_callV2_0, stI5, ldI3, ldI4, wq_callS1_1, stI6, mrg_0_, ldI5, ldI6, mPut_s, mPut_I0, mPut_R0, mPut_L0, mPut_I1, mPut_R1, mPut_L1, mGo_n, sfxX10_ends_47, cutX10_ends_47, sfxX10_ends_55, cutX10_ends_55, kX10_ends_55, kX10_ends_47, kX10_ends_0, sk_13, al_13, rf_13_3, sk_26, al_26, sn_26, sk_0, al_0, rf_0_0, sk_10, al_10, rf_10_2, ald_n, ro0_n, al_ro, SX10_ends_0, SX10_ends_1, SX10_ends_2, SX10_ends_3, shqRII_, shqRI_, shqI_, shqRLL_, spX10_needHit, spX10_seenOf, spX10_leeway, spX10_tell, mrg, mrl, mSet_ap, ncast, Option.some.injEq, es2, er]
      (try simp only [mrg, mrl] at *) <;> repeat' (first | (with_reducible assumption) | (with_reducible apply And.intro) | intro _)
      all_goals first | omega | exact H | exact h2 (by omega) | exact h3 (by omega) | skip
  · have h1 := h1 z
    simp only [false_and, and_false, true_or, or_true, false_or, or_false, true_and, and_true, true_implies, false_implies, implies_true, not_true_eq_false, not_false_eq_true, and_self, List.length_cons, List.length_nil, mNoCut_, mCat_n, mCat_I, mCat_L, mCat_R, mIsL_n, mIsL_I, mIsL_R, mIsL_L, Nat.reduceAdd, Nat.reduceSub, Nat.reduceLeDiff, Nat.reduceLT, Nat.reduceEqDiff, Nat.zero_le, Int.reduceEq, Int.reduceLT, Int.reduceLE, Int.reduceNeg, Int.reduceAdd, if_true, if_false, reduceIte, reduceCtorEq, Bool.false_eq_true, ne_eq, qCmp_0, qCmp_1, qCmp_2, qCmp_3, qCmp_4, qCmp_5, ib_0, ib_1, ib_2, lb_0, lb_1, lb_2, dv_0, dv_1, wq_ic, wq_ld_i, wq_ld_a, wq_st_i, wq_ib, wq_i2l, wq_if, wq_goto, wq_get, mGet_0, mGet_1, mGet_2, mGet_3, wq_ald, wq_ret0, wq_ret1, wq_ret2, wq_ret3, wq_ret4, wq_max, wq_min, wq_abs, wq_lmax, ldR0, ldI1, ldI2, wq_callV3_0, fk_10_0, fk_7_2, fk_1_3, mrg_8_, stI4, wq_callV2_0, stI5, ldI3, ldI4, wq_callS1_1, stI6, mrg_0_, ldI5, ldI6, mPut_s, mPut_I0, mPut_R0, mPut_L0, mPut_I1, mPut_R1, mPut_L1, mGo_n, sfxX10_ends_47, cutX10_ends_47, sfxX10_ends_55, cutX10_ends_55, kX10_ends_55, kX10_ends_47, kX10_ends_0, sk_13, al_13, rf_13_3, sk_26, al_26, sn_26, sk_0, al_0, rf_0_0, sk_10, al_10, rf_10_2, ald_n, ro0_n, al_ro, SX10_ends_0, SX10_ends_1, SX10_ends_2, SX10_ends_3, shqRII_, shqRI_, shqI_, shqRLL_, spX10_needHit, spX10_seenOf, spX10_leeway, spX10_tell, mrg, mrl, mSet_ap, ncast, Option.some.injEq]
    refine ⟨H, hb, hh1, fun w => absurd w z, fun _ => h1⟩
theorem ctrX10_ends {l : Launch} (hst : l.stackTraces = false) (hT : mTxM l) : mCtr l calX10_ends spX10_ends :=
  mMet0 (T := TX10_ends) (S := SX10_ends) hst hT (by decide) okX10_ends ⟨_, _, rfl, rfl⟩ (fun a => match a with
    | 0 => ctrX10_needHit hst hT
    | 1 => ctrX10_seenOf hst hT
    | 2 => ctrX10_leeway hst hT
    | 3 => ctrX10_tell hst hT
    | _ + 4 => mCtr_no) vcX10_ends

def spX10_enough : mSp := shRIII (fun _ i b h w I Q => i = some 0 ∧ clsI I ∧ mrg b ∧ mrg h ∧ mrg w ∧ (¬ hitP (I 201) b h → Q (.inr (mEx 0)) I) ∧ (hitP (I 201) b h → ¬ (1 ≤ w ∧ w ≤ 100) → Q (.inr (mEx 1)) I) ∧ (hitP (I 201) b h → (1 ≤ w ∧ w ≤ 100) → Q (.inl (some (mI (enoughT (I 201) b h w)))) I))
def SX10_enough : Nat → mSp := fun a => match a with
  | 0 => spX10_needHit
  | 1 => spX10_needNumber
  | 2 => spX10_seenOf
  | 3 => spX10_leeway
  | _ => fun _ _ _ _ => False
theorem SX10_enough_0 : SX10_enough 0 = spX10_needHit := Eq.trans rfl rfl
theorem SX10_enough_1 : SX10_enough 1 = spX10_needNumber := Eq.trans rfl rfl
theorem SX10_enough_2 : SX10_enough 2 = spX10_seenOf := Eq.trans rfl rfl
theorem SX10_enough_3 : SX10_enough 3 = spX10_leeway := Eq.trans rfl rfl
theorem cutsX10_enough {t : Nat} {bs : List Bool} (h : cutX10_enough t = some bs) : (t = 49 ∧ bs = [false, false, false, true, true, true, true]) := by
  unfold cutX10_enough at h
  simp only [mLk] at h
  by_cases h0 : 49 = t
  · subst h0
    simp at h
    exact ⟨rfl, h.symm⟩
  rw [if_neg h0] at h
  cases h
set_option maxRecDepth 100000 in
set_option maxHeartbeats 1000000 in
theorem vcX10_enough (fl : Nat → Bool) (avs : List mV) (I : mM) (Q : mO → mM → Prop) (hsp : spX10_enough fl avs I Q) : mVC SX10_enough fl Q kX10_enough cutX10_enough 7 avs I := by
  obtain ⟨i, b, hh, w, rfl, h0⟩ := shRIII_inv hsp
  obtain ⟨rfl, H, hb, hh1, hw, h1, h2, h3⟩ := h0
  refine ⟨rfl, (fun m t lv st I1 => st = [] ∧ I1 = I ∧ ∃ (k : Int), lv = [none, none, none, some (mI w), some (mI (rawT (I 201) b hh 4)), some (mI (seenT (I 201) b)), some (mI k)] ∧ hitP (I 201) b hh ∧ (1 ≤ w ∧ w ≤ 100) ∧ (1 ≤ k ∧ k ≤ 101) ∧ m = (101 - k).toNat ∧ ¬ seenT (I 201) b = 0 ∧ enoughT (I 201) b hh w = enoughGo (I 201) b hh w (101 - k).toNat k), ?_, ?_⟩
  · intro n t bs hbs lv st I1 hc
    rcases cutsX10_enough hbs with ⟨rfl, rfl⟩
    rw [sfxX10_enough_49]
    obtain ⟨rfl, rfl, k, rfl, hP, kw, kk, hm, hz, he⟩ := hc
    have hn := H.1.2.1 b hP.1 hP.2.1
    have z3 := hP.2.2.1
    have z4 := hP.2.2.2
    have hr := (H.1.raw (b := b) (h := hh) ⟨hP.1, hP.2.1⟩ ⟨z3, by omega⟩).2.2.2.2
    have sb := seenT_bd H.1 (b := b) ⟨hP.1, hP.2.1⟩
    have h3 := h3 hP kw
    rcases Int.lt_or_le 100 k with q | q
    · rw [he, show (101 - k).toNat = 0 by omega] at h3
      clear h1 h2
      simp only [false_and, and_false, true_or, or_true, false_or, or_false, true_and, and_true, true_implies, false_implies, implies_true, not_true_eq_false, not_false_eq_true, and_self, List.length_cons, List.length_nil, mNoCut_, mCat_n, mCat_I, mCat_L, mCat_R, mIsL_n, mIsL_I, mIsL_R, mIsL_L, Nat.reduceAdd, Nat.reduceSub, Nat.reduceLeDiff, Nat.reduceLT, Nat.reduceEqDiff, Nat.zero_le, Int.reduceEq, Int.reduceLT, Int.reduceLE, Int.reduceNeg, Int.reduceAdd, if_true, if_false, reduceIte, reduceCtorEq, Bool.false_eq_true, ne_eq, qCmp_0, qCmp_1, qCmp_2, qCmp_3, qCmp_4, qCmp_5, ib_0, ib_1, ib_2, lb_0, lb_1, lb_2, dv_0, dv_1, wq_ic, wq_lc, wq_ld_i, wq_ld_a, wq_st_i, wq_iinc, wq_ib, wq_lb, wq_i2l, wq_icmp, wq_if, wq_lcmp, wq_goto, wq_get, mGet_0, mGet_1, mGet_2, mGet_3, wq_ald, wq_ret0, wq_ret1, wq_ret2, wq_ret3, wq_ret4, ldR0, ldI1, ldI2, wq_callV3_0, ldI3, mrg_1_, mrg_100_, wq_callS3_1, fk_10_0, fk_7_2, fk_1_3, mrg_8_, stI4, wq_callV2_0, stI5, ldI5, mrg_m1_, stI6, ldI6, ldI4, wq_callS1_1, wqinc6, mPut_s, mPut_I0, mPut_R0, mPut_L0, mPut_I1, mPut_R1, mPut_L1, mrg_0_, mGo_n, sfxX10_enough_46, cutX10_enough_46, sfxX10_enough_49, cutX10_enough_49, sfxX10_enough_86, cutX10_enough_86, sfxX10_enough_92, cutX10_enough_92, wq_cut, mGo_c, mMask_t, mMask_f, mMask_n, kX10_enough_92, kX10_enough_86, kX10_enough_49, kX10_enough_46, kX10_enough_0, sk_13, al_13, rf_13_3, sk_26, al_26, sn_26, sk_0, al_0, rf_0_0, sk_10, al_10, rf_10_2, ald_n, ro0_n, al_ro, SX10_enough_0, SX10_enough_1, SX10_enough_2, SX10_enough_3, shqRII_, shqIII_, shqRI_, shqI_, spX10_needHit, spX10_needNumber, spX10_seenOf, spX10_leeway, mrg, mrl, mSet_ap, ncast, Option.some.injEq]
      (try simp only [mrg, mrl] at *) <;> repeat' (first | (with_reducible assumption) | (with_reducible apply And.intro) | intro _)
      all_goals first | omega | exact h3 | skip
    · have p1 := prod_bd (x := k) (a := 100) ⟨by omega, q⟩ hr
      have rt := rootT_bd (n := k * rawT (I1 201) b hh 4) (by omega) (by omega)
      have p2 := prod_bd (x := w) (a := 100) (y := k) (b := 100) ⟨by omega, by omega⟩ ⟨by omega, q⟩
      have p3 := prod_bd (x := w * k) (a := 10000) p2 sb
      have gs : enoughGo (I1 201) b hh w (101 - k).toNat k = if 200 * (1 + rootT (k * rawT (I1 201) b hh 4)) ≤ w * k * seenT (I1 201) b then k else enoughGo (I1 201) b hh w (101 - (k + 1)).toNat (k + 1) := by
        rw [show (101 - k).toNat = (101 - (k + 1)).toNat + 1 by omega]
        rfl
      rw [he, gs] at h3
      have g1 : ∀ _ : Unit, 200 * (1 + rootT (k * rawT (I1 201) b hh 4)) ≤ w * k * seenT (I1 201) b → Q (.inl (some (mI k))) I1 := fun _ z => by
        rw [if_pos z] at h3
        exact h3
      clear h1 h2 h3
      simp only [false_and, and_false, true_or, or_true, false_or, or_false, true_and, and_true, true_implies, false_implies, implies_true, not_true_eq_false, not_false_eq_true, and_self, List.length_cons, List.length_nil, mNoCut_, mCat_n, mCat_I, mCat_L, mCat_R, mIsL_n, mIsL_I, mIsL_R, mIsL_L, Nat.reduceAdd, Nat.reduceSub, Nat.reduceLeDiff, Nat.reduceLT, Nat.reduceEqDiff, Nat.zero_le, Int.reduceEq, Int.reduceLT, Int.reduceLE, Int.reduceNeg, Int.reduceAdd, if_true, if_false, reduceIte, reduceCtorEq, Bool.false_eq_true, ne_eq, qCmp_0, qCmp_1, qCmp_2, qCmp_3, qCmp_4, qCmp_5, ib_0, ib_1, ib_2, lb_0, lb_1, lb_2, dv_0, dv_1, wq_ic, wq_lc, wq_ld_i, wq_ld_a, wq_st_i, wq_iinc, wq_ib, wq_lb, wq_i2l, wq_icmp, wq_if, wq_lcmp, wq_goto, wq_get, mGet_0, mGet_1, mGet_2, mGet_3, wq_ald, wq_ret0, wq_ret1, wq_ret2, wq_ret3, wq_ret4, ldR0, ldI1, ldI2, wq_callV3_0, ldI3, mrg_1_, mrg_100_, wq_callS3_1, fk_10_0, fk_7_2, fk_1_3, mrg_8_, stI4, wq_callV2_0, stI5, ldI5, mrg_m1_, stI6, ldI6, ldI4, wq_callS1_1, wqinc6, mPut_s, mPut_I0, mPut_R0, mPut_L0, mPut_I1, mPut_R1, mPut_L1, mrg_0_, mGo_n, sfxX10_enough_46, cutX10_enough_46, sfxX10_enough_49, cutX10_enough_49, sfxX10_enough_86, cutX10_enough_86, sfxX10_enough_92, cutX10_enough_92, wq_cut, mGo_c, mMask_t, mMask_f, mMask_n, kX10_enough_92, kX10_enough_86, kX10_enough_49, kX10_enough_46, kX10_enough_0, sk_13, al_13, rf_13_3, sk_26, al_26, sn_26, sk_0, al_0, rf_0_0, sk_10, al_10, rf_10_2, ald_n, ro0_n, al_ro, SX10_enough_0, SX10_enough_1, SX10_enough_2, SX10_enough_3, shqRII_, shqIII_, shqRI_, shqI_, spX10_needHit, spX10_needNumber, spX10_seenOf, spX10_leeway, mrg, mrl, mSet_ap, ncast, Option.some.injEq]
      (try simp only [mrg, mrl] at *) <;> repeat' (first | (with_reducible assumption) | (with_reducible apply And.intro) | intro _)
      all_goals first | omega | exact g1 () (by omega) | exact ⟨_, (by omega), _, rfl, hP, kw, ⟨by omega, by omega⟩, rfl, hz, by rw [he, gs, if_neg (by omega)]⟩ | skip
  · show mWp _ _ _ _ _ _ kX10_enough_0 [some (mR (some 0)), some (mI b), some (mI hh), some (mI w), none, none, none] [] I
    by_cases z : hitP (I 201) b hh
    · have es := H.sn ⟨z.1, z.2.1⟩
      have es1 := es.2.1
      have es2 := es.2.2
      have er := H.se z
      have sb := seenT_bd H.1 (b := b) ⟨z.1, z.2.1⟩
      have hn := H.1.2.1 b z.1 z.2.1
      have z3 := z.2.2.1
      have z4 := z.2.2.2
      have h2 := h2 z
      have g1 : ∀ _ : Unit, (1 ≤ w ∧ w ≤ 100) → seenT (I 201) b = 0 → Q (.inl (some (mI (-1)))) I := fun _ z1 z2 => q_I (by unfold enoughT; rw [if_pos z2]) (h3 z z1)
      have g2 : ∀ _ : Unit, ¬ seenT (I 201) b = 0 → enoughT (I 201) b hh w = enoughGo (I 201) b hh w (101 - 1 : Int).toNat 1 := fun _ z2 => by
        unfold enoughT
        rw [if_neg z2]
        rfl
      clear h1 h3 es
      simp only [false_and, and_false, true_or, or_true, false_or, or_false, true_and, and_true, true_implies, false_implies, implies_true, not_true_eq_false, not_false_eq_true, and_self, List.length_cons, List.length_nil, mNoCut_, mCat_n, mCat_I, mCat_L, mCat_R, mIsL_n, mIsL_I, mIsL_R, mIsL_L, Nat.reduceAdd, Nat.reduceSub, Nat.reduceLeDiff, Nat.reduceLT, Nat.reduceEqDiff, Nat.zero_le, Int.reduceEq, Int.reduceLT, Int.reduceLE, Int.reduceNeg, Int.reduceAdd, if_true, if_false, reduceIte, reduceCtorEq, Bool.false_eq_true, ne_eq, qCmp_0, qCmp_1, qCmp_2, qCmp_3, qCmp_4, qCmp_5, ib_0, ib_1, ib_2, lb_0, lb_1, lb_2, dv_0, dv_1, wq_ic, wq_lc, wq_ld_i, wq_ld_a, wq_st_i, wq_iinc, wq_ib, wq_lb, wq_i2l, wq_icmp, wq_if, wq_lcmp, wq_goto, wq_get, mGet_0, mGet_1, mGet_2, mGet_3, wq_ald, wq_ret0, wq_ret1, wq_ret2, wq_ret3, wq_ret4, ldR0, ldI1, ldI2, wq_callV3_0, ldI3, mrg_1_, mrg_100_, wq_callS3_1, fk_10_0, fk_7_2, fk_1_3, mrg_8_, stI4, wq_callV2_0, stI5, ldI5, mrg_m1_, stI6, ldI6, ldI4, wq_callS1_1, wqinc6, mPut_s, mPut_I0, mPut_R0, mPut_L0, mPut_I1, mPut_R1, mPut_L1, mrg_0_, mGo_n, sfxX10_enough_46, cutX10_enough_46, sfxX10_enough_49, cutX10_enough_49, sfxX10_enough_86, cutX10_enough_86, sfxX10_enough_92, cutX10_enough_92, wq_cut, mGo_c, mMask_t, mMask_f, mMask_n, kX10_enough_92, kX10_enough_86, kX10_enough_49, kX10_enough_46, kX10_enough_0, sk_13, al_13, rf_13_3, sk_26, al_26, sn_26, sk_0, al_0, rf_0_0, sk_10, al_10, rf_10_2, ald_n, ro0_n, al_ro, SX10_enough_0, SX10_enough_1, SX10_enough_2, SX10_enough_3, shqRII_, shqIII_, shqRI_, shqI_, spX10_needHit, spX10_needNumber, spX10_seenOf, spX10_leeway, mrg, mrl, mSet_ap, ncast, Option.some.injEq, es2, er]
      (try simp only [mrg, mrl] at *) <;> repeat' (first | (with_reducible assumption) | (with_reducible apply And.intro) | intro _)
      all_goals first | omega | exact H | exact h2 (by omega) | exact g1 () (by omega) (by omega) | exact ⟨_, 1, rfl, z, by omega, by omega, rfl, by omega, g2 () (by omega)⟩ | skip
    · have h1 := h1 z
      simp only [false_and, and_false, true_or, or_true, false_or, or_false, true_and, and_true, true_implies, false_implies, implies_true, not_true_eq_false, not_false_eq_true, and_self, List.length_cons, List.length_nil, mNoCut_, mCat_n, mCat_I, mCat_L, mCat_R, mIsL_n, mIsL_I, mIsL_R, mIsL_L, Nat.reduceAdd, Nat.reduceSub, Nat.reduceLeDiff, Nat.reduceLT, Nat.reduceEqDiff, Nat.zero_le, Int.reduceEq, Int.reduceLT, Int.reduceLE, Int.reduceNeg, Int.reduceAdd, if_true, if_false, reduceIte, reduceCtorEq, Bool.false_eq_true, ne_eq, qCmp_0, qCmp_1, qCmp_2, qCmp_3, qCmp_4, qCmp_5, ib_0, ib_1, ib_2, lb_0, lb_1, lb_2, dv_0, dv_1, wq_ic, wq_lc, wq_ld_i, wq_ld_a, wq_st_i, wq_iinc, wq_ib, wq_lb, wq_i2l, wq_icmp, wq_if, wq_lcmp, wq_goto, wq_get, mGet_0, mGet_1, mGet_2, mGet_3, wq_ald, wq_ret0, wq_ret1, wq_ret2, wq_ret3, wq_ret4, ldR0, ldI1, ldI2, wq_callV3_0, ldI3, mrg_1_, mrg_100_, wq_callS3_1, fk_10_0, fk_7_2, fk_1_3, mrg_8_, stI4, wq_callV2_0, stI5, ldI5, mrg_m1_, stI6, ldI6, ldI4, wq_callS1_1, wqinc6, mPut_s, mPut_I0, mPut_R0, mPut_L0, mPut_I1, mPut_R1, mPut_L1, mrg_0_, mGo_n, sfxX10_enough_46, cutX10_enough_46, sfxX10_enough_49, cutX10_enough_49, sfxX10_enough_86, cutX10_enough_86, sfxX10_enough_92, cutX10_enough_92, wq_cut, mGo_c, mMask_t, mMask_f, mMask_n, kX10_enough_92, kX10_enough_86, kX10_enough_49, kX10_enough_46, kX10_enough_0, sk_13, al_13, rf_13_3, sk_26, al_26, sn_26, sk_0, al_0, rf_0_0, sk_10, al_10, rf_10_2, ald_n, ro0_n, al_ro, SX10_enough_0, SX10_enough_1, SX10_enough_2, SX10_enough_3, shqRII_, shqIII_, shqRI_, shqI_, spX10_needHit, spX10_needNumber, spX10_seenOf, spX10_leeway, mrg, mrl, mSet_ap, ncast, Option.some.injEq]
      refine ⟨H, hb, hh1, fun w => absurd w z, fun _ => h1⟩
theorem ctrX10_enough {l : Launch} (hst : l.stackTraces = false) (hT : mTxM l) : mCtr l calX10_enough spX10_enough :=
  mMet (T := TX10_enough) (S := SX10_enough) hst hT cutX10_enough (by decide) okX10_enough ⟨_, _, rfl, rfl⟩ trivial (fun t bs h => by rcases cutsX10_enough h with ⟨-, rfl⟩ <;> rfl) (fun a => match a with
    | 0 => ctrX10_needHit hst hT
    | 1 => ctrX10_needNumber hst hT
    | 2 => ctrX10_seenOf hst hT
    | 3 => ctrX10_leeway hst hT
    | _ + 4 => mCtr_no) vcX10_enough

def spX10_book : mSp := shRIII (fun _ i b h m I Q => i = some 0 ∧ clsI I ∧ mrg b ∧ mrg h ∧ mrg m ∧ (¬ hitP (I 201) b h → Q (.inr (mEx 0)) I) ∧ (hitP (I 201) b h → ¬ (0 ≤ m ∧ m ≤ 9999) → Q (.inr (mEx 1)) I) ∧ (hitP (I 201) b h → (0 ≤ m ∧ m ≤ 9999) → Q (.inl (some (mI (min 9999 (rawT (I 201) b h 4 + m))))) (mSet I 26 (8 * b + h) (min 9999 (rawT (I 201) b h 4 + m)))))
def SX10_book : Nat → mSp := fun a => match a with
  | 0 => spX10_needHit
  | 1 => spX10_needNumber
  | _ => fun _ _ _ _ => False
theorem SX10_book_0 : SX10_book 0 = spX10_needHit := Eq.trans rfl rfl
theorem SX10_book_1 : SX10_book 1 = spX10_needNumber := Eq.trans rfl rfl
set_option maxRecDepth 100000 in
set_option maxHeartbeats 1000000 in
theorem vcX10_book (fl : Nat → Bool) (avs : List mV) (I : mM) (Q : mO → mM → Prop) (hsp : spX10_book fl avs I Q) : mVC0 SX10_book fl Q kX10_book 5 avs I := by
  obtain ⟨i, b, hh, m, rfl, h0⟩ := shRIII_inv hsp
  refine ⟨rfl, ?_⟩
  show mWp _ _ _ _ _ _ kX10_book_0 [some (mR i), some (mI b), some (mI hh), some (mI m), none] [] I
  obtain ⟨rfl, H, hb, hh1, hm, h1, h2, h3⟩ := h0
  by_cases z : hitP (I 201) b hh
  · have er := H.se z
    have hn := H.1.2.1 b z.1 z.2.1
    have z3 := z.2.2.1
    have z4 := z.2.2.2
    have hr := (H.1.raw (b := b) (h := hh) ⟨z.1, z.2.1⟩ ⟨z3, by omega⟩).2.2.2.2
    have h2 := h2 z
    have h3 := h3 z
    rw [show 8 * b + hh = b * 8 + hh by omega] at h3
    clear h1
    simp only [false_and, and_false, true_or, or_true, false_or, or_false, true_and, and_true, true_implies, false_implies, implies_true, not_true_eq_false, not_false_eq_true, and_self, List.length_cons, List.length_nil, mNoCut_, mCat_n, mCat_I, mCat_L, mCat_R, mIsL_n, mIsL_I, mIsL_R, mIsL_L, Nat.reduceAdd, Nat.reduceSub, Nat.reduceLeDiff, Nat.reduceLT, Nat.reduceEqDiff, Nat.zero_le, Int.reduceEq, Int.reduceLT, Int.reduceLE, Int.reduceNeg, Int.reduceAdd, if_true, if_false, reduceIte, reduceCtorEq, Bool.false_eq_true, ne_eq, qCmp_0, qCmp_1, qCmp_2, qCmp_3, qCmp_4, qCmp_5, ib_0, ib_1, ib_2, lb_0, lb_1, lb_2, dv_0, dv_1, wq_ic, wq_ld_i, wq_ld_a, wq_st_i, wq_ib, wq_get, mGet_0, mGet_1, mGet_2, mGet_3, wq_ald, wq_astI, wq_astL, wq_ret0, wq_ret1, wq_ret2, wq_ret3, wq_ret4, wq_max, wq_min, wq_abs, wq_lmax, ldR0, ldI1, ldI2, wq_callV3_0, ldI3, mrg_0_, mrg_9999_, wq_callS3_1, mrg_8_, stI4, fk_10_0, fk_7_2, fk_1_3, ldI4, mPut_s, mPut_I0, mPut_R0, mPut_L0, mPut_I1, mPut_R1, mPut_L1, kX10_book_0, sk_13, al_13, rf_13_3, sk_26, al_26, sn_26, sk_0, al_0, rf_0_0, sk_10, al_10, rf_10_2, ald_n, ro0_n, al_ro, SX10_book_0, SX10_book_1, shqRII_, shqIII_, spX10_needHit, spX10_needNumber, mrg, mrl, mSet_ap, ncast, Option.some.injEq, er]
    (try simp only [mrg, mrl] at *) <;> repeat' (first | (with_reducible assumption) | (with_reducible apply And.intro) | intro _)
    all_goals first | omega | exact H | exact h2 (by omega) | exact h3 (by omega) | skip
  · have h1 := h1 z
    simp only [false_and, and_false, true_or, or_true, false_or, or_false, true_and, and_true, true_implies, false_implies, implies_true, not_true_eq_false, not_false_eq_true, and_self, List.length_cons, List.length_nil, mNoCut_, mCat_n, mCat_I, mCat_L, mCat_R, mIsL_n, mIsL_I, mIsL_R, mIsL_L, Nat.reduceAdd, Nat.reduceSub, Nat.reduceLeDiff, Nat.reduceLT, Nat.reduceEqDiff, Nat.zero_le, Int.reduceEq, Int.reduceLT, Int.reduceLE, Int.reduceNeg, Int.reduceAdd, if_true, if_false, reduceIte, reduceCtorEq, Bool.false_eq_true, ne_eq, qCmp_0, qCmp_1, qCmp_2, qCmp_3, qCmp_4, qCmp_5, ib_0, ib_1, ib_2, lb_0, lb_1, lb_2, dv_0, dv_1, wq_ic, wq_ld_i, wq_ld_a, wq_st_i, wq_ib, wq_get, mGet_0, mGet_1, mGet_2, mGet_3, wq_ald, wq_astI, wq_astL, wq_ret0, wq_ret1, wq_ret2, wq_ret3, wq_ret4, wq_max, wq_min, wq_abs, wq_lmax, ldR0, ldI1, ldI2, wq_callV3_0, ldI3, mrg_0_, mrg_9999_, wq_callS3_1, mrg_8_, stI4, fk_10_0, fk_7_2, fk_1_3, ldI4, mPut_s, mPut_I0, mPut_R0, mPut_L0, mPut_I1, mPut_R1, mPut_L1, kX10_book_0, sk_13, al_13, rf_13_3, sk_26, al_26, sn_26, sk_0, al_0, rf_0_0, sk_10, al_10, rf_10_2, ald_n, ro0_n, al_ro, SX10_book_0, SX10_book_1, shqRII_, shqIII_, spX10_needHit, spX10_needNumber, mrg, mrl, mSet_ap, ncast, Option.some.injEq]
    refine ⟨H, hb, hh1, fun w => absurd w z, fun _ => h1⟩
theorem ctrX10_book {l : Launch} (hst : l.stackTraces = false) (hT : mTxM l) : mCtr l calX10_book spX10_book :=
  mMet0 (T := TX10_book) (S := SX10_book) hst hT (by decide) okX10_book ⟨_, _, rfl, rfl⟩ (fun a => match a with
    | 0 => ctrX10_needHit hst hT
    | 1 => ctrX10_needNumber hst hT
    | _ + 2 => mCtr_no) vcX10_book

def spX10_chase : mSp := shRI (fun _ i n I Q => i = some 0 ∧ (n = 0 ∨ n = 1) ∧ (I 13 2 = 0 ∨ I 13 2 = 1) ∧ Q (.inl (some (mI (I 13 2)))) (mSet I 13 2 n))
def SX10_chase : Nat → mSp := fun a => match a with
  | _ => fun _ _ _ _ => False
set_option maxRecDepth 100000 in
set_option maxHeartbeats 1000000 in
theorem vcX10_chase (fl : Nat → Bool) (avs : List mV) (I : mM) (Q : mO → mM → Prop) (hsp : spX10_chase fl avs I Q) : mVC0 SX10_chase fl Q kX10_chase 3 avs I := by
  obtain ⟨i, n, rfl, h0⟩ := shRI_inv hsp
  refine ⟨rfl, ?_⟩
  show mWp _ _ _ _ _ _ kX10_chase_0 [some (mR i), some (mI n), none] [] I
  obtain ⟨rfl, hn, h2, h⟩ := h0
  simp only [false_and, and_false, true_or, or_true, false_or, or_false, true_and, and_true, true_implies, false_implies, implies_true, not_true_eq_false, not_false_eq_true, and_self, List.length_cons, List.length_nil, mNoCut_, mCat_n, mCat_I, mCat_L, mCat_R, mIsL_n, mIsL_I, mIsL_R, mIsL_L, Nat.reduceAdd, Nat.reduceSub, Nat.reduceLeDiff, Nat.reduceLT, Nat.reduceEqDiff, Nat.zero_le, Int.reduceEq, Int.reduceLT, Int.reduceLE, Int.reduceNeg, Int.reduceAdd, if_true, if_false, reduceIte, reduceCtorEq, Bool.false_eq_true, ne_eq, qCmp_0, qCmp_1, qCmp_2, qCmp_3, qCmp_4, qCmp_5, ib_0, ib_1, ib_2, lb_0, lb_1, lb_2, dv_0, dv_1, wq_ld_i, wq_ld_a, wq_st_i, wq_get, mGet_0, mGet_1, mGet_2, mGet_3, wq_putI, wq_putL, wq_ret0, wq_ret1, wq_ret2, wq_ret3, wq_ret4, ldR0, fk_10_0, fk_7_2, fk_1_2, stI2, ldI1, ldI2, mPut_s, mPut_I0, mPut_R0, mPut_L0, mPut_I1, mPut_R1, mPut_L1, kX10_chase_0, sk_13, al_13, sk_0, al_0, rf_0_0, sk_10, al_10, rf_10_2, mrg, mrl, mSet_ap, ncast, Option.some.injEq]
  (try simp only [mrg, mrl] at *) <;> repeat' (first | (with_reducible assumption) | (with_reducible apply And.intro) | intro _)
  all_goals first | omega | exact h | skip
theorem ctrX10_chase {l : Launch} (hst : l.stackTraces = false) (hT : mTxM l) : mCtr l calX10_chase spX10_chase :=
  mMet0 (T := TX10_chase) (S := SX10_chase) hst hT (by decide) okX10_chase ⟨_, _, rfl, rfl⟩ (fun a => mCtr_no) vcX10_chase

def spX10_score : mSp := shRI (fun _ i w I Q => i = some 0 ∧ mrg w ∧ (0 ≤ w ∧ w ≤ 3 → Q (.inl (some (mI (I 27 w)))) I) ∧ (¬ (0 ≤ w ∧ w ≤ 3) → Q (.inl (some (mI (-1)))) I))
def SX10_score : Nat → mSp := fun a => match a with
  | _ => fun _ _ _ _ => False
set_option maxRecDepth 100000 in
set_option maxHeartbeats 1000000 in
theorem vcX10_score (fl : Nat → Bool) (avs : List mV) (I : mM) (Q : mO → mM → Prop) (hsp : spX10_score fl avs I Q) : mVC0 SX10_score fl Q kX10_score 2 avs I := by
  obtain ⟨i, w, rfl, h0⟩ := shRI_inv hsp
  refine ⟨rfl, ?_⟩
  show mWp _ _ _ _ _ _ kX10_score_0 [some (mR i), some (mI w)] [] I
  obtain ⟨rfl, hw, h1, h2⟩ := h0
  simp only [false_and, and_false, true_or, or_true, false_or, or_false, true_and, and_true, true_implies, false_implies, implies_true, not_true_eq_false, not_false_eq_true, and_self, List.length_cons, List.length_nil, mNoCut_, mCat_n, mCat_I, mCat_L, mCat_R, mIsL_n, mIsL_I, mIsL_R, mIsL_L, Nat.reduceAdd, Nat.reduceSub, Nat.reduceLeDiff, Nat.reduceLT, Nat.reduceEqDiff, Nat.zero_le, Int.reduceEq, Int.reduceLT, Int.reduceLE, Int.reduceNeg, Int.reduceAdd, if_true, if_false, reduceIte, reduceCtorEq, Bool.false_eq_true, ne_eq, qCmp_0, qCmp_1, qCmp_2, qCmp_3, qCmp_4, qCmp_5, ib_0, ib_1, ib_2, lb_0, lb_1, lb_2, dv_0, dv_1, wq_ic, wq_ld_i, wq_ld_a, wq_icmp, wq_if, wq_goto, wq_get, mGet_0, mGet_1, mGet_2, mGet_3, wq_ald, wq_len, wq_ret0, wq_ret1, wq_ret2, wq_ret3, wq_ret4, ldI1, ldR0, fk_10_0, fk_7_2, fk_1_4, mrg_m1_, mrg_0_, mGo_n, sfxX10_score_34, cutX10_score_34, sfxX10_score_35, cutX10_score_35, kX10_score_35, kX10_score_34, kX10_score_0, sk_13, al_13, rf_13_4, sk_27, al_27, sn_27, sk_0, al_0, rf_0_0, sk_10, al_10, rf_10_2, ald_n, ro0_n, al_ro, len_n, mrg, mrl, mSet_ap, ncast, Option.some.injEq]
  (try simp only [mrg, mrl] at *) <;> repeat' (first | (with_reducible assumption) | (with_reducible apply And.intro) | intro _)
  all_goals first | omega | exact h1 (by omega) | exact h2 (by omega) | skip
theorem ctrX10_score {l : Launch} (hst : l.stackTraces = false) (hT : mTxM l) : mCtr l calX10_score spX10_score :=
  mMet0 (T := TX10_score) (S := SX10_score) hst hT (by decide) okX10_score ⟨_, _, rfl, rfl⟩ (fun a => mCtr_no) vcX10_score

def spX10_fault : mSp := shRI (fun _ i w I Q => i = some 0 ∧ mrg w ∧ (w = 0 → Q (.inl (some (mI (I 100 3)))) I) ∧ (w = 1 → Q (.inl (some (mI (I 100 4)))) I) ∧ (¬ (w = 0 ∨ w = 1) → Q (.inl (some (mI (-1)))) I))
def SX10_fault : Nat → mSp := fun a => match a with
  | _ => fun _ _ _ _ => False
set_option maxRecDepth 100000 in
set_option maxHeartbeats 1000000 in
theorem vcX10_fault (fl : Nat → Bool) (avs : List mV) (I : mM) (Q : mO → mM → Prop) (hsp : spX10_fault fl avs I Q) : mVC0 SX10_fault fl Q kX10_fault 2 avs I := by
  obtain ⟨i, w, rfl, h0⟩ := shRI_inv hsp
  refine ⟨rfl, ?_⟩
  show mWp _ _ _ _ _ _ kX10_fault_0 [some (mR i), some (mI w)] [] I
  obtain ⟨rfl, hw, h1, h2, h3⟩ := h0
  simp only [false_and, and_false, true_or, or_true, false_or, or_false, true_and, and_true, true_implies, false_implies, implies_true, not_true_eq_false, not_false_eq_true, and_self, List.length_cons, List.length_nil, mNoCut_, mCat_n, mCat_I, mCat_L, mCat_R, mIsL_n, mIsL_I, mIsL_R, mIsL_L, Nat.reduceAdd, Nat.reduceSub, Nat.reduceLeDiff, Nat.reduceLT, Nat.reduceEqDiff, Nat.zero_le, Int.reduceEq, Int.reduceLT, Int.reduceLE, Int.reduceNeg, Int.reduceAdd, if_true, if_false, reduceIte, reduceCtorEq, Bool.false_eq_true, ne_eq, qCmp_0, qCmp_1, qCmp_2, qCmp_3, qCmp_4, qCmp_5, ib_0, ib_1, ib_2, lb_0, lb_1, lb_2, dv_0, dv_1, wq_ic, wq_ld_i, wq_ld_a, wq_icmp, wq_if, wq_goto, wq_get, mGet_0, mGet_1, mGet_2, mGet_3, wq_ret0, wq_ret1, wq_ret2, wq_ret3, wq_ret4, ldI1, ldR0, fk_10_3, fk_5_3, mrg_1_, fk_5_4, mrg_m1_, mrg_0_, mGo_n, sfxX10_fault_12, cutX10_fault_12, sfxX10_fault_27, cutX10_fault_27, sfxX10_fault_28, cutX10_fault_28, kX10_fault_28, kX10_fault_27, kX10_fault_12, kX10_fault_0, sk_0, al_0, rf_0_3, sk_100, al_100, mrg, mrl, mSet_ap, ncast, Option.some.injEq]
  (try simp only [mrg, mrl] at *) <;> repeat' (first | (with_reducible assumption) | (with_reducible apply And.intro) | intro _)
  all_goals first | omega | exact h1 (by omega) | exact h2 (by omega) | exact h3 (by omega) | skip
theorem ctrX10_fault {l : Launch} (hst : l.stackTraces = false) (hT : mTxM l) : mCtr l calX10_fault spX10_fault :=
  mMet0 (T := TX10_fault) (S := SX10_fault) hst hT (by decide) okX10_fault ⟨_, _, rfl, rfl⟩ (fun a => mCtr_no) vcX10_fault

def spX11_fault : mSp := shRI (fun _ i w I Q => i = some 200 ∧ mrg w ∧ (w = 0 → Q (.inl (some (mI (I 200 14)))) (mSet I 200 3 0)) ∧ (w = 1 → Q (.inl (some (mI (I 200 15)))) (mSet I 200 3 0)) ∧ (¬ (w = 0 ∨ w = 1) → Q (.inl (some (mI (-1)))) (mSet I 200 3 0)))
def SX11_fault : Nat → mSp := fun a => match a with
  | _ => fun _ _ _ _ => False
set_option maxRecDepth 100000 in
set_option maxHeartbeats 1000000 in
theorem vcX11_fault (fl : Nat → Bool) (avs : List mV) (I : mM) (Q : mO → mM → Prop) (hsp : spX11_fault fl avs I Q) : mVC0 SX11_fault fl Q kX11_fault 2 avs I := by
  obtain ⟨i, w, rfl, h0⟩ := shRI_inv hsp
  refine ⟨rfl, ?_⟩
  show mWp _ _ _ _ _ _ kX11_fault_0 [some (mR i), some (mI w)] [] I
  obtain ⟨rfl, hw, h1, h2, h3⟩ := h0
  simp only [false_and, and_false, true_or, or_true, false_or, or_false, true_and, and_true, true_implies, false_implies, implies_true, not_true_eq_false, not_false_eq_true, and_self, List.length_cons, List.length_nil, mNoCut_, mCat_n, mCat_I, mCat_L, mCat_R, mIsL_n, mIsL_I, mIsL_R, mIsL_L, Nat.reduceAdd, Nat.reduceSub, Nat.reduceLeDiff, Nat.reduceLT, Nat.reduceEqDiff, Nat.zero_le, Int.reduceEq, Int.reduceLT, Int.reduceLE, Int.reduceNeg, Int.reduceAdd, if_true, if_false, reduceIte, reduceCtorEq, Bool.false_eq_true, ne_eq, qCmp_0, qCmp_1, qCmp_2, qCmp_3, qCmp_4, qCmp_5, ib_0, ib_1, ib_2, lb_0, lb_1, lb_2, dv_0, dv_1, wq_ic, wq_ld_i, wq_ld_a, wq_icmp, wq_if, wq_goto, wq_get, mGet_0, mGet_1, mGet_2, mGet_3, wq_putI, wq_putL, wq_ret0, wq_ret1, wq_ret2, wq_ret3, wq_ret4, ldR0, mrg_0_, fk_11_3, ldI1, fk_11_14, mrg_1_, fk_11_15, mrg_m1_, mGo_n, sfxX11_fault_16, cutX11_fault_16, sfxX11_fault_28, cutX11_fault_28, sfxX11_fault_29, cutX11_fault_29, kX11_fault_29, kX11_fault_28, kX11_fault_16, kX11_fault_0, sk_200, al_200, mrg, mrl, mSet_ap, ncast, Option.some.injEq]
  (try simp only [mrg, mrl] at *) <;> repeat' (first | (with_reducible assumption) | (with_reducible apply And.intro) | intro _)
  all_goals first | omega | exact h1 (by omega) | exact h2 (by omega) | exact h3 (by omega) | skip
theorem ctrX11_fault {l : Launch} (hst : l.stackTraces = false) (hT : mTxM l) : mCtr l calX11_fault spX11_fault :=
  mMet0 (T := TX11_fault) (S := SX11_fault) hst hT (by decide) okX11_fault ⟨_, _, rfl, rfl⟩ (fun a => mCtr_no) vcX11_fault

end SPC9
