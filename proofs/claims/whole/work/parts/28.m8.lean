section SPM8
/-- the reference's row once FIELDER f stands on c -/
def putT (t : Int → Int) (f c : Int) : Int → Int := fun q => if q = 550 + 5 * f then c else t q
theorem WFt.put {t : Int → Int} (H : WFt t) {f c : Int} (hf : 0 ≤ f ∧ f < 9) (hc : -1 ≤ c ∧ c ≤ 288) : WFt (putT t f c) := by
  obtain ⟨h1, h2, h3, h4, h5, h6, h7⟩ := H
  have ne : ∀ q, (q < 550 ∨ 595 ≤ q) → putT t f c q = t q := fun q hq => if_neg (by omega)
  refine ⟨?_, fun b b0 b1 => ?_, fun k k0 k1 => ?_, fun k k0 k1 => ?_, fun b h b0 b1 i0 i1 => ?_, fun g g0 g1 => ?_, fun i i0 i1 => ⟨?_, fun g g0 g1 => ?_⟩⟩
  · rw [ne 0 (by omega), ne 1 (by omega), ne 2 (by omega), ne 3 (by omega), ne 4 (by omega), ne 5 (by omega), ne 6 (by omega), ne 7 (by omega), ne 8 (by omega)]
    exact h1
  · rw [ne _ (by omega)]
    exact h2 b b0 b1
  · rw [ne _ (by omega)]
    exact h3 k k0 k1
  · rw [ne _ (by omega), ne _ (by omega), ne _ (by omega), ne _ (by omega), ne _ (by omega)]
    exact h4 k k0 k1
  · rw [ne (13 + b) (by omega)] at i1
    have := h2 b b0 b1
    rw [ne _ (by omega)]
    exact h5 b h b0 b1 i0 i1
  · have h := h6 g g0 g1
    rw [show putT t f c (551 + 5 * g) = t (551 + 5 * g) from if_neg (by omega), show putT t f c (552 + 5 * g) = t (552 + 5 * g) from if_neg (by omega), show putT t f c (553 + 5 * g) = t (553 + 5 * g) from if_neg (by omega), show putT t f c (554 + 5 * g) = t (554 + 5 * g) from if_neg (by omega)]
    refine ⟨?_, h.2⟩
    unfold putT
    split
    · exact hc
    · exact h.1
  · rw [ne _ (by omega)]
    exact (h7 i i0 i1).1
  · rw [ne _ (by omega)]
    exact (h7 i i0 i1).2 g g0 g1
/-- the CELL that is best for f, and the MEAN there; w is what stood before -/
def oneGo (t : Int → Int) (f b w : Int) : Nat → Int × Int
  | 0 => (-1, w)
  | n + 1 => if judgeT (putT t f n) = -1 ∧ ((oneGo t f b w n).1 = -1 ∨ meanT (putT t f n) b < (oneGo t f b w n).2) then ((n : Int), meanT (putT t f n) b) else oneGo t f b w n
theorem oneGo_bd (t : Int → Int) (f b w : Int) : ∀ n : Nat, -1 ≤ (oneGo t f b w n).1 ∧ (oneGo t f b w n).1 < n
  | 0 => by simp [oneGo]
  | n + 1 => by
    have h := oneGo_bd t f b w n
    unfold oneGo
    split
    · exact ⟨by show (-1 : Int) ≤ (n : Int); omega, by show (n : Int) < ((n + 1 : Nat) : Int); omega⟩
    · omega
def oneT (t : Int → Int) (f b w : Int) : Int × Int := if t (13 + b) = 0 then (-1, w) else oneGo t f b w 289
theorem set_put (I : mM) (f c : Int) : mSet I 201 (550 + 5 * f) c 201 = putT (I 201) f c := by
  funext q
  simp [mSet, putT]
theorem set_self (I : mM) (i : Nat) (p : Int) : mSet I i p (I i p) = I := by
  funext j q
  simp only [mSet]
  split
  · rename_i h
    obtain ⟨rfl, rfl⟩ := h
    rfl
  · rfl
theorem set_over (I : mM) (i j : Nat) (p r v x y : Int) (h : i ≠ j) : mSet (mSet (mSet I i p v) j r x) i p y = mSet (mSet I i p y) j r x := by
  funext a q
  simp only [mSet]
  repeat' split
  all_goals first | rfl | omega
theorem set_over1 (I : mM) (i : Nat) (p v y : Int) : mSet (mSet I i p v) i p y = mSet I i p y := by
  funext a q
  simp only [mSet]
  repeat' split
  all_goals rfl
theorem meanT_bd {t : Int → Int} (H : WFt t) {b : Int} (hb : 0 ≤ b ∧ b < 6) : -1568160000 ≤ meanT t b ∧ meanT t b ≤ 1568160000 := by
  have hn := H.2.1 b hb.1 hb.2
  have h7 := H.1.2.2.2.2.2.2.2.1
  have h1 := sumN_bd H hb (t (13 + b)).toNat (by omega)
  have h2 := mostN_bd H hb (t (13 + b)).toNat (by omega)
  have h3 := allN_bd H hb (t (13 + b)).toNat (by omega)
  have hs : 0 ≤ shareT t ∧ shareT t ≤ 100 := by unfold shareT; split <;> omega
  have a1 := mul_abs_bd (x := 100 - shareT t) (a := 100) (b := 7840800) (y := sumN t b (t (13 + b)).toNat) ⟨by omega, by omega⟩ ⟨by omega, by omega⟩
  have a2 := mul_abs_bd (b := 9900) hs (y := mostN t b (t (13 + b)).toNat) ⟨by omega, by omega⟩
  have a3 := mul_abs_bd (x := allN t b (t (13 + b)).toNat) (a := 792) (b := 990000) (y := shareT t * mostN t b (t (13 + b)).toNat) ⟨by omega, by omega⟩ ⟨by omega, by omega⟩
  rw [Int.mul_comm (allN t b (t (13 + b)).toNat)] at a3
  unfold meanT allT
  omega
theorem oneGo_mean (t : Int → Int) (f b w : Int) : ∀ n : Nat, (oneGo t f b w n).1 ≠ -1 → ∃ k : Nat, k < n ∧ (oneGo t f b w n).1 = k ∧ (oneGo t f b w n).2 = meanT (putT t f k) b ∧ judgeT (putT t f k) = -1
  | 0, h => absurd rfl h
  | n + 1, h => by
    unfold oneGo at h ⊢
    split
    · rename_i q
      exact ⟨n, by omega, rfl, rfl, q.1⟩
    · rename_i q
      rw [if_neg q] at h
      obtain ⟨k, k1, k2⟩ := oneGo_mean t f b w n h
      exact ⟨k, by omega, k2⟩
def spX11_oneOf : mSp := shRII (fun _ i f b I Q => i = some 200 ∧ WFt (I 201) ∧ (0 ≤ f ∧ f < 9) ∧ (0 ≤ b ∧ b < 6) ∧ Q (.inl (some (mI (oneT (I 201) f b (I 200 18)).1))) (mSet I 200 18 (oneT (I 201) f b (I 200 18)).2))
def SX11_oneOf : Nat → mSp := fun a => match a with
  | 0 => spX11_standOf
  | 1 => spX11_puts
  | 2 => spX11_isLawful
  | 3 => spX11_meanOf
  | _ => fun _ _ _ _ => False
theorem SX11_oneOf_0 : SX11_oneOf 0 = spX11_standOf := Eq.trans rfl rfl
theorem SX11_oneOf_1 : SX11_oneOf 1 = spX11_puts := Eq.trans rfl rfl
theorem SX11_oneOf_2 : SX11_oneOf 2 = spX11_isLawful := Eq.trans rfl rfl
theorem SX11_oneOf_3 : SX11_oneOf 3 = spX11_meanOf := Eq.trans rfl rfl
theorem cutsX11_oneOf {t : Nat} {bs : List Bool} (h : cutX11_oneOf t = some bs) : (t = 26 ∧ bs = [true, true, true, true, true, true, false, false]) := by
  unfold cutX11_oneOf at h
  simp only [mLk] at h
  by_cases h0 : 26 = t
  · subst h0
    simp at h
    exact ⟨rfl, h.symm⟩
  rw [if_neg h0] at h
  cases h
set_option maxRecDepth 100000 in
set_option maxHeartbeats 4000000 in
theorem vcX11_oneOf (fl : Nat → Bool) (avs : List mV) (I : mM) (Q : mO → mM → Prop) (hsp : spX11_oneOf fl avs I Q) : mVC SX11_oneOf fl Q kX11_oneOf cutX11_oneOf 8 avs I := by
  obtain ⟨i, f, b, rfl, h0⟩ := shRII_inv hsp
  obtain ⟨rfl, H, hf, hb, h⟩ := h0
  have fl1 := H.fld hf
  refine ⟨rfl, (fun n t lv st I1 => st = [] ∧ ∃ (c : Int) (j : Nat), lv = [some (mR (some 200)), some (mI f), some (mI b), some (mI (stT (I 201) f)), some (mI (oneGo (I 201) f b (I 200 18) j).1), some (mI j), none, none] ∧ I1 = mSet (mSet I 201 (550 + 5 * f) c) 200 18 (oneGo (I 201) f b (I 200 18) j).2 ∧ ¬ I 201 (13 + b) = 0 ∧ j ≤ 289 ∧ n = 289 - j), ?_, ?_⟩
  · intro n t bs hbs lv st I1 hc
    rcases cutsX11_oneOf hbs with ⟨rfl, rfl⟩
    rw [sfxX11_oneOf_26]
    obtain ⟨rfl, c, j, rfl, eI, hn0, hj, hn⟩ := hc
    simp only [true_or, or_true, false_or, or_false, true_and, and_true, true_implies, false_implies, implies_true, not_true_eq_false, not_false_eq_true, and_self, List.length_cons, List.length_nil, mNoCut_, mCat_n, mCat_I, mCat_L, mCat_R, mIsL_n, mIsL_I, mIsL_R, mIsL_L, Nat.reduceAdd, Nat.reduceSub, Nat.reduceLeDiff, Nat.reduceLT, Nat.reduceEqDiff, Nat.zero_le, Int.reduceEq, Int.reduceLT, Int.reduceLE, Int.reduceNeg, Int.reduceAdd, if_true, if_false, reduceIte, reduceCtorEq, Bool.false_eq_true, ne_eq, qCmp_0, qCmp_1, qCmp_2, qCmp_3, qCmp_4, qCmp_5, ib_0, ib_1, ib_2, lb_0, lb_1, lb_2, dv_0, dv_1, wq_ic, wq_ld_i, wq_ld_l, wq_ld_a, wq_st_i, wq_st_l, wq_iinc, wq_ib, wq_icmp, wq_if, wq_lcmp, wq_goto, wq_get, mGet_0, mGet_1, mGet_2, mGet_3, wq_putI, wq_putL, wq_ald, wq_ret0, wq_ret1, wq_ret2, wq_ret3, wq_ret4, ldR0, fk_11_0, mrg_13_, ldI2, mrg_m1_, ldI1, wq_callV2_0, stI3, stI4, mrg_0_, stI5, ldI5, mrg_289_, wq_callV3_0, wq_callV1_0, stL6, ldI4, ldL6, fk_11_18, wqinc5, ldI3, mPut_s, mPut_I0, mPut_R0, mPut_L0, mPut_I1, mPut_R1, mPut_L1, mGo_n, sfxX11_oneOf_14, cutX11_oneOf_14, sfxX11_oneOf_26, cutX11_oneOf_26, sfxX11_oneOf_51, cutX11_oneOf_51, sfxX11_oneOf_77, cutX11_oneOf_77, sfxX11_oneOf_87, cutX11_oneOf_87, sfxX11_oneOf_93, cutX11_oneOf_93, wq_cut, mGo_c, mMask_t, mMask_f, mMask_n, kX11_oneOf_93, kX11_oneOf_87, kX11_oneOf_77, kX11_oneOf_51, kX11_oneOf_26, kX11_oneOf_14, kX11_oneOf_0, sk_200, al_200, rf_200_0, sk_201, al_201, sn_201, ald_n, ro0_n, al_ro, SX11_oneOf_0, SX11_oneOf_1, SX11_oneOf_2, SX11_oneOf_3, shqRI_, shqRII_, shqR_, spX11_standOf, spX11_puts, spX11_isLawful, spX11_meanOf, mrg, mrl, mSet_ap, ncast, Option.some.injEq]
    have og := oneGo_bd (I 201) f b (I 200 18) j
    have om := oneGo_mean (I 201) f b (I 200 18) j
    have os : oneGo (I 201) f b (I 200 18) (j + 1) = if judgeT (putT (I 201) f j) = -1 ∧ ((oneGo (I 201) f b (I 200 18) j).1 = -1 ∨ meanT (putT (I 201) f j) b < (oneGo (I 201) f b (I 200 18) j).2) then ((j : Int), meanT (putT (I 201) f j) b) else oneGo (I 201) f b (I 200 18) j := rfl
    have e1 : ∀ x, mSet I1 201 (550 + 5 * f) x 201 = putT (I 201) f x := fun x => by rw [eI, set_over I 201 200 _ _ _ _ _ (by decide)]; exact set_put I f x
    have e2 : I1 200 18 = (oneGo (I 201) f b (I 200 18) j).2 := by rw [eI]; simp [mSet]
    have e3 : ∀ x, mSet I1 201 (550 + 5 * f) x = mSet (mSet I 201 (550 + 5 * f) x) 200 18 (oneGo (I 201) f b (I 200 18) j).2 := fun x => by rw [eI, set_over I 201 200 _ _ _ _ _ (by decide)]
    have e4 : ∀ x v, mSet (mSet I1 201 (550 + 5 * f) x) 200 18 v = mSet (mSet I 201 (550 + 5 * f) x) 200 18 v := fun x v => by rw [e3, set_over1]
    simp only [e1, e2, e4, e3, false_and, if_false]
    clear e1 e2 e3 e4 eI
    refine ⟨⟨by omega, by omega⟩, fun z => ?_, fun z => ?_⟩
    · have : j = 289 := by omega
      subst this
      have e5 : mSet I 201 (550 + 5 * f) (stT (I 201) f) = I := set_self I 201 (550 + 5 * f)
      rw [e5]
      unfold oneT at h
      rw [if_neg hn0] at h
      exact ⟨hf, h⟩
    · have H2 := H.put hf (c := j) ⟨by omega, by omega⟩
      have mb := meanT_bd H2 hb
      refine ⟨hf, H2, fun y => ⟨H2, hb, ⟨by omega, by omega⟩, fun x => ?_, fun x => ?_⟩, fun y => ?_⟩
      · rw [if_pos ⟨y, Or.inl x⟩] at os
        exact ⟨289 - (j + 1), by omega, j, j + 1, by rw [os]; rfl, by rw [os, set_over1], hn0, by omega, rfl⟩
      · obtain ⟨k, k1, k2, k3, k4⟩ := om x
        have m2 := meanT_bd (H.put hf (c := k) ⟨by omega, by omega⟩) hb
        rw [← k3] at m2
        refine ⟨⟨⟨by omega, by omega⟩, by omega, by omega⟩, fun u => ?_, fun u => ?_⟩
        · rw [if_pos ⟨y, Or.inr u⟩] at os
          exact ⟨289 - (j + 1), by omega, j, j + 1, by rw [os]; rfl, by rw [os, set_over1], hn0, by omega, rfl⟩
        · rw [if_neg (fun q => q.2.elim x u)] at os
          exact ⟨289 - (j + 1), by omega, j, j + 1, by rw [os]; rfl, by rw [os], hn0, by omega, rfl⟩
      · rw [if_neg (fun q => y q.1)] at os
        exact ⟨289 - (j + 1), by omega, j, j + 1, by rw [os]; rfl, by rw [os], hn0, by omega, rfl⟩
  · show mWp _ _ _ _ _ _ kX11_oneOf_0 [some (mR (some 200)), some (mI f), some (mI b), none, none, none, none, none] [] I
    simp only [true_or, or_true, false_or, or_false, true_and, and_true, true_implies, false_implies, implies_true, not_true_eq_false, not_false_eq_true, and_self, List.length_cons, List.length_nil, mNoCut_, mCat_n, mCat_I, mCat_L, mCat_R, mIsL_n, mIsL_I, mIsL_R, mIsL_L, Nat.reduceAdd, Nat.reduceSub, Nat.reduceLeDiff, Nat.reduceLT, Nat.reduceEqDiff, Nat.zero_le, Int.reduceEq, Int.reduceLT, Int.reduceLE, Int.reduceNeg, Int.reduceAdd, if_true, if_false, reduceIte, reduceCtorEq, Bool.false_eq_true, ne_eq, qCmp_0, qCmp_1, qCmp_2, qCmp_3, qCmp_4, qCmp_5, ib_0, ib_1, ib_2, lb_0, lb_1, lb_2, dv_0, dv_1, wq_ic, wq_ld_i, wq_ld_l, wq_ld_a, wq_st_i, wq_st_l, wq_iinc, wq_ib, wq_icmp, wq_if, wq_lcmp, wq_goto, wq_get, mGet_0, mGet_1, mGet_2, mGet_3, wq_putI, wq_putL, wq_ald, wq_ret0, wq_ret1, wq_ret2, wq_ret3, wq_ret4, ldR0, fk_11_0, mrg_13_, ldI2, mrg_m1_, ldI1, wq_callV2_0, stI3, stI4, mrg_0_, stI5, ldI5, mrg_289_, wq_callV3_0, wq_callV1_0, stL6, ldI4, ldL6, fk_11_18, wqinc5, ldI3, mPut_s, mPut_I0, mPut_R0, mPut_L0, mPut_I1, mPut_R1, mPut_L1, mGo_n, sfxX11_oneOf_14, cutX11_oneOf_14, sfxX11_oneOf_26, cutX11_oneOf_26, sfxX11_oneOf_51, cutX11_oneOf_51, sfxX11_oneOf_77, cutX11_oneOf_77, sfxX11_oneOf_87, cutX11_oneOf_87, sfxX11_oneOf_93, cutX11_oneOf_93, wq_cut, mGo_c, mMask_t, mMask_f, mMask_n, kX11_oneOf_93, kX11_oneOf_87, kX11_oneOf_77, kX11_oneOf_51, kX11_oneOf_26, kX11_oneOf_14, kX11_oneOf_0, sk_200, al_200, rf_200_0, sk_201, al_201, sn_201, ald_n, ro0_n, al_ro, SX11_oneOf_0, SX11_oneOf_1, SX11_oneOf_2, SX11_oneOf_3, shqRI_, shqRII_, shqR_, spX11_standOf, spX11_puts, spX11_isLawful, spX11_meanOf, mrg, mrl, mSet_ap, ncast, Option.some.injEq]
    have hn := H.2.1 b hb.1 hb.2
    refine ⟨⟨by omega, by omega⟩, ⟨by omega, by omega⟩, fun z => ⟨hf, 289, stT (I 201) f, 0, rfl, ?_, z, by omega, rfl⟩, fun z => ?_⟩
    · have e5 : mSet I 201 (550 + 5 * f) (stT (I 201) f) = I := set_self I 201 (550 + 5 * f)
      rw [e5]
      exact (set_self I 200 18).symm
    · unfold oneT at h
      rw [if_pos (by omega)] at h
      have e6 : mSet I 200 18 (I 200 18) = I := set_self I 200 18
      simp only [e6] at h
      exact h
theorem ctrX11_oneOf {l : Launch} (hst : l.stackTraces = false) (hT : mTxM l) : mCtr l calX11_oneOf spX11_oneOf :=
  mMet (T := TX11_oneOf) (S := SX11_oneOf) hst hT cutX11_oneOf (by decide) okX11_oneOf ⟨_, _, rfl, rfl⟩ trivial (fun t bs h => by rcases cutsX11_oneOf h with ⟨-, rfl⟩ <;> rfl) (fun a => match a with
    | 0 => ctrX11_standOf hst hT
    | 1 => ctrX11_puts hst hT
    | 2 => ctrX11_isLawful hst hT
    | 3 => ctrX11_meanOf hst hT
    | _ + 4 => mCtr_no) vcX11_oneOf

end SPM8
