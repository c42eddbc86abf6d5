section SPM10
/-- upper and lower in lowest terms -/
def upT (a b : Int) : Int := a.tdiv (Nat.gcd a.natAbs b.natAbs)
def loT (a b : Int) : Int := b.tdiv (Nat.gcd a.natAbs b.natAbs)
theorem set_twice (I : mM) (x y : Int) : mSet (mSet (mSet (mSet I 200 16 0) 200 17 0) 200 16 x) 200 17 y = mSet (mSet I 200 16 x) 200 17 y := by
  funext k q
  simp only [mSet]
  repeat' split
  all_goals first | rfl | omega
def spX11_takes : mSp := shRLL (fun _ i a b I Q => i = some 200 ∧ (-4000000000000000000 ≤ a ∧ a ≤ 4000000000000000000) ∧ (0 ≤ b ∧ b ≤ 4000000000000000000) ∧ (b = 0 → Q (.inl (some (mI 0))) (mSet (mSet I 200 16 0) 200 17 0)) ∧ (¬ b = 0 → Q (.inl (some (mI 1))) (mSet (mSet I 200 16 (upT a b)) 200 17 (loT a b))))
def SX11_takes : Nat → mSp := fun a => match a with
  | _ => fun _ _ _ _ => False
theorem cutsX11_takes {t : Nat} {bs : List Bool} (h : cutX11_takes t = some bs) : (t = 35 ∧ bs = [true, true, false, true, false, true, false, true, false, false, false]) := by
  unfold cutX11_takes at h
  simp only [mLk] at h
  by_cases h0 : 35 = t
  · subst h0
    simp at h
    exact ⟨rfl, h.symm⟩
  rw [if_neg h0] at h
  cases h
set_option maxRecDepth 100000 in
set_option maxHeartbeats 4000000 in
theorem vcX11_takes (fl : Nat → Bool) (avs : List mV) (I : mM) (Q : mO → mM → Prop) (hsp : spX11_takes fl avs I Q) : mVC SX11_takes fl Q kX11_takes cutX11_takes 11 avs I := by
  obtain ⟨i, a, b, rfl, h0⟩ := shRLL_inv hsp
  obtain ⟨rfl, ha, hb, h1, h2⟩ := h0
  refine ⟨rfl, (fun n t lv st I1 => st = [] ∧ ∃ (x y : Nat), lv = [some (mR (some 200)), some (mL a), none, some (mL b), none, some (mL x), none, some (mL y), none, none, none] ∧ I1 = mSet (mSet I 200 16 0) 200 17 0 ∧ ¬ b = 0 ∧ Nat.gcd x y = Nat.gcd a.natAbs b.natAbs ∧ x ≤ 4000000000000000000 ∧ y ≤ 4000000000000000000 ∧ n = y), ?_, ?_⟩
  · intro n t bs hbs lv st I1 hc
    rcases cutsX11_takes hbs with ⟨rfl, rfl⟩
    rw [sfxX11_takes_35]
    obtain ⟨rfl, x, y, rfl, eI, hb0, hg, hx, hy, hn⟩ := hc
    simp only [true_or, or_true, false_or, or_false, true_and, and_true, true_implies, false_implies, implies_true, not_true_eq_false, not_false_eq_true, and_self, List.length_cons, List.length_nil, mNoCut_, mCat_n, mCat_I, mCat_L, mCat_R, mIsL_n, mIsL_I, mIsL_R, mIsL_L, Nat.reduceAdd, Nat.reduceSub, Nat.reduceLeDiff, Nat.reduceLT, Nat.reduceEqDiff, Nat.zero_le, Int.reduceEq, Int.reduceLT, Int.reduceLE, Int.reduceNeg, Int.reduceAdd, if_true, if_false, reduceIte, reduceCtorEq, Bool.false_eq_true, ne_eq, qCmp_0, qCmp_1, qCmp_2, qCmp_3, qCmp_4, qCmp_5, ib_0, ib_1, ib_2, lb_0, lb_1, lb_2, dv_0, dv_1, wq_ic, wq_lc, wq_ld_l, wq_ld_a, wq_st_l, wq_lneg, wq_ldv, wq_lcmp, wq_goto, wq_putI, wq_putL, wq_ret0, wq_ret1, wq_ret2, wq_ret3, wq_ret4, ldR0, fk_11_16, fk_11_17, ldL3, mrg_0_, ldL1, stL5, stL7, ldL7, ldL5, stL9, ldL9, mrg_1_, mPut_s, mPut_I0, mPut_R0, mPut_L0, mPut_I1, mPut_R1, mPut_L1, mGo_n, sfxX11_takes_18, cutX11_takes_18, sfxX11_takes_29, cutX11_takes_29, sfxX11_takes_30, cutX11_takes_30, sfxX11_takes_35, cutX11_takes_35, sfxX11_takes_60, cutX11_takes_60, wq_cut, mGo_c, mMask_t, mMask_f, mMask_n, kX11_takes_60, kX11_takes_35, kX11_takes_30, kX11_takes_29, kX11_takes_18, kX11_takes_0, sk_200, al_200, mrg, mrl, mSet_ap, ncast, Option.some.injEq]
    have ht : (x : Int).tmod y = ((x % y : Nat) : Int) := rfl
    refine ⟨⟨by omega, by omega⟩, fun z => ?_, fun z => ?_⟩
    · have y0 : y = 0 := by omega
      subst y0
      rw [Nat.gcd_zero_right] at hg
      have hx0 : ¬ (x : Int) = 0 := fun w => hb0 (by
        have w0 : Nat.gcd a.natAbs b.natAbs = 0 := by omega
        have := Nat.eq_zero_of_gcd_eq_zero_right w0
        omega)
      refine ⟨⟨⟨by omega, by omega⟩, ⟨by omega, by omega⟩, hx0⟩, ⟨⟨by omega, by omega⟩, ⟨by omega, by omega⟩, hx0⟩, ?_⟩
      have h := h2 hb0
      unfold upT loT at h
      rw [← hg] at h
      rw [eI, set_twice]
      exact h
    · have hlt : x % y < y := Nat.mod_lt _ (by omega)
      exact ⟨⟨⟨by omega, by omega⟩, ⟨by omega, by omega⟩, z⟩, x % y, by omega, y, x % y, by rw [ht], eI, hb0, by rw [← hg, Nat.gcd_comm y, Nat.gcd_comm x, ← Nat.gcd_rec], by omega, by omega, rfl⟩
  · show mWp _ _ _ _ _ _ kX11_takes_0 [some (mR (some 200)), some (mL a), none, some (mL b), none, none, none, none, none, none, none] [] I
    simp only [true_or, or_true, false_or, or_false, true_and, and_true, true_implies, false_implies, implies_true, not_true_eq_false, not_false_eq_true, and_self, List.length_cons, List.length_nil, mNoCut_, mCat_n, mCat_I, mCat_L, mCat_R, mIsL_n, mIsL_I, mIsL_R, mIsL_L, Nat.reduceAdd, Nat.reduceSub, Nat.reduceLeDiff, Nat.reduceLT, Nat.reduceEqDiff, Nat.zero_le, Int.reduceEq, Int.reduceLT, Int.reduceLE, Int.reduceNeg, Int.reduceAdd, if_true, if_false, reduceIte, reduceCtorEq, Bool.false_eq_true, ne_eq, qCmp_0, qCmp_1, qCmp_2, qCmp_3, qCmp_4, qCmp_5, ib_0, ib_1, ib_2, lb_0, lb_1, lb_2, dv_0, dv_1, wq_ic, wq_lc, wq_ld_l, wq_ld_a, wq_st_l, wq_lneg, wq_ldv, wq_lcmp, wq_goto, wq_putI, wq_putL, wq_ret0, wq_ret1, wq_ret2, wq_ret3, wq_ret4, ldR0, fk_11_16, fk_11_17, ldL3, mrg_0_, ldL1, stL5, stL7, ldL7, ldL5, stL9, ldL9, mrg_1_, mPut_s, mPut_I0, mPut_R0, mPut_L0, mPut_I1, mPut_R1, mPut_L1, mGo_n, sfxX11_takes_18, cutX11_takes_18, sfxX11_takes_29, cutX11_takes_29, sfxX11_takes_30, cutX11_takes_30, sfxX11_takes_35, cutX11_takes_35, sfxX11_takes_60, cutX11_takes_60, wq_cut, mGo_c, mMask_t, mMask_f, mMask_n, kX11_takes_60, kX11_takes_35, kX11_takes_30, kX11_takes_29, kX11_takes_18, kX11_takes_0, sk_200, al_200, mrg, mrl, mSet_ap, ncast, Option.some.injEq]
    refine ⟨⟨by omega, by omega⟩, fun z => ⟨⟨by omega, by omega⟩, fun w => ⟨b.natAbs, a.natAbs, b.natAbs, ?_, z, rfl, by omega, by omega, rfl⟩, fun w => ⟨b.natAbs, a.natAbs, b.natAbs, ?_, z, rfl, by omega, by omega, rfl⟩⟩, fun z => h1 (by omega)⟩
    · rw [show ((a.natAbs : Nat) : Int) = a by omega, show ((b.natAbs : Nat) : Int) = b by omega]
    · rw [show ((a.natAbs : Nat) : Int) = -a by omega, show ((b.natAbs : Nat) : Int) = b by omega]
theorem ctrX11_takes {l : Launch} (hst : l.stackTraces = false) (hT : mTxM l) : mCtr l calX11_takes spX11_takes :=
  mMet (T := TX11_takes) (S := SX11_takes) hst hT cutX11_takes (by decide) okX11_takes ⟨_, _, rfl, rfl⟩ trivial (fun t bs h => by rcases cutsX11_takes h with ⟨-, rfl⟩ <;> rfl) (fun a => mCtr_no) vcX11_takes

end SPM10
