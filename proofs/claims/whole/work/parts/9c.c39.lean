section SPC39
theorem grC.slow {I : mM} {t : Int → Int} (H : cnP t) (G : grC I t) {c : Int} (hc : 0 ≤ c ∧ c ≤ 288) (v : Int) : grC (mSet I 105 c v) (updS t (20 + c) v) := by
  refine ⟨fun k k0 k1 => ?_, fun q q0 q1 => ?_, fun b b0 b1 => ?_, fun b h b0 b1 i0 i1 => ?_⟩
  · rw [set_ne (by decide), updS_ne _ _ (by omega)]
    exact G.1 k k0 k1
  · by_cases e : q = c
    · rw [e, set_eq, updS_eq]
    · rw [set_nq e, updS_ne _ _ (by omega)]
      exact G.2.1 q q0 q1
  · rw [set_ne (by decide), updS_ne _ _ (by omega)]
    exact G.2.2.1 b b0 b1
  · have hb := H b b0 b1
    rw [updS_ne _ _ (by omega)] at i1
    have q := G.2.2.2 b h b0 b1 i0 i1
    unfold rawT at *
    rw [set_ne (by decide), set_ne (by decide), set_ne (by decide), set_ne (by decide), updS_ne _ _ (by omega), updS_ne _ _ (by omega), updS_ne _ _ (by omega), updS_ne _ _ (by omega)]
    exact q
theorem cnP.slow {t : Int → Int} (H : cnP t) {c : Int} (hc : 0 ≤ c ∧ c ≤ 288) (v : Int) : cnP (updS t (20 + c) v) := fun b b0 b1 => by
  rw [updS_ne _ _ (by omega)]
  exact H b b0 b1
def spX5_readSlow : mSp := shR (fun _ i I Q => i = some 100 ∧ ∃ B n x t, tpC I B n ∧ tkC I B n (enT B n x) ∧ (0 ≤ x ∧ x ≤ n) ∧ isW B n 1 x ∧ cnP t ∧ grC I t ∧ ∀ I' : mM, gsC I' I B n (slT B n x t) → Q (.inl (some (mI (if (slT B n x t).1 = 0 then 1 else 0)))) I')
def SX5_readSlow : Nat → mSp := fun a => match a with
  | 0 => spX5_readNumber
  | 1 => spX5_readWord
  | _ => fun _ _ _ _ => False
theorem SX5_readSlow_0 : SX5_readSlow 0 = spX5_readNumber := Eq.trans rfl rfl
theorem SX5_readSlow_1 : SX5_readSlow 1 = spX5_readWord := Eq.trans rfl rfl
theorem cutsX5_readSlow {t : Nat} {bs : List Bool} (h : cutX5_readSlow t = some bs) : (t = 30 ∧ bs = [true, true, true]) := by
  unfold cutX5_readSlow at h
  simp only [mLk] at h
  by_cases h0 : 30 = t
  · subst h0
    simp at h
    exact ⟨rfl, h.symm⟩
  rw [if_neg h0] at h
  cases h
set_option maxRecDepth 100000 in
set_option maxHeartbeats 1000000 in
theorem vcX5_readSlow (fl : Nat → Bool) (avs : List mV) (I : mM) (Q : mO → mM → Prop) (hsp : spX5_readSlow fl avs I Q) : mVC SX5_readSlow fl Q kX5_readSlow cutX5_readSlow 3 avs I := by
  obtain ⟨i, rfl, h0⟩ := shR_inv hsp
  obtain ⟨rfl, B, N, x, t, hT, hK, hx, hw, hcn, hG, h⟩ := h0
  have eb := en8 B hx
  have t2 := hT.2.1
  refine ⟨rfl, (fun m pc lv st I1 => st = [] ∧ ∃ (v y : Int) (u : Nat) (f : Nat) (t1 : Int → Int), lv = [some (mR (some 100)), some (mI v), some (mI u)] ∧ mrg v ∧ frS I1 I ∧ I1 100 3 = I 100 3 ∧ I1 100 4 = I 100 4 ∧ tkC I1 B N y ∧ (0 ≤ y ∧ y ≤ N) ∧ cnP t1 ∧ grC I1 t1 ∧ (u : Int) ≤ y ∧ u ≤ 800 ∧ m = 900 - u ∧ (u = 0 ∨ tkT B N y = 2) ∧ N - y ≤ f ∧ slT B N x t = (if (numT B N 0 288 y).1 ≠ 0 then rdE (numT B N 0 288 y) t1 else slL B N v f (numT B N 0 288 y).2.2.1 (updS t1 (20 + (numT B N 0 288 y).2.2.2) v))), ?_, ?_⟩
  · intro n t bs hbs lv st I1 hc
    rcases cutsX5_readSlow hbs with ⟨rfl, rfl⟩
    rw [sfxX5_readSlow_30]
    obtain ⟨rfl, v, y, u, f, t1, rfl, rv, hF, e3, e4, hK1, hy, hc1, hG1, hu, hu8, hm, htk, hf, hR⟩ := hc
    have T1 := hT.s hF
    have ey := en8 B hy
    have ey2 := en_bd B hy.2
    have by2 := bg_bd B hy.2
    have nb := num_bd (B := B) (n := N) (lo := 0) (hi := 288) hy (by decide)
    have u8 : (u : Int) < 800 := by
      rcases htk with q | q
      · omega
      · have := ey2.2.2 (by omega)
        omega
    simp only [false_and, and_false, true_or, or_true, false_or, or_false, true_and, and_true, true_implies, false_implies, implies_true, not_true_eq_false, not_false_eq_true, and_self, List.length_cons, List.length_nil, mNoCut_, mCat_n, mCat_I, mCat_L, mCat_R, mIsL_n, mIsL_I, mIsL_R, mIsL_L, Nat.reduceAdd, Nat.reduceSub, Nat.reduceLeDiff, Nat.reduceLT, Nat.reduceEqDiff, Nat.zero_le, Int.reduceEq, Int.reduceLT, Int.reduceLE, Int.reduceNeg, Int.reduceAdd, if_true, if_false, reduceIte, reduceCtorEq, Bool.false_eq_true, ne_eq, qCmp_0, qCmp_1, qCmp_2, qCmp_3, qCmp_4, qCmp_5, ib_0, ib_1, ib_2, lb_0, lb_1, lb_2, dv_0, dv_1, wq_ic, wq_ld_i, wq_ld_a, wq_st_i, wq_iinc, wq_icmp, wq_if, wq_goto, wq_get, mGet_0, mGet_1, mGet_2, mGet_3, wq_astI, wq_astL, wq_ret0, wq_ret1, wq_ret2, wq_ret3, wq_ret4, wq_tx, ldR0, mrg_0_, mrg_20_, wq_callV3_0, fk_5_10, stI1, wq_callV2_0, stI2, ldI2, mrg_800_, mrg_288_, fk_5_2, fk_3_6, ldI1, fk_5_7, mrg_2_, wqinc2, mrg_1_, mPut_s, mPut_I0, mPut_R0, mPut_L0, mPut_I1, mPut_R1, mPut_L1, mGo_n, sfxX5_readSlow_12, cutX5_readSlow_12, sfxX5_readSlow_28, cutX5_readSlow_28, sfxX5_readSlow_30, cutX5_readSlow_30, sfxX5_readSlow_50, cutX5_readSlow_50, sfxX5_readSlow_74, cutX5_readSlow_74, sfxX5_readSlow_80, cutX5_readSlow_80, wq_cut, mGo_c, mMask_t, mMask_f, mMask_n, kX5_readSlow_80, kX5_readSlow_74, kX5_readSlow_50, kX5_readSlow_30, kX5_readSlow_28, kX5_readSlow_12, kX5_readSlow_0, sk_11, al_11, rf_11_6, sk_14, al_14, sn_14, sk_102, al_102, rf_102_6, sk_105, al_105, sn_105, sk_100, al_100, rf_100_2, ↓SX5_readSlow_0, ↓SX5_readSlow_1, ↓shqRII_, ↓shqRR_, ↓spX5_readNumber, ↓spX5_readWord, mrg, mrl, mSet_ap, ncast, Option.some.injEq]
    refine ⟨⟨by omega, by omega⟩, fun q => by omega, fun q => ⟨B, N, y, T1, hK1, hy, fun I2 r2 => ?_⟩⟩
    generalize numT B N 0 288 y = R at *
    have F2 := hF.tr r2.s
    by_cases z : R.1 = 0
    · rw [if_neg (fun w => w z)] at hR
      rw [if_pos z]
      obtain ⟨K2, v2, a2, c2⟩ := r2.2.2.2 z
      have k7 := K2.2.2.1
      have tb2 := tk_bd B N R.2.2.1
      have G2 := (hG1.of (J := I2) (r2.1 _ (by decide)) (r2.1 _ (by decide)) (r2.1 _ (by decide)) (r2.1 _ (by decide)) (r2.1 _ (by decide)) (r2.1 _ (by decide)) (r2.1 _ (by decide))).slow hc1 (c := R.2.2.2) ⟨by omega, by omega⟩ v
      rw [v2]
      have FS := F2.set (A := 105) (by decide) R.2.2.2 v
      have hlt := nb.2.2.2 z
      refine ⟨⟨by decide, by decide⟩, fun _ => ⟨⟨by omega, by omega⟩, ?_⟩, fun w => absurd (show ¬ (1 : Int) = 0 by decide) w⟩
      obtain ⟨f', rfl⟩ : ∃ f', f = f' + 1 := ⟨f - 1, by omega⟩
      rw [k7]
      refine ⟨⟨by omega, by omega⟩, fun w => ?_, fun w => ?_⟩
      · have hR' : slT B N x t = if (numT B N 0 288 R.2.2.1).1 ≠ 0 then rdE (numT B N 0 288 R.2.2.1) (updS t1 (20 + R.2.2.2) v) else slL B N v f' (numT B N 0 288 R.2.2.1).2.2.1 (updS (updS t1 (20 + R.2.2.2) v) (20 + (numT B N 0 288 R.2.2.1).2.2.2) v) := by rw [hR]; exact if_pos w
        exact ⟨900 - (u + 1), by omega, v, R.2.2.1, u + 1, f', updS t1 (20 + R.2.2.2) v, rfl, rv, FS, by rw [a2]; exact e3, by rw [c2]; exact e4, K2.set (by decide) _ _, nb.1, hc1.slow ⟨by omega, by omega⟩ v, G2, by omega, by omega, rfl, Or.inr w, by omega, hR'⟩
      · have hR' : slT B N x t = (0, 0, R.2.2.1, updS t1 (20 + R.2.2.2) v) := by rw [hR]; exact if_neg w
        have h := h (mSet I2 105 R.2.2.2 v)
        rw [hR', if_pos rfl] at h
        exact h ⟨FS, fun q => absurd rfl q, fun _ => ⟨K2.set (by decide) _ _, G2, by rw [set_ne (by decide), a2]; exact e3, by rw [set_ne (by decide), c2]; exact e4⟩⟩
    · rw [if_pos z] at hR
      have h := h I2
      rw [hR, if_neg z] at h
      have h := h ⟨F2, fun _ => r2.2.2.1 z, fun w => absurd w z⟩
      rw [if_neg z]
      exact ⟨⟨by decide, by decide⟩, fun w => absurd rfl w, fun _ => h⟩
  · show mWp _ _ _ _ _ _ kX5_readSlow_0 [some (mR (some 100)), none, none] [] I
    have b1 := num_bd (B := B) (n := N) (lo := 0) (hi := 20) (a := enT B N x) ⟨by omega, by omega⟩ (by decide)
    have sD : slT B N x t = if (numT B N 0 20 (enT B N x)).1 ≠ 0 then rdE (numT B N 0 20 (enT B N x)) t else if (tolT B N 7 0 288 (numT B N 0 20 (enT B N x)).2.2.1).1 ≠ 0 then rdE (tolT B N 7 0 288 (numT B N 0 20 (enT B N x)).2.2.1) t else slL B N (numT B N 0 20 (enT B N x)).2.2.2 802 (tolT B N 7 0 288 (numT B N 0 20 (enT B N x)).2.2.1).2.2.1 (updS t (20 + (tolT B N 7 0 288 (numT B N 0 20 (enT B N x)).2.2.1).2.2.2) (numT B N 0 20 (enT B N x)).2.2.2) := by
      rw [← show tolT B N 1 0 20 x = numT B N 0 20 (enT B N x) from if_pos hw]
      rfl
    simp only [false_and, and_false, true_or, or_true, false_or, or_false, true_and, and_true, true_implies, false_implies, implies_true, not_true_eq_false, not_false_eq_true, and_self, List.length_cons, List.length_nil, mNoCut_, mCat_n, mCat_I, mCat_L, mCat_R, mIsL_n, mIsL_I, mIsL_R, mIsL_L, Nat.reduceAdd, Nat.reduceSub, Nat.reduceLeDiff, Nat.reduceLT, Nat.reduceEqDiff, Nat.zero_le, Int.reduceEq, Int.reduceLT, Int.reduceLE, Int.reduceNeg, Int.reduceAdd, if_true, if_false, reduceIte, reduceCtorEq, Bool.false_eq_true, ne_eq, qCmp_0, qCmp_1, qCmp_2, qCmp_3, qCmp_4, qCmp_5, ib_0, ib_1, ib_2, lb_0, lb_1, lb_2, dv_0, dv_1, wq_ic, wq_ld_i, wq_ld_a, wq_st_i, wq_iinc, wq_icmp, wq_if, wq_goto, wq_get, mGet_0, mGet_1, mGet_2, mGet_3, wq_astI, wq_astL, wq_ret0, wq_ret1, wq_ret2, wq_ret3, wq_ret4, wq_tx, ldR0, mrg_0_, mrg_20_, wq_callV3_0, fk_5_10, stI1, wq_callV2_0, stI2, ldI2, mrg_800_, mrg_288_, fk_5_2, fk_3_6, ldI1, fk_5_7, mrg_2_, wqinc2, mrg_1_, mPut_s, mPut_I0, mPut_R0, mPut_L0, mPut_I1, mPut_R1, mPut_L1, mGo_n, sfxX5_readSlow_12, cutX5_readSlow_12, sfxX5_readSlow_28, cutX5_readSlow_28, sfxX5_readSlow_30, cutX5_readSlow_30, sfxX5_readSlow_50, cutX5_readSlow_50, sfxX5_readSlow_74, cutX5_readSlow_74, sfxX5_readSlow_80, cutX5_readSlow_80, wq_cut, mGo_c, mMask_t, mMask_f, mMask_n, kX5_readSlow_80, kX5_readSlow_74, kX5_readSlow_50, kX5_readSlow_30, kX5_readSlow_28, kX5_readSlow_12, kX5_readSlow_0, sk_11, al_11, rf_11_6, sk_14, al_14, sn_14, sk_102, al_102, rf_102_6, sk_105, al_105, sn_105, sk_100, al_100, rf_100_2, ↓SX5_readSlow_0, ↓SX5_readSlow_1, ↓shqRII_, ↓shqRR_, ↓spX5_readNumber, ↓spX5_readWord, mrg, mrl, mSet_ap, ncast, Option.some.injEq]
    refine ⟨B, N, enT B N x, hT, hK, ⟨by omega, by omega⟩, fun I1 r1 => ?_⟩
    generalize numT B N 0 20 (enT B N x) = R1 at *
    by_cases z1 : R1.1 = 0
    · rw [if_neg (fun w => w z1)] at sD
      rw [if_pos z1]
      obtain ⟨K1, v1, a1, c1⟩ := r1.2.2.2 z1
      have bb2 := en8 B b1.1
      refine ⟨⟨by decide, by decide⟩, fun _ => ⟨7, rfl, by decide, by decide, B, N, R1.2.2.1, hT.s r1.s, K1, b1.1, fun I2 r2 => ?_⟩, fun w => absurd (show ¬ (1 : Int) = 0 by decide) w⟩
      have F2 := r1.s.tr r2.s
      by_cases w7 : isW B N 7 R1.2.2.1
      · rw [show tolT B N 7 0 288 R1.2.2.1 = numT B N 0 288 (enT B N R1.2.2.1) from if_pos w7] at sD
        rw [show wdT B N 7 R1.2.2.1 = (0, 0, enT B N R1.2.2.1, 0) from if_pos w7] at r2 ⊢
        obtain ⟨K2, a2, c2⟩ := r2.2.2.2 rfl
        rw [if_pos rfl]
        have n2 : ∀ i, i ≠ 100 → I2 i = I i := fun i i0 => by rw [r2.1 i i0, r1.1 i i0]
        exact ⟨⟨by decide, by decide⟩, fun _ => ⟨900, I1 100 10, enT B N R1.2.2.1, 0, 802, t, rfl, ⟨by omega, by omega⟩, F2, by rw [a2, a1], by rw [c2, c1], K2, ⟨by omega, by omega⟩, hcn, hG.of (n2 _ (by decide)) (n2 _ (by decide)) (n2 _ (by decide)) (n2 _ (by decide)) (n2 _ (by decide)) (n2 _ (by decide)) (n2 _ (by decide)), by omega, by omega, rfl, Or.inl rfl, by omega, by rw [v1]; exact sD⟩, fun w => absurd (show ¬ (1 : Int) = 0 by decide) w⟩
      · rw [show tolT B N 7 0 288 R1.2.2.1 = erT B N 2 R1.2.2.1 0 from if_neg w7, if_pos (er_ne B N _)] at sD
        rw [show wdT B N 7 R1.2.2.1 = erT B N 2 R1.2.2.1 0 from if_neg w7] at r2 ⊢
        have h := h I2
        rw [sD, if_neg (er_ne B N _)] at h
        have h := h ⟨F2, fun _ => r2.2.2.1 (er_ne B N _), fun w => absurd w (er_ne B N _)⟩
        rw [if_neg (er_ne B N R1.2.2.1)]
        exact ⟨⟨by decide, by decide⟩, fun w => absurd rfl w, fun _ => h⟩
    · rw [if_pos z1] at sD
      have h := h I1
      rw [sD, if_neg z1] at h
      have h := h ⟨r1.s, fun _ => r1.2.2.1 z1, fun w => absurd w z1⟩
      rw [if_neg z1]
      exact ⟨⟨by decide, by decide⟩, fun w => absurd rfl w, fun _ => h⟩
theorem ctrX5_readSlow {l : Launch} (hst : l.stackTraces = false) (hT : mTxM l) : mCtr l calX5_readSlow spX5_readSlow :=
  mMet (T := TX5_readSlow) (S := SX5_readSlow) hst hT cutX5_readSlow (by decide) okX5_readSlow ⟨_, _, rfl, rfl⟩ trivial (fun t bs h => by rcases cutsX5_readSlow h with ⟨-, rfl⟩ <;> rfl) (fun a => match a with
    | 0 => ctrX5_readNumber hst hT
    | 1 => ctrX5_readWord hst hT
    | _ + 2 => mCtr_no) vcX5_readSlow

end SPC39
