section SPC38
def frS (I' I : mM) : Prop := (∀ i, i ≠ 100 → i ≠ 102 → ¬ (105 ≤ i ∧ i ≤ 110) → I' i = I i) ∧ (∀ p : Int, ¬ (3 ≤ p ∧ p ≤ 10) ∨ p = 5 → I' 100 p = I 100 p)
def gsC (I' I : mM) (B : Int → Int) (n : Int) (g : rdG) : Prop := frS I' I ∧ (g.1 ≠ 0 → I' 100 3 = g.1 ∧ I' 100 4 = g.2.1) ∧ (g.1 = 0 → tkC I' B n g.2.2.1 ∧ grC I' g.2.2.2 ∧ I' 100 3 = I 100 3 ∧ I' 100 4 = I 100 4)
theorem frS.refl (I : mM) : frS I I := ⟨fun _ _ _ _ => rfl, fun _ _ => rfl⟩
theorem frS.tr {I I1 I2 : mM} (h : frS I1 I) (r : frS I2 I1) : frS I2 I := ⟨fun i i0 i1 i2 => by rw [r.1 i i0 i1 i2]; exact h.1 i i0 i1 i2, fun p hp => by rw [r.2 p hp]; exact h.2 p hp⟩
theorem frH.s {I I1 : mM} {k : Int} (h : frH I1 I k) : frS I1 I := ⟨fun i i0 _ i2 => h.1 i i0 (by omega), h.2.1⟩
theorem frC.s {I I1 : mM} (h : frC I1 I) : frS I1 I := ⟨fun i i0 _ _ => h.1 i i0, fun p hp => h.2 p (by omega)⟩
theorem rnC.s {I I1 : mM} {B : Int → Int} {n : Int} {R : rdR} (h : rnC I1 I B n R) : frS I1 I := ⟨fun i i0 _ _ => h.1 i i0, h.2.1⟩
theorem wnC.s {I I1 : mM} {B : Int → Int} {n : Int} {R : rdR} (h : wnC I1 I B n R) : frS I1 I := ⟨fun i i0 _ _ => h.1 i i0, fun p hp => h.2.1 p (by omega)⟩
theorem frS.bad {I I1 : mM} (h : frS I1 I) (x y : Int) : frS (mSet (mSet I1 100 3 x) 100 4 y) I := ⟨fun i i0 i1 i2 => by rw [set_ne i0, set_ne i0]; exact h.1 i i0 i1 i2, fun p hp => by rw [set_nq (by omega), set_nq (by omega)]; exact h.2 p hp⟩
theorem frS.set {I I1 : mM} (h : frS I1 I) {A : Nat} (hA : A = 102 ∨ (105 ≤ A ∧ A ≤ 110)) (p v : Int) : frS (mSet I1 A p v) I := ⟨fun i i0 i1 i2 => by rw [set_ne (by omega)]; exact h.1 i i0 i1 i2, fun q hq => by rw [set_ne (by omega)]; exact h.2 q hq⟩
theorem tpC.s {I I1 : mM} {B : Int → Int} {n : Int} (h : tpC I B n) (f : frS I1 I) : tpC I1 B n := by
  unfold tpC at *
  rw [f.2 5 (by decide), f.1 101 (by decide) (by decide) (by decide)]
  exact h
def spX5_readBall : mSp := shR (fun _ i I Q => i = some 100 ∧ ∃ B n x t, tpC I B n ∧ tkC I B n (enT B n x) ∧ (0 ≤ x ∧ x ≤ n) ∧ isW B n 0 x ∧ cnP t ∧ grC I t ∧ ∀ I' : mM, gsC I' I B n (baT B n x t) → Q (.inl (some (mI (if (baT B n x t).1 = 0 then 1 else 0)))) I')
def SX5_readBall : Nat → mSp := fun a => match a with
  | 0 => spX5_readNumber
  | 1 => spX5_isWord
  | 2 => spX5_fail
  | 3 => spX3_hitsOf
  | 4 => spX5_advance
  | 5 => spX5_readHit
  | _ => fun _ _ _ _ => False
theorem SX5_readBall_0 : SX5_readBall 0 = spX5_readNumber := Eq.trans rfl rfl
theorem SX5_readBall_1 : SX5_readBall 1 = spX5_isWord := Eq.trans rfl rfl
theorem SX5_readBall_2 : SX5_readBall 2 = spX5_fail := Eq.trans rfl rfl
theorem SX5_readBall_3 : SX5_readBall 3 = spX3_hitsOf := Eq.trans rfl rfl
theorem SX5_readBall_4 : SX5_readBall 4 = spX5_advance := Eq.trans rfl rfl
theorem SX5_readBall_5 : SX5_readBall 5 = spX5_readHit := Eq.trans rfl rfl
theorem cutsX5_readBall {t : Nat} {bs : List Bool} (h : cutX5_readBall t = some bs) : (t = 18 ∧ bs = [true, true, true, false]) := by
  unfold cutX5_readBall at h
  simp only [mLk] at h
  by_cases h0 : 18 = t
  · subst h0
    simp at h
    exact ⟨rfl, h.symm⟩
  rw [if_neg h0] at h
  cases h
set_option maxRecDepth 100000 in
set_option maxHeartbeats 1000000 in
theorem vcX5_readBall (fl : Nat → Bool) (avs : List mV) (I : mM) (Q : mO → mM → Prop) (hsp : spX5_readBall fl avs I Q) : mVC SX5_readBall fl Q kX5_readBall cutX5_readBall 4 avs I := by
  obtain ⟨i, rfl, h0⟩ := shR_inv hsp
  obtain ⟨rfl, B, N, x, t, hT, hK, hx, hw, hcn, hG, h⟩ := h0
  have eb := en8 B hx
  have t2 := hT.2.1
  refine ⟨rfl, (fun m pc lv st I1 => st = [] ∧ ∃ (v y : Int) (u : Nat) (t1 : Int → Int), lv = [some (mR (some 100)), some (mI v), some (mI u), none] ∧ (0 ≤ v ∧ v < 6) ∧ frS I1 I ∧ I1 100 3 = I 100 3 ∧ I1 100 4 = I 100 4 ∧ tkC I1 B N y ∧ (0 ≤ y ∧ y ≤ N) ∧ cnP t1 ∧ grC I1 t1 ∧ (u : Int) ≤ t1 (13 + v) ∧ m = 20 - u ∧ ((u = 0 ∧ baT B N x t = if (hiT B N v y t1).1 ≠ 0 then hiT B N v y t1 else baL B N v 802 (hiT B N v y t1).2.2.1 (hiT B N v y t1).2.2.2) ∨ (0 < u ∧ ∃ f : Nat, N - y < f ∧ baT B N x t = baL B N v f y t1))), ?_, ?_⟩
  · intro n t bs hbs lv st I1 hc
    rcases cutsX5_readBall hbs with ⟨rfl, rfl⟩
    rw [sfxX5_readBall_18]
    obtain ⟨rfl, v, y, u, t1, rfl, hv, hF, e3, e4, hK1, hy, hc1, hG1, hu, hm, hR⟩ := hc
    have cv := hc1 v hv.1 hv.2
    have hi := hi_ok (B := B) hy cv
    have T1 := hT.s hF
    have e106 := hG1.2.2.1 v hv.1 hv.2
    have tkb := tk_bd B N y
    have ey := en8 B hy
    have k7 := hK1.2.2.1
    simp only [false_and, and_false, true_or, or_true, false_or, or_false, true_and, and_true, true_implies, false_implies, implies_true, not_true_eq_false, not_false_eq_true, and_self, List.length_cons, List.length_nil, mNoCut_, mCat_n, mCat_I, mCat_L, mCat_R, mIsL_n, mIsL_I, mIsL_R, mIsL_L, Nat.reduceAdd, Nat.reduceSub, Nat.reduceLeDiff, Nat.reduceLT, Nat.reduceEqDiff, Nat.zero_le, Int.reduceEq, Int.reduceLT, Int.reduceLE, Int.reduceNeg, Int.reduceAdd, if_true, if_false, reduceIte, reduceCtorEq, Bool.false_eq_true, ne_eq, qCmp_0, qCmp_1, qCmp_2, qCmp_3, qCmp_4, qCmp_5, ib_0, ib_1, ib_2, lb_0, lb_1, lb_2, dv_0, dv_1, wq_ic, wq_ld_i, wq_ld_a, wq_st_i, wq_iinc, wq_ib, wq_icmp, wq_if, wq_goto, wq_get, mGet_0, mGet_1, mGet_2, mGet_3, wq_astI, wq_astL, wq_ret0, wq_ret1, wq_ret2, wq_ret3, wq_ret4, wq_tx, ldR0, mrg_0_, mrg_5_, wq_callV3_0, fk_5_10, stI1, stI2, ldI2, mrg_8_, wq_callV2_0, mrg_2_, mrg_1_, fk_5_2, ldI1, stI3, ldI3, wq_callV1_0, fk_3_7, wqinc2, mPut_s, mPut_I0, mPut_R0, mPut_L0, mPut_I1, mPut_R1, mPut_L1, mGo_n, sfxX5_readBall_11, cutX5_readBall_11, sfxX5_readBall_18, cutX5_readBall_18, sfxX5_readBall_45, cutX5_readBall_45, sfxX5_readBall_49, cutX5_readBall_49, sfxX5_readBall_50, cutX5_readBall_50, sfxX5_readBall_51, cutX5_readBall_51, sfxX5_readBall_72, cutX5_readBall_72, sfxX5_readBall_91, cutX5_readBall_91, sfxX5_readBall_109, cutX5_readBall_109, wq_cut, mGo_c, mMask_t, mMask_f, mMask_n, kX5_readBall_109, kX5_readBall_91, kX5_readBall_72, kX5_readBall_51, kX5_readBall_50, kX5_readBall_49, kX5_readBall_45, kX5_readBall_18, kX5_readBall_11, kX5_readBall_0, sk_11, al_11, rf_11_7, sk_15, al_15, sn_15, sk_102, al_102, rf_102_7, sk_106, al_106, sn_106, sk_100, al_100, rf_100_2, ↓SX5_readBall_0, ↓SX5_readBall_1, ↓SX5_readBall_2, ↓SX5_readBall_3, ↓SX5_readBall_4, ↓SX5_readBall_5, ↓shqRII_, ↓shqRR_, ↓shqRI_, ↓shqR_, ↓spX5_readNumber, ↓spX5_isWord, ↓spX5_fail, ↓spX3_hitsOf, ↓spX5_advance, ↓spX5_readHit, mrg, mrl, mSet_ap, ncast, Option.some.injEq, e106, Option.getD_some]
    refine ⟨⟨by omega, by omega⟩, fun q => by omega, fun q => ⟨8, rfl, by decide, by decide, B, N, y, T1, hK1, hy, fun w => ?_, fun w => ?_⟩⟩
    · have hR2 : ∃ f2 : Nat, N - y ≤ f2 ∧ baT B N x t = if (hiT B N v y t1).1 ≠ 0 then hiT B N v y t1 else baL B N v f2 (hiT B N v y t1).2.2.1 (hiT B N v y t1).2.2.2 := by
        rcases hR with ⟨-, e⟩ | ⟨u0, f, hf, e⟩
        · exact ⟨802, by omega, e⟩
        · obtain ⟨f', rfl⟩ : ∃ f', f = f' + 1 := ⟨f - 1, by omega⟩
          exact ⟨f', by omega, by rw [e]; exact if_pos w⟩
      obtain ⟨f2, hf2, hR2⟩ := hR2
      clear hR
      have ek : v * 8 + t1 (13 + v) = 8 * v + t1 (13 + v) := by omega
      refine ⟨hv, ⟨by omega, by omega⟩, fun c8 => ⟨B, N, enT B N y, T1, hK1.1, ⟨by omega, by omega⟩, fun I2 f2' k2 => ⟨⟨by omega, by omega⟩, B, N, y, v, t1, T1.s f2'.s, k2, hy, w, by omega, fun I3 g3 => ?_⟩⟩, fun c8 => ?_⟩
      · have FS := (hF.tr f2'.s).tr g3.1.s
        by_cases z : (hiT B N v y t1).1 = 0
        · rw [if_neg (fun q => q z)] at hR2
          obtain ⟨y1, y2, -⟩ := hi.2.2 z
          obtain ⟨K3, a3, c3, w1, p1, q1, r1, et, v7, v8, v9, v0⟩ := g3.2.2 z
          rw [ek] at v7 v8 v9 v0
          have n3 : ∀ i, i ≠ 100 → ¬ (107 ≤ i ∧ i ≤ 110) → I3 i = I1 i := fun i i0 i1 => by rw [g3.1.1 i i0 i1, f2'.1 i i0]
          have GG := grC.hit (J := I3) hc1 hv y2 hG1 (n3 102 (by decide) (by decide)) (n3 105 (by decide) (by decide)) (n3 106 (by decide) (by decide)) (fun A a0 a1 q hq => by rw [g3.1.2.2 A a0 a1 q (by omega), f2'.1 A (by omega)]) v7 v8 v9 v0
          rw [if_pos z]
          refine ⟨⟨by decide, by decide⟩, fun _ => ⟨hv, 20 - (u + 1), by omega, v, (hiT B N v y t1).2.2.1, u + 1, (hiT B N v y t1).2.2.2, rfl, hv, FS.set (by decide) _ _, by rw [a3, f2'.2 3 (by decide)]; exact e3, by rw [c3, f2'.2 4 (by decide)]; exact e4, K3.set (by decide) _ _, hi.1, by rw [et]; exact hc1.ht hv _ _ _ _ y2, by rw [et]; exact GG, ?_, rfl, Or.inr ⟨by omega, f2, by omega, hR2⟩⟩, fun q => absurd (show ¬ (1 : Int) = 0 by decide) q⟩
          rw [et, htU_cn hv _ _ _ _ ⟨cv.1, y2⟩ hv, if_pos rfl]
          omega
        · rw [if_pos z] at hR2
          have h := h I3
          rw [hR2, if_neg z] at h
          have h := h ⟨FS, fun _ => g3.2.1 z, fun q => absurd q z⟩
          rw [if_neg z]
          exact ⟨⟨by decide, by decide⟩, fun q => absurd rfl q, fun _ => h⟩
      · have e5 : hiT B N v y t1 = (5, bgT B N y, y, t1) := if_pos ⟨w, by omega⟩
        rw [e5, if_pos (show ¬ (5 : Int) = 0 by decide)] at hR2
        have k1 : I1 100 7 = 1 := by rw [k7]; exact w.1
        have h := h (mSet (mSet I1 100 3 5) 100 4 (I1 100 8))
        rw [hR2, if_neg (show ¬ (5 : Int) = 0 by decide)] at h
        have h := h ⟨hF.bad _ _, fun _ => ⟨by rw [set_nq (by decide), set_eq], by rw [set_eq]; exact hK1.2.1⟩, fun q => absurd q (show ¬ (5 : Int) = 0 by decide)⟩
        rw [k1, if_neg (show ¬ (1 : Int) = 4 by decide)]
        exact ⟨⟨by decide, by decide⟩, h⟩
    · refine ⟨⟨by omega, by omega⟩, fun u0 => ?_, fun u0 => ⟨⟨by omega, by omega⟩, ?_⟩⟩
      · rcases hR with ⟨e, -⟩ | ⟨-, f, hf, e⟩
        · omega
        · obtain ⟨f', rfl⟩ : ∃ f', f = f' + 1 := ⟨f - 1, by omega⟩
          have e2 : baT B N x t = (0, 0, y, t1) := by rw [e]; exact if_neg w
          have h := h I1
          rw [e2, if_pos rfl] at h
          exact h ⟨hF, fun q => absurd rfl q, fun _ => ⟨hK1, hG1, e3, e4⟩⟩
      · rcases hR with ⟨-, e⟩ | ⟨e, -⟩
        · have eT : tolT B N 8 0 15 y = erT B N 2 y 0 := if_neg w
          have eH : hiT B N v y t1 = rdE (erT B N 2 y 0) t1 := by
            rw [show hiT B N v y t1 = _ from if_neg (fun q => w q.1), eT, if_pos (er_ne B N y)]
          rw [eH, if_pos (er_ne B N y)] at e
          have h := h (mSet (mSet I1 100 3 (if I1 100 7 = 4 then 1 else 2)) 100 4 (I1 100 8))
          rw [e, if_neg (er_ne B N y)] at h
          exact h ⟨hF.bad _ _, fun _ => (wnC.bad hK1).2.2.1 (er_ne B N y), fun q => absurd q (er_ne B N y)⟩
        · omega
  · show mWp _ _ _ _ _ _ kX5_readBall_0 [some (mR (some 100)), none, none, none] [] I
    have b1 := num_bd (B := B) (n := N) (lo := 0) (hi := 5) (a := enT B N x) ⟨by omega, by omega⟩ (by decide)
    have sD : baT B N x t = if (numT B N 0 5 (enT B N x)).1 ≠ 0 then rdE (numT B N 0 5 (enT B N x)) t else if (hiT B N (numT B N 0 5 (enT B N x)).2.2.2 (numT B N 0 5 (enT B N x)).2.2.1 t).1 ≠ 0 then hiT B N (numT B N 0 5 (enT B N x)).2.2.2 (numT B N 0 5 (enT B N x)).2.2.1 t else baL B N (numT B N 0 5 (enT B N x)).2.2.2 802 (hiT B N (numT B N 0 5 (enT B N x)).2.2.2 (numT B N 0 5 (enT B N x)).2.2.1 t).2.2.1 (hiT B N (numT B N 0 5 (enT B N x)).2.2.2 (numT B N 0 5 (enT B N x)).2.2.1 t).2.2.2 := by
      rw [← show tolT B N 0 0 5 x = numT B N 0 5 (enT B N x) from if_pos hw]
      rfl
    simp only [false_and, and_false, true_or, or_true, false_or, or_false, true_and, and_true, true_implies, false_implies, implies_true, not_true_eq_false, not_false_eq_true, and_self, List.length_cons, List.length_nil, mNoCut_, mCat_n, mCat_I, mCat_L, mCat_R, mIsL_n, mIsL_I, mIsL_R, mIsL_L, Nat.reduceAdd, Nat.reduceSub, Nat.reduceLeDiff, Nat.reduceLT, Nat.reduceEqDiff, Nat.zero_le, Int.reduceEq, Int.reduceLT, Int.reduceLE, Int.reduceNeg, Int.reduceAdd, if_true, if_false, reduceIte, reduceCtorEq, Bool.false_eq_true, ne_eq, qCmp_0, qCmp_1, qCmp_2, qCmp_3, qCmp_4, qCmp_5, ib_0, ib_1, ib_2, lb_0, lb_1, lb_2, dv_0, dv_1, wq_ic, wq_ld_i, wq_ld_a, wq_st_i, wq_iinc, wq_ib, wq_icmp, wq_if, wq_goto, wq_get, mGet_0, mGet_1, mGet_2, mGet_3, wq_astI, wq_astL, wq_ret0, wq_ret1, wq_ret2, wq_ret3, wq_ret4, wq_tx, ldR0, mrg_0_, mrg_5_, wq_callV3_0, fk_5_10, stI1, stI2, ldI2, mrg_8_, wq_callV2_0, mrg_2_, mrg_1_, fk_5_2, ldI1, stI3, ldI3, wq_callV1_0, fk_3_7, wqinc2, mPut_s, mPut_I0, mPut_R0, mPut_L0, mPut_I1, mPut_R1, mPut_L1, mGo_n, sfxX5_readBall_11, cutX5_readBall_11, sfxX5_readBall_18, cutX5_readBall_18, sfxX5_readBall_45, cutX5_readBall_45, sfxX5_readBall_49, cutX5_readBall_49, sfxX5_readBall_50, cutX5_readBall_50, sfxX5_readBall_51, cutX5_readBall_51, sfxX5_readBall_72, cutX5_readBall_72, sfxX5_readBall_91, cutX5_readBall_91, sfxX5_readBall_109, cutX5_readBall_109, wq_cut, mGo_c, mMask_t, mMask_f, mMask_n, kX5_readBall_109, kX5_readBall_91, kX5_readBall_72, kX5_readBall_51, kX5_readBall_50, kX5_readBall_49, kX5_readBall_45, kX5_readBall_18, kX5_readBall_11, kX5_readBall_0, sk_11, al_11, rf_11_7, sk_15, al_15, sn_15, sk_102, al_102, rf_102_7, sk_106, al_106, sn_106, sk_100, al_100, rf_100_2, ↓SX5_readBall_0, ↓SX5_readBall_1, ↓SX5_readBall_2, ↓SX5_readBall_3, ↓SX5_readBall_4, ↓SX5_readBall_5, ↓shqRII_, ↓shqRR_, ↓shqRI_, ↓shqR_, ↓spX5_readNumber, ↓spX5_isWord, ↓spX5_fail, ↓spX3_hitsOf, ↓spX5_advance, ↓spX5_readHit, mrg, mrl, mSet_ap, ncast, Option.some.injEq]
    refine ⟨B, N, enT B N x, hT, hK, ⟨by omega, by omega⟩, fun I1 r1 => ?_⟩
    generalize numT B N 0 5 (enT B N x) = R1 at *
    by_cases z1 : R1.1 = 0
    · rw [if_neg (fun w => w z1)] at sD
      rw [if_pos z1]
      obtain ⟨K1, v1, a1, c1⟩ := r1.2.2.2 z1
      have c0 := hcn R1.2.2.2 (by omega) (by omega)
      exact ⟨⟨by decide, by decide⟩, fun _ => ⟨20, I1 100 10, R1.2.2.1, 0, t, rfl, ⟨by omega, by omega⟩, r1.s, a1, c1, K1, b1.1, hcn, hG.of (r1.1 _ (by decide)) (r1.1 _ (by decide)) (r1.1 _ (by decide)) (r1.1 _ (by decide)) (r1.1 _ (by decide)) (r1.1 _ (by decide)) (r1.1 _ (by decide)), by rw [v1]; exact c0.1, rfl, Or.inl ⟨rfl, by rw [v1]; exact sD⟩⟩, fun w => absurd (show ¬ (1 : Int) = 0 by decide) w⟩
    · rw [if_pos z1] at sD
      have h := h I1
      rw [sD, if_neg z1] at h
      have h := h ⟨r1.s, fun _ => r1.2.2.1 z1, fun w => absurd w z1⟩
      rw [if_neg z1]
      exact ⟨⟨by decide, by decide⟩, fun w => absurd rfl w, fun _ => h⟩
theorem ctrX5_readBall {l : Launch} (hst : l.stackTraces = false) (hT : mTxM l) : mCtr l calX5_readBall spX5_readBall :=
  mMet (T := TX5_readBall) (S := SX5_readBall) hst hT cutX5_readBall (by decide) okX5_readBall ⟨_, _, rfl, rfl⟩ trivial (fun t bs h => by rcases cutsX5_readBall h with ⟨-, rfl⟩ <;> rfl) (fun a => match a with
    | 0 => ctrX5_readNumber hst hT
    | 1 => ctrX5_isWord hst hT
    | 2 => ctrX5_fail hst hT
    | 3 => ctrX3_hitsOf hst hT
    | 4 => ctrX5_advance hst hT
    | 5 => ctrX5_readHit hst hT
    | _ + 6 => mCtr_no) vcX5_readBall

end SPC38
