section SPM27
/-- how many HITS the row counts -/
def cnP (t : Int → Int) : Prop := ∀ b : Int, 0 ≤ b → b < 6 → 0 ≤ t (13 + b) ∧ t (13 + b) ≤ 8
theorem ar_bd {B : Int → Int} {n a : Int} (ha : 0 ≤ a ∧ a ≤ n) : (0 ≤ (arT B n a).2.2.1 ∧ (arT B n a).2.2.1 ≤ n) ∧ (0 ≤ (arT B n a).2.2.2 ∧ (arT B n a).2.2.2 ≤ 8) ∧ (0 ≤ (arT B n a).1 ∧ (arT B n a).1 ≤ 5) ∧ ((arT B n a).1 = 0 → a ≤ (arT B n a).2.2.1) := by
  unfold arT
  split
  · have h := tol_bd (B := B) (n := n) (lo := 1) (hi := 8) (w := 10) ha (by decide)
    omega
  · dsimp only
    omega
theorem htU_cn {t : Int → Int} {b : Int} (hb : 0 ≤ b ∧ b < 6) (w p r f : Int) (hc : 0 ≤ t (13 + b) ∧ t (13 + b) < 8) {j : Int} (hj : 0 ≤ j ∧ j < 6) : htU t b w p r f (13 + j) = if j = b then t (13 + b) + 1 else t (13 + j) := by
  unfold htU
  by_cases e : j = b
  · rw [if_pos e, e, updS_eq]
  · rw [if_neg e, updS_ne _ _ (by omega), updS_ne _ _ (by omega), updS_ne _ _ (by omega), updS_ne _ _ (by omega), updS_ne _ _ (by omega), updS_ne _ _ (by omega)]
theorem hi_ok {B : Int → Int} {n b a : Int} {t : Int → Int} (ha : 0 ≤ a ∧ a ≤ n) (hc : 0 ≤ t (13 + b) ∧ t (13 + b) ≤ 8) : (0 ≤ (hiT B n b a t).2.2.1 ∧ (hiT B n b a t).2.2.1 ≤ n) ∧ (0 ≤ (hiT B n b a t).1 ∧ (hiT B n b a t).1 ≤ 5) ∧ ((hiT B n b a t).1 = 0 → a < (hiT B n b a t).2.2.1 ∧ t (13 + b) < 8 ∧ ∃ w p r f, (0 ≤ w ∧ w ≤ 15) ∧ (1 ≤ p ∧ p ≤ 9) ∧ (0 ≤ r ∧ r ≤ 8) ∧ (1 ≤ f ∧ f ≤ 99) ∧ (hiT B n b a t).2.2.2 = htU t b w p r f) := by
  by_cases z : isW B n 8 a ∧ t (13 + b) = 8
  · rw [show hiT B n b a t = (5, bgT B n a, a, t) from if_pos z]
    dsimp only
    omega
  · have b1 := tol_bd (B := B) (n := n) (lo := 0) (hi := 15) (w := 8) ha (by decide)
    have b2 := tol_bd (B := B) (n := n) (lo := 1) (hi := 9) (w := 9) b1.1 (by decide)
    have b3 := ar_bd (B := B) b2.1
    have b4 := tol_bd (B := B) (n := n) (lo := 1) (hi := 99) (w := 11) b3.1 (by decide)
    have eR : ¬ isW B n 8 a → (tolT B n 8 0 15 a).1 ≠ 0 := fun w => by
      rw [show tolT B n 8 0 15 a = erT B n 2 a 0 from if_neg w]
      unfold erT
      dsimp only
      split <;> omega
    rw [show hiT B n b a t = _ from if_neg z]
    by_cases z1 : (tolT B n 8 0 15 a).1 ≠ 0
    · rw [if_pos z1]
      dsimp only [rdE]
      omega
    · rw [if_neg z1]
      by_cases z2 : (tolT B n 9 1 9 (tolT B n 8 0 15 a).2.2.1).1 ≠ 0
      · rw [if_pos z2]
        dsimp only [rdE]
        omega
      · rw [if_neg z2]
        by_cases z3 : (arT B n (tolT B n 9 1 9 (tolT B n 8 0 15 a).2.2.1).2.2.1).1 ≠ 0
        · rw [if_pos z3]
          dsimp only [rdE]
          omega
        · rw [if_neg z3]
          by_cases z4 : (tolT B n 11 1 99 (arT B n (tolT B n 9 1 9 (tolT B n 8 0 15 a).2.2.1).2.2.1).2.2.1).1 ≠ 0
          · rw [if_pos z4]
            dsimp only [rdE]
            omega
          · rw [if_neg z4]
            have w8 : isW B n 8 a := Classical.byContradiction (fun w => z1 (eR w))
            have c8 : ¬ t (13 + b) = 8 := fun w => z ⟨w8, w⟩
            dsimp only
            exact ⟨b4.1, by omega, fun _ => ⟨by omega, by omega, _, _, _, _, b1.2.1, b2.2.1, b3.2.1, b4.2.1, rfl⟩⟩
noncomputable def baL (B : Int → Int) (n b : Int) : Nat → Int → (Int → Int) → rdG
  | 0, a, t => (0, 0, a, t)
  | f + 1, a, t => @ite rdG (isW B n 8 a) (Classical.propDecidable _) (if (hiT B n b a t).1 ≠ 0 then hiT B n b a t else baL B n b f (hiT B n b a t).2.2.1 (hiT B n b a t).2.2.2) (0, 0, a, t)
noncomputable def baT (B : Int → Int) (n a : Int) (t : Int → Int) : rdG :=
  if (tolT B n 0 0 5 a).1 ≠ 0 then rdE (tolT B n 0 0 5 a) t
  else if (hiT B n (tolT B n 0 0 5 a).2.2.2 (tolT B n 0 0 5 a).2.2.1 t).1 ≠ 0 then hiT B n (tolT B n 0 0 5 a).2.2.2 (tolT B n 0 0 5 a).2.2.1 t
  else baL B n (tolT B n 0 0 5 a).2.2.2 802 (hiT B n (tolT B n 0 0 5 a).2.2.2 (tolT B n 0 0 5 a).2.2.1 t).2.2.1 (hiT B n (tolT B n 0 0 5 a).2.2.2 (tolT B n 0 0 5 a).2.2.1 t).2.2.2
theorem cnP.ht {t : Int → Int} (h : cnP t) {b : Int} (hb : 0 ≤ b ∧ b < 6) (w p r f : Int) (hc : t (13 + b) < 8) : cnP (htU t b w p r f) := fun j j0 j1 => by
  have q := h b hb.1 hb.2
  have q2 := h j j0 j1
  rw [htU_cn hb w p r f ⟨q.1, hc⟩ ⟨j0, j1⟩]
  split <;> omega
theorem gdS.tr {I I1 I2 : mM} {B : Int → Int} {n : Int} {g : rdG} (f : frG I1 I) (h : gdS I2 I1 B n g) : gdS I2 I B n g := ⟨f.tr h.1, h.2⟩
def spX11_readBall : mSp := shR (fun _ i I Q => i = some 200 ∧ cnP (I 205) ∧ ∃ B n a, tpS I B n ∧ tkS I B n a ∧ (0 ≤ a ∧ a ≤ n) ∧ I 200 12 = 0 ∧ ∀ I' : mM, gdS I' I B n (baT B n a (I 205)) → Q (.inl none) I')
def SX11_readBall : Nat → mSp := fun a => match a with
  | 0 => spX11_told
  | 1 => spX11_readHit
  | 2 => spX11_isWord
  | _ => fun _ _ _ _ => False
theorem SX11_readBall_0 : SX11_readBall 0 = spX11_told := Eq.trans rfl rfl
theorem SX11_readBall_1 : SX11_readBall 1 = spX11_readHit := Eq.trans rfl rfl
theorem SX11_readBall_2 : SX11_readBall 2 = spX11_isWord := Eq.trans rfl rfl
theorem cutsX11_readBall {t : Nat} {bs : List Bool} (h : cutX11_readBall t = some bs) : (t = 21 ∧ bs = [true, true]) := by
  unfold cutX11_readBall at h
  simp only [mLk] at h
  by_cases h0 : 21 = t
  · subst h0
    simp at h
    exact ⟨rfl, h.symm⟩
  rw [if_neg h0] at h
  cases h
set_option maxRecDepth 100000 in
set_option maxHeartbeats 1000000 in
theorem vcX11_readBall (fl : Nat → Bool) (avs : List mV) (I : mM) (Q : mO → mM → Prop) (hsp : spX11_readBall fl avs I Q) : mVC SX11_readBall fl Q kX11_readBall cutX11_readBall 2 avs I := by
  obtain ⟨i, rfl, h0⟩ := shR_inv hsp
  obtain ⟨rfl, hcn, B, N, a, hT, hK, han, h12, h⟩ := h0
  have t2 := hT.2.1
  refine ⟨rfl, (fun m pc lv st I1 => st = [] ∧ ∃ v : Int, lv = [some (mR (some 200)), some (mI v)] ∧ (0 ≤ v ∧ v < 6) ∧ frG I1 I ∧ ((m = 0 ∧ I1 200 12 ≠ 0 ∧ mrg (I1 200 12) ∧ (∃ x, tkS I1 B N x ∧ (0 ≤ x ∧ x ≤ N)) ∧ gdS I1 I B N (baT B N a (I 205))) ∨ (∃ (f : Nat) (x : Int), m = f ∧ I1 200 12 = 0 ∧ tkS I1 B N x ∧ (0 ≤ x ∧ x ≤ N) ∧ cnP (I1 205) ∧ N - x < f ∧ baT B N a (I 205) = baL B N v f x (I1 205)))), ?_, ?_⟩
  · intro n t bs hbs lv st I1 hc
    rcases cutsX11_readBall hbs with ⟨rfl, rfl⟩
    rw [sfxX11_readBall_21]
    obtain ⟨rfl, v, rfl, rv, hF, hc⟩ := hc
    rcases hc with ⟨hm, hb, rb, ⟨x, hx, hxn⟩, hG⟩ | ⟨f, x, hm, hb, hK1, hx, hcn1, hf, hR⟩
    · have h := h I1 hG
      simp only [false_and, and_false, true_or, or_true, false_or, or_false, true_and, and_true, true_implies, false_implies, implies_true, not_true_eq_false, not_false_eq_true, and_self, List.length_cons, List.length_nil, mNoCut_, mCat_n, mCat_I, mCat_L, mCat_R, mIsL_n, mIsL_I, mIsL_R, mIsL_L, Nat.reduceAdd, Nat.reduceSub, Nat.reduceLeDiff, Nat.reduceLT, Nat.reduceEqDiff, Nat.zero_le, Int.reduceEq, Int.reduceLT, Int.reduceLE, Int.reduceNeg, Int.reduceAdd, if_true, if_false, reduceIte, reduceCtorEq, Bool.false_eq_true, ne_eq, qCmp_0, qCmp_1, qCmp_2, qCmp_3, qCmp_4, qCmp_5, ib_0, ib_1, ib_2, lb_0, lb_1, lb_2, dv_0, dv_1, wq_ic, wq_ld_i, wq_ld_a, wq_st_i, wq_if, wq_goto, wq_get, mGet_0, mGet_1, mGet_2, mGet_3, wq_ret0, wq_ret1, wq_ret2, wq_ret3, wq_ret4, wq_tx, ldR0, mrg_0_, mrg_5_, wq_callV4_0, stI1, fk_11_12, ldI1, wq_callV2_0, mPut_s, mPut_I0, mPut_R0, mPut_L0, mPut_I1, mPut_R1, mPut_L1, mGo_n, sfxX11_readBall_21, cutX11_readBall_21, sfxX11_readBall_38, cutX11_readBall_38, wq_cut, mGo_c, mMask_t, mMask_f, mMask_n, kX11_readBall_38, kX11_readBall_21, kX11_readBall_0, sk_200, al_200, ↓SX11_readBall_0, ↓SX11_readBall_1, ↓SX11_readBall_2, ↓shqRRII_, ↓shqRI_, ↓shqRR_, ↓spX11_told, ↓spX11_readHit, ↓spX11_isWord, mrg, mrl, mSet_ap, ncast, Option.some.injEq]
      exact ⟨8, rfl, by decide, by decide, B, N, x, hT.frg hF, hx, hxn, rb, fun w => absurd w.1 hb, fun _ => h⟩
    · obtain ⟨f', rfl⟩ : ∃ f', f = f' + 1 := ⟨f - 1, by omega⟩
      have hi := hi_ok (B := B) (t := I1 205) hx (hcn1 v rv.1 rv.2)
      simp only [false_and, and_false, true_or, or_true, false_or, or_false, true_and, and_true, true_implies, false_implies, implies_true, not_true_eq_false, not_false_eq_true, and_self, List.length_cons, List.length_nil, mNoCut_, mCat_n, mCat_I, mCat_L, mCat_R, mIsL_n, mIsL_I, mIsL_R, mIsL_L, Nat.reduceAdd, Nat.reduceSub, Nat.reduceLeDiff, Nat.reduceLT, Nat.reduceEqDiff, Nat.zero_le, Int.reduceEq, Int.reduceLT, Int.reduceLE, Int.reduceNeg, Int.reduceAdd, if_true, if_false, reduceIte, reduceCtorEq, Bool.false_eq_true, ne_eq, qCmp_0, qCmp_1, qCmp_2, qCmp_3, qCmp_4, qCmp_5, ib_0, ib_1, ib_2, lb_0, lb_1, lb_2, dv_0, dv_1, wq_ic, wq_ld_i, wq_ld_a, wq_st_i, wq_if, wq_goto, wq_get, mGet_0, mGet_1, mGet_2, mGet_3, wq_ret0, wq_ret1, wq_ret2, wq_ret3, wq_ret4, wq_tx, ldR0, mrg_0_, mrg_5_, wq_callV4_0, stI1, fk_11_12, ldI1, wq_callV2_0, mPut_s, mPut_I0, mPut_R0, mPut_L0, mPut_I1, mPut_R1, mPut_L1, mGo_n, sfxX11_readBall_21, cutX11_readBall_21, sfxX11_readBall_38, cutX11_readBall_38, wq_cut, mGo_c, mMask_t, mMask_f, mMask_n, kX11_readBall_38, kX11_readBall_21, kX11_readBall_0, sk_200, al_200, ↓SX11_readBall_0, ↓SX11_readBall_1, ↓SX11_readBall_2, ↓shqRRII_, ↓shqRI_, ↓shqRR_, ↓spX11_told, ↓spX11_readHit, ↓spX11_isWord, mrg, mrl, mSet_ap, ncast, Option.some.injEq]
      refine ⟨8, rfl, by decide, by decide, B, N, x, hT.frg hF, hK1, hx, ⟨by omega, by omega⟩, fun w => ?_, fun w => ?_⟩
      · have hR' : baT B N a (I 205) = if (hiT B N v x (I1 205)).1 ≠ 0 then hiT B N v x (I1 205) else baL B N v f' (hiT B N v x (I1 205)).2.2.1 (hiT B N v x (I1 205)).2.2.2 := by rw [hR]; exact if_pos w.2
        refine ⟨rv, hcn1 v rv.1 rv.2, B, N, x, hT.frg hF, hK1, hx, hb, fun I2 g => ?_⟩
        have e12 := g.2.2.1
        by_cases z : (hiT B N v x (I1 205)).1 = 0
        · obtain ⟨y1, y2, w1, p1, r1, f1, -, -, -, -, y3⟩ := hi.2.2 z
          have e205 := g.2.2.2.2 z
          refine ⟨f', by omega, v, rfl, rv, hF.tr g.1, Or.inr ⟨f', _, rfl, by omega, g.2.1, hi.1, ?_, by omega, ?_⟩⟩
          · rw [e205, y3]
            exact hcn1.ht rv _ _ _ _ y2
          · rw [hR', if_neg (fun w => w z), e205]
        · refine ⟨0, by omega, v, rfl, rv, hF.tr g.1, Or.inl ⟨rfl, by omega, ⟨by omega, by omega⟩, ⟨_, g.2.1, hi.1⟩, ?_⟩⟩
          rw [hR', if_pos z]
          exact g.tr hF
      · have hR' : baT B N a (I 205) = (0, 0, x, I1 205) := by rw [hR]; exact if_neg (fun w2 => w ⟨hb, w2⟩)
        exact h I1 (by rw [hR']; exact ⟨hF, hK1, hb, fun w => absurd rfl w, fun _ => rfl⟩)
  · show mWp _ _ _ _ _ _ kX11_readBall_0 [some (mR (some 200)), none] [] I
    have b1 := tol_bd (B := B) (n := N) (lo := 0) (hi := 5) (w := 0) han (by decide)
    have sD : baT B N a (I 205) = if (tolT B N 0 0 5 a).1 ≠ 0 then rdE (tolT B N 0 0 5 a) (I 205) else if (hiT B N (tolT B N 0 0 5 a).2.2.2 (tolT B N 0 0 5 a).2.2.1 (I 205)).1 ≠ 0 then hiT B N (tolT B N 0 0 5 a).2.2.2 (tolT B N 0 0 5 a).2.2.1 (I 205) else baL B N (tolT B N 0 0 5 a).2.2.2 802 (hiT B N (tolT B N 0 0 5 a).2.2.2 (tolT B N 0 0 5 a).2.2.1 (I 205)).2.2.1 (hiT B N (tolT B N 0 0 5 a).2.2.2 (tolT B N 0 0 5 a).2.2.1 (I 205)).2.2.2 := rfl
    clear h
    simp only [false_and, and_false, true_or, or_true, false_or, or_false, true_and, and_true, true_implies, false_implies, implies_true, not_true_eq_false, not_false_eq_true, and_self, List.length_cons, List.length_nil, mNoCut_, mCat_n, mCat_I, mCat_L, mCat_R, mIsL_n, mIsL_I, mIsL_R, mIsL_L, Nat.reduceAdd, Nat.reduceSub, Nat.reduceLeDiff, Nat.reduceLT, Nat.reduceEqDiff, Nat.zero_le, Int.reduceEq, Int.reduceLT, Int.reduceLE, Int.reduceNeg, Int.reduceAdd, if_true, if_false, reduceIte, reduceCtorEq, Bool.false_eq_true, ne_eq, qCmp_0, qCmp_1, qCmp_2, qCmp_3, qCmp_4, qCmp_5, ib_0, ib_1, ib_2, lb_0, lb_1, lb_2, dv_0, dv_1, wq_ic, wq_ld_i, wq_ld_a, wq_st_i, wq_if, wq_goto, wq_get, mGet_0, mGet_1, mGet_2, mGet_3, wq_ret0, wq_ret1, wq_ret2, wq_ret3, wq_ret4, wq_tx, ldR0, mrg_0_, mrg_5_, wq_callV4_0, stI1, fk_11_12, ldI1, wq_callV2_0, mPut_s, mPut_I0, mPut_R0, mPut_L0, mPut_I1, mPut_R1, mPut_L1, mGo_n, sfxX11_readBall_21, cutX11_readBall_21, sfxX11_readBall_38, cutX11_readBall_38, wq_cut, mGo_c, mMask_t, mMask_f, mMask_n, kX11_readBall_38, kX11_readBall_21, kX11_readBall_0, sk_200, al_200, ↓SX11_readBall_0, ↓SX11_readBall_1, ↓SX11_readBall_2, ↓shqRRII_, ↓shqRI_, ↓shqRR_, ↓spX11_told, ↓spX11_readHit, ↓spX11_isWord, mrg, mrl, mSet_ap, ncast, Option.some.injEq]
    refine ⟨0, rfl, by decide, by decide, B, N, a, hT, hK, han, ⟨by omega, by omega⟩, fun w => absurd h12 w, fun _ I1 r1 => ?_⟩
    have e12 := r1.2.2.1
    generalize tolT B N 0 0 5 a = R1 at *
    have e205 := r1.1.1 205 (by decide)
    have cv := hcn R1.2.2.2 (by omega) (by omega)
    have hi := hi_ok (B := B) (b := R1.2.2.2) (t := I 205) b1.1 cv
    rw [e205]
    refine ⟨⟨by omega, by omega⟩, fun y => ⟨0, R1.2.2.2, rfl, ⟨by omega, by omega⟩, r1.1.g, Or.inl ⟨rfl, y, ⟨by omega, by omega⟩, ⟨_, r1.2.1, b1.1⟩, ?_⟩⟩, fun y => ⟨⟨by omega, by omega⟩, cv, B, N, _, hT.fr r1.1, r1.2.1, b1.1, by omega, fun I2 g => ?_⟩⟩
    · rw [sD, if_pos (show R1.1 ≠ 0 by omega)]
      exact gdS.of (frG.refl I) r1 (by omega) _
    · rw [if_neg (show ¬ R1.1 ≠ 0 by omega)] at sD
      have f12 := g.2.2.1
      by_cases z : (hiT B N R1.2.2.2 R1.2.2.1 (I 205)).1 = 0
      · obtain ⟨y1, y2, w1, p1, q1, f1, -, -, -, -, y3⟩ := hi.2.2 z
        have e5 := g.2.2.2.2 z
        refine ⟨802, R1.2.2.2, rfl, ⟨by omega, by omega⟩, r1.1.g.tr g.1, Or.inr ⟨802, _, rfl, by omega, g.2.1, hi.1, ?_, by omega, ?_⟩⟩
        · rw [e5, y3]
          exact hcn.ht ⟨by omega, by omega⟩ _ _ _ _ y2
        · rw [sD, if_neg (fun w => w z), e5]
      · refine ⟨0, R1.2.2.2, rfl, ⟨by omega, by omega⟩, r1.1.g.tr g.1, Or.inl ⟨rfl, by omega, ⟨by omega, by omega⟩, ⟨_, g.2.1, hi.1⟩, ?_⟩⟩
        rw [sD, if_pos z]
        exact g.tr r1.1.g
theorem ctrX11_readBall {l : Launch} (hst : l.stackTraces = false) (hT : mTxM l) : mCtr l calX11_readBall spX11_readBall :=
  mMet (T := TX11_readBall) (S := SX11_readBall) hst hT cutX11_readBall (by decide) okX11_readBall ⟨_, _, rfl, rfl⟩ trivial (fun t bs h => by rcases cutsX11_readBall h with ⟨-, rfl⟩ <;> rfl) (fun a => match a with
    | 0 => ctrX11_told hst hT
    | 1 => ctrX11_readHit hst hT
    | 2 => ctrX11_isWord hst hT
    | _ + 3 => mCtr_no) vcX11_readBall

theorem word_ne : ∀ i j : Fin 7, i ≠ j → mTxLen i.val ≠ mTxLen j.val ∨ ∃ k : Fin 5, k.val < mTxLen i.val ∧ mTxCh i.val (k.val : Int) ≠ mTxCh j.val (k.val : Int) := by decide +kernel
theorem isW_un {B : Int → Int} {n a : Int} {i j : Nat} (hi : i < 7) (hj : j < 7) (h1 : isW B n i a) (h2 : isW B n j a) : i = j := by
  rcases Nat.decEq i j with e | e
  · rcases word_ne ⟨i, hi⟩ ⟨j, hj⟩ (fun w => e (congrArg Fin.val w)) with q | ⟨k, k1, k2⟩
    · have := h1.2.1
      have := h2.2.1
      dsimp only at q
      omega
    · have l : mTxLen i = mTxLen j := by
        have := h1.2.1
        have := h2.2.1
        omega
      have c1 := h1.2.2 k.val (by omega) (by dsimp only at k1; omega)
      have c2 := h2.2.2 k.val (by omega) (by dsimp only at k1; omega)
      exact absurd (c1.symm.trans c2) k2
  · exact e
end SPM27
