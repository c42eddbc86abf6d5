section SPC43
theorem fi_ok {B : Int → Int} {n : Int} : ∀ (f : Nat) (x : Int) (t : Int → Int), 0 ≤ x ∧ x ≤ n → fwP t → n - x < f → (0 ≤ (fiL B n f x t).1 ∧ (fiL B n f x t).1 ≤ 5) ∧ ((fiL B n f x t).1 = 0 → fwP (fiL B n f x t).2.2.2)
  | 0, x, t, hx, _, hf => absurd hf (by omega)
  | f + 1, x, t, hx, hw, hf => by
    have lo := li_ok (B := B) hx hw
    simp only [fiL]
    by_cases z : tkT B n x = 0
    · rw [if_pos z]
      exact ⟨⟨by dsimp only; omega, by dsimp only; omega⟩, fun _ => hw⟩
    · rw [if_neg z]
      by_cases y : (liT B n x t).1 ≠ 0
      · rw [if_pos y]
        exact ⟨lo.1, fun w => absurd w y⟩
      · rw [if_neg y]
        have l2 := lo.2.2 (by omega)
        exact fi_ok f _ _ lo.2.1 l2.2.1 (by omega)
/-- what field leaves with the class -/
def flC (I' I : mM) (g : rdG) : Prop := (∀ i, i ≠ 100 → i ≠ 102 → ¬ (105 ≤ i ∧ i ≤ 110) → ¬ (i = 11 ∨ i = 12 ∨ (14 ≤ i ∧ i ≤ 20) ∨ i = 26 ∨ i = 27) → I' i = I i) ∧ (∀ p : Int, ¬ (3 ≤ p ∧ p ≤ 10) → p ≠ 1 → I' 100 p = I 100 p) ∧ I' 100 1 = 0 ∧ (g.1 ≠ 0 → I' 100 3 = g.1 ∧ I' 100 4 = g.2.1 ∧ ∀ i, (11 ≤ i ∧ i ≤ 27) → I' i = I i) ∧ (g.1 = 0 → I' 100 3 = 0 ∧ I' 100 4 = -1 ∧ repG I' 11 g.2.2.2 ∧ (∀ f : Int, 0 ≤ f → f < 9 → I' 20 f = -1) ∧ I' 12 6 = 0 ∧ (∀ k : Int, 0 ≤ k → k < 48 → I' 26 k = 0) ∧ (∀ k : Int, 0 ≤ k → k < 4 → I' 27 k = 0))
def spX10_field : mSp := shRI (fun _ i n I Q => i = some 0 ∧ mrg n ∧ (0 ≤ I 100 1 ∧ I 100 1 ≤ 800) ∧ (¬ (0 ≤ n ∧ n ≤ I 100 1) → Q (.inr (mEx 1)) I) ∧ ((0 ≤ n ∧ n ≤ I 100 1) → ∃ B : Int → Int, (∀ j : Int, 0 ≤ j → j < 800 → I 101 j = sbT (B j) ∧ 0 ≤ B j ∧ B j ≤ 255) ∧ ∃ t : Int → Int, (∀ q : Int, 0 ≤ q → q < 550 → t q = beT q) ∧ ∀ I' : mM, flC I' I (fiL B n 802 0 t) → Q (.inl (some (mI (if (fiL B n 802 0 t).1 = 0 then (fiL B n 802 0 t).2.2.2 0 else -10 - (fiL B n 802 0 t).1)))) I'))
def SX10_field : Nat → mSp := fun a => match a with
  | 0 => spX5_readField
  | 1 => spX7_begin
  | _ => fun _ _ _ _ => False
theorem SX10_field_0 : SX10_field 0 = spX5_readField := Eq.trans rfl rfl
theorem SX10_field_1 : SX10_field 1 = spX7_begin := Eq.trans rfl rfl
set_option maxRecDepth 100000 in
set_option maxHeartbeats 1000000 in
theorem vcX10_field (fl : Nat → Bool) (avs : List mV) (I : mM) (Q : mO → mM → Prop) (hsp : spX10_field fl avs I Q) : mVC0 SX10_field fl Q kX10_field 3 avs I := by
  obtain ⟨i, N, rfl, h0⟩ := shRI_inv hsp
  obtain ⟨rfl, rn, h8, h1, h2⟩ := h0
  refine ⟨rfl, ?_⟩
  show mWp _ _ _ _ _ _ kX10_field_0 [some (mR (some 0)), some (mI N), none] [] I
  by_cases z : 0 ≤ N ∧ N ≤ I 100 1
  · obtain ⟨B, hB, t, ht, h2⟩ := h2 z
    have fo := fi_ok (B := B) (n := N) 802 0 t ⟨by omega, by omega⟩ (beT_fw ht) (by omega)
    clear h1
    simp only [false_and, and_false, true_or, or_true, false_or, or_false, true_and, and_true, true_implies, false_implies, implies_true, not_true_eq_false, not_false_eq_true, and_self, List.length_cons, List.length_nil, mNoCut_, mCat_n, mCat_I, mCat_L, mCat_R, mIsL_n, mIsL_I, mIsL_R, mIsL_L, Nat.reduceAdd, Nat.reduceSub, Nat.reduceLeDiff, Nat.reduceLT, Nat.reduceEqDiff, Nat.zero_le, Int.reduceEq, Int.reduceLT, Int.reduceLE, Int.reduceNeg, Int.reduceAdd, if_true, if_false, reduceIte, reduceCtorEq, Bool.false_eq_true, ne_eq, qCmp_0, qCmp_1, qCmp_2, qCmp_3, qCmp_4, qCmp_5, ib_0, ib_1, ib_2, lb_0, lb_1, lb_2, dv_0, dv_1, wq_ic, wq_ld_i, wq_ld_a, wq_st_i, wq_ib, wq_icmp, wq_if, wq_get, mGet_0, mGet_1, mGet_2, mGet_3, wq_putI, wq_putL, wq_ret0, wq_ret1, wq_ret2, wq_ret3, wq_ret4, wq_thr, ldI1, ldR0, fk_10_3, fk_5_1, wq_callV2_0, stI2, mrg_0_, ldI2, mrg_m10_, fk_5_3, fk_10_0, fk_5_2, fk_7_0, fk_3_0, mPut_s, mPut_I0, mPut_R0, mPut_L0, mPut_I1, mPut_R1, mPut_L1, mGo_n, sfxX10_field_15, cutX10_field_15, sfxX10_field_25, cutX10_field_25, sfxX10_field_57, cutX10_field_57, kX10_field_57, kX10_field_25, kX10_field_15, kX10_field_0, sk_0, al_0, rf_0_3, sk_100, al_100, rf_0_0, sk_10, al_10, sk_11, al_11, sk_102, al_102, rf_100_2, rf_10_0, ↓SX10_field_0, ↓SX10_field_1, ↓shqRI_, ↓shqRR_, ↓spX5_readField, ↓spX7_begin, mrg, mrl, mSet_ap, ncast, Option.some.injEq]
    refine ⟨rn, fun w => by omega, fun _ => ⟨⟨rn, ⟨by omega, by omega⟩⟩, fun _ => ⟨rn, z, h8.2, B, hB, t, ht, fun I1 f1 => ?_⟩, fun w => absurd z.2 w⟩⟩
    obtain ⟨⟨F1, F2⟩, F3, F4⟩ := f1
    by_cases y : (fiL B N 802 0 t).1 = 0
    · obtain ⟨q3, q4, q0, G⟩ := F4 y
      have w := fo.2 y
      rw [if_pos y] at h2
      rw [if_pos y]
      refine ⟨⟨by decide, by decide⟩, fun _ I2 f2 c2 I3 e3 => ?_, fun w => absurd (show ¬ (1 : Int) = 0 by decide) w⟩
      have E : ∀ i, i ≠ 20 → i ≠ 12 → i ≠ 26 → i ≠ 27 → I3 i = I2 i := fun i i0 i1 i2 i3 => by
        rw [e3, cM_ne _ _ _ _ i3, cM_ne _ _ _ _ i2, set_ne i1, cM_ne _ _ _ _ i0]
      have E2 : ∀ i, i ≠ 20 → i ≠ 12 → i ≠ 26 → i ≠ 27 → ¬ (i = 11 ∨ (14 ≤ i ∧ i ≤ 19)) → i ≠ 100 → I3 i = I1 i := fun i i0 i1 i2 i3 i4 i5 => by
        rw [E i i0 i1 i2 i3, f2 i i4, set_ne i5]
      have E1 : I3 100 = mSet I1 100 1 0 100 := by rw [E 100 (by decide) (by decide) (by decide) (by decide), f2 100 (by decide)]
      have E12 : ∀ p : Int, p ≠ 6 → I3 12 p = I1 12 p := fun p hp => by
        rw [e3, cM_ne _ _ _ _ (by decide), cM_ne _ _ _ _ (by decide), set_nq hp, cM_ne _ _ _ _ (by decide), f2 12 (by decide), set_ne (by decide)]
      obtain ⟨c20, c25, c26, c27, c28, c29, c30⟩ := c2
      have R : repG I3 11 (fiL B N 802 0 t).2.2.2 := by
        refine ⟨fun k k0 k1 => ?_, fun c c0 c1 => ?_, fun b b0 b1 => ?_, fun b h b0 b1 i0 i1 => ?_⟩
        · rw [E 11 (by decide) (by decide) (by decide) (by decide), c20 k k0 (by omega), set_ne (by decide)]
          by_cases e : k = 0
          · rw [e]; exact q0
          · exact G.1 k (by omega) k1
        · rw [E 14 (by decide) (by decide) (by decide) (by decide), c25 c c0 c1, set_ne (by decide)]
          exact G.2.1 c c0 c1
        · rw [E 15 (by decide) (by decide) (by decide) (by decide), c26 b b0 b1, set_ne (by decide)]
          exact G.2.2.1 b b0 b1
        · have hb := w.2.1 b b0 b1
          rw [E 16 (by decide) (by decide) (by decide) (by decide), E 17 (by decide) (by decide) (by decide) (by decide), E 18 (by decide) (by decide) (by decide) (by decide), E 19 (by decide) (by decide) (by decide) (by decide), c27 _ (by omega) (by omega), c28 _ (by omega) (by omega), c29 _ (by omega) (by omega), c30 _ (by omega) (by omega), set_ne (by decide), set_ne (by decide), set_ne (by decide), set_ne (by decide)]
          exact G.2.2.2 b h b0 b1 i0 i1
      have h2 := h2 I3 ⟨fun i i0 i1 i2 i3 => ?_, fun p hp hp1 => ?_, ?_, fun w => absurd y w, fun _ => ⟨?_, ?_, R, fun f f0 f1 => ?_, ?_, fun k k0 k1 => ?_, fun k k0 k1 => ?_⟩⟩
      · rw [R.1 0 (by decide) (by decide)]
        exact h2
      · rw [E2 i (by omega) (by omega) (by omega) (by omega) (by omega) i0]
        exact F1 i i0 i1 i2
      · rw [E1, set_nq hp1]
        exact F2 p hp
      · rw [E1, set_eq]
      · rw [E1, set_nq (by decide)]
        exact q3
      · rw [E1, set_nq (by decide)]
        exact q4
      · rw [e3, cM_ne _ _ _ _ (by decide), cM_ne _ _ _ _ (by decide), set_ne (by decide), cM_at _ _ _ ⟨by omega, by omega⟩]
      · rw [e3, cM_ne _ _ _ _ (by decide), cM_ne _ _ _ _ (by decide), set_eq]
      · rw [e3, cM_ne _ _ _ _ (by decide), cM_at _ _ _ ⟨by omega, by omega⟩]
      · rw [e3, cM_at _ _ _ ⟨by omega, by omega⟩]
    · obtain ⟨q3, q4⟩ := F3 y
      rw [if_neg y] at h2
      rw [if_neg y]
      have h2 := h2 (mSet I1 100 1 0) ⟨fun i i0 i1 i2 i3 => by rw [set_ne i0]; exact F1 i i0 i1 i2, fun p hp hp1 => by rw [set_nq hp1]; exact F2 p hp, set_eq, fun _ => ⟨by rw [set_nq (by decide)]; exact q3, by rw [set_nq (by decide)]; exact q4, fun i hi => by rw [set_ne (by omega)]; exact F1 i (by omega) (by omega) (by omega)⟩, fun w => absurd w y⟩
      rw [← q3] at h2
      exact ⟨⟨by decide, by decide⟩, fun w => absurd rfl w, fun _ => h2⟩
  · have h1 := h1 z
    clear h2
    simp only [false_and, and_false, true_or, or_true, false_or, or_false, true_and, and_true, true_implies, false_implies, implies_true, not_true_eq_false, not_false_eq_true, and_self, List.length_cons, List.length_nil, mNoCut_, mCat_n, mCat_I, mCat_L, mCat_R, mIsL_n, mIsL_I, mIsL_R, mIsL_L, Nat.reduceAdd, Nat.reduceSub, Nat.reduceLeDiff, Nat.reduceLT, Nat.reduceEqDiff, Nat.zero_le, Int.reduceEq, Int.reduceLT, Int.reduceLE, Int.reduceNeg, Int.reduceAdd, if_true, if_false, reduceIte, reduceCtorEq, Bool.false_eq_true, ne_eq, qCmp_0, qCmp_1, qCmp_2, qCmp_3, qCmp_4, qCmp_5, ib_0, ib_1, ib_2, lb_0, lb_1, lb_2, dv_0, dv_1, wq_ic, wq_ld_i, wq_ld_a, wq_st_i, wq_ib, wq_icmp, wq_if, wq_get, mGet_0, mGet_1, mGet_2, mGet_3, wq_putI, wq_putL, wq_ret0, wq_ret1, wq_ret2, wq_ret3, wq_ret4, wq_thr, ldI1, ldR0, fk_10_3, fk_5_1, wq_callV2_0, stI2, mrg_0_, ldI2, mrg_m10_, fk_5_3, fk_10_0, fk_5_2, fk_7_0, fk_3_0, mPut_s, mPut_I0, mPut_R0, mPut_L0, mPut_I1, mPut_R1, mPut_L1, mGo_n, sfxX10_field_15, cutX10_field_15, sfxX10_field_25, cutX10_field_25, sfxX10_field_57, cutX10_field_57, kX10_field_57, kX10_field_25, kX10_field_15, kX10_field_0, sk_0, al_0, rf_0_3, sk_100, al_100, rf_0_0, sk_10, al_10, sk_11, al_11, sk_102, al_102, rf_100_2, rf_10_0, ↓SX10_field_0, ↓SX10_field_1, ↓shqRI_, ↓shqRR_, ↓spX5_readField, ↓spX7_begin, mrg, mrl, mSet_ap, ncast, Option.some.injEq]
    (try simp only [mrg, mrl] at *) <;> repeat' (first | (with_reducible assumption) | (with_reducible apply And.intro) | intro _)
    all_goals first | omega | exact h1 | skip
theorem ctrX10_field {l : Launch} (hst : l.stackTraces = false) (hT : mTxM l) : mCtr l calX10_field spX10_field :=
  mMet0 (T := TX10_field) (S := SX10_field) hst hT (by decide) okX10_field ⟨_, _, rfl, rfl⟩ (fun a => match a with
    | 0 => ctrX5_readField hst hT
    | 1 => ctrX7_begin hst hT
    | _ + 2 => mCtr_no) vcX10_field

theorem ne_lo (t g : Int → Int) {q : Int} (h : (0 ≤ q ∧ q ≤ 5) ∨ (9 ≤ q ∧ q < 550)) : neR t g q = g q := if_pos h
theorem ne_st (t g : Int → Int) {f : Int} (h : 0 ≤ f ∧ f < 9) : neR t g (550 + 5 * f) = -1 := by
  unfold neR
  rw [if_neg (by omega), if_pos (by omega)]
theorem ne_kp (t g : Int → Int) {q : Int} (h : 595 ≤ q ∧ q < 635) : neR t g q = 0 := by
  unfold neR
  rw [if_neg (by omega), if_neg (by omega), if_pos (by omega)]
theorem ne_hi (t g : Int → Int) {q : Int} (h : (6 ≤ q ∧ q ≤ 8) ∨ (550 ≤ q ∧ q < 595 ∧ (q - 550) % 5 ≠ 0)) : neR t g q = t q := by
  unfold neR
  rw [if_neg (by omega), if_neg (by omega), if_neg (by omega)]
theorem WF_ne {t g : Int → Int} (H : WFt t) (h : fwP g) : WFt (neR t g) := by
  obtain ⟨w1, w2, w3, w4, w5, w6, w7⟩ := H
  obtain ⟨h1, h2, h3, h4, h5, h6⟩ := h
  refine ⟨?_, fun b b0 b1 => ?_, fun c c0 c1 => ?_, fun k k0 k1 => ?_, fun b h b0 b1 i0 i1 => ?_, fun f f0 f1 => ?_, fun i i0 i1 => ⟨?_, fun f f0 f1 => ?_⟩⟩
  · rw [ne_lo t g (q := 0) (by omega), ne_lo t g (q := 1) (by omega), ne_lo t g (q := 2) (by omega), ne_lo t g (q := 3) (by omega), ne_lo t g (q := 4) (by omega), ne_lo t g (q := 5) (by omega), ne_hi t g (q := 6) (by omega), ne_hi t g (q := 7) (by omega), ne_hi t g (q := 8) (by omega)]
    exact ⟨h1.1, h1.2.1, h1.2.2.1, h1.2.2.2.1, h1.2.2.2.2.1, h1.2.2.2.2.2, w1.2.2.2.2.2.2⟩
  · rw [ne_lo t g (by omega)]
    exact h2 b b0 b1
  · rw [ne_lo t g (by omega)]
    exact h3 c c0 c1
  · rw [ne_lo t g (by omega), ne_lo t g (by omega), ne_lo t g (by omega), ne_lo t g (by omega), ne_lo t g (by omega)]
    have q := h4 k k0 k1
    exact ⟨q.1, q.2.1, q.2.2.1, q.2.2.2.1, by omega, by omega⟩
  · have hb := h2 b b0 b1
    rw [ne_lo t g (by omega)] at i1
    rw [ne_lo t g (by omega)]
    exact h5 b h b0 b1 i0 i1
  · rw [ne_st t g ⟨f0, f1⟩, ne_hi t g (by omega), ne_hi t g (by omega), ne_hi t g (by omega), ne_hi t g (by omega)]
    have q := w6 f f0 f1
    exact ⟨by omega, q.2⟩
  · rw [ne_kp t g (by omega)]
    omega
  · rw [ne_kp t g (by omega)]
    omega
/-- the class holds the reference's row again behind field -/
theorem clsI_field {I I' J : mM} {g : rdG} (C : clsI I) (F : flC I' I g) (w : fwP g.2.2.2) (z : g.1 = 0) (hJ : ∀ i, (11 ≤ i ∧ i ≤ 27) → J i = I' i) (e : J 201 = neR (I 201) g.2.2.2) : clsI J := by
  obtain ⟨W, CG, CQ, CD⟩ := C
  obtain ⟨f1, f2, f3, f4, f5⟩ := F
  obtain ⟨-, -, R, S, K, N, M⟩ := f5 z
  unfold clsI
  rw [e]
  refine ⟨WF_ne W w, ?_, ?_, ?_⟩
  · unfold repG at *
    rw [hJ 11 (by decide), hJ 14 (by decide), hJ 15 (by decide), hJ 16 (by decide), hJ 17 (by decide), hJ 18 (by decide), hJ 19 (by decide)]
    refine ⟨fun k k0 k1 => by rw [ne_lo _ _ (by omega)]; exact R.1 k k0 k1, fun c c0 c1 => by rw [ne_lo _ _ (by omega)]; exact R.2.1 c c0 c1, fun b b0 b1 => by rw [ne_lo _ _ (by omega)]; exact R.2.2.1 b b0 b1, fun b h b0 b1 i0 i1 => ?_⟩
    have hb := w.2.1 b b0 b1
    rw [ne_lo _ _ (by omega)] at i1
    unfold rawT at *
    rw [ne_lo _ _ (by omega), ne_lo _ _ (by omega), ne_lo _ _ (by omega), ne_lo _ _ (by omega)]
    exact R.2.2.2 b h b0 b1 i0 i1
  · refine ⟨fun f f0 ff => ?_, fun i i0 i1 ik f f0 ff => ?_, ?_⟩
    · have q := CQ.1 f f0 ff
      unfold stT pcT hdT prT amT at *
      rw [ne_st _ _ ⟨f0, ff⟩, ne_hi _ _ (by omega), ne_hi _ _ (by omega), ne_hi _ _ (by omega), ne_hi _ _ (by omega), hJ 20 (by decide), hJ 21 (by decide), hJ 22 (by decide), hJ 23 (by decide), hJ 24 (by decide), f1 21 (by decide) (by decide) (by decide) (by decide), f1 22 (by decide) (by decide) (by decide) (by decide), f1 23 (by decide) (by decide) (by decide) (by decide), f1 24 (by decide) (by decide) (by decide) (by decide)]
      exact ⟨S f f0 ff, q.2⟩
    · unfold keptP at ik
      rw [ne_kp _ _ (by omega)] at ik
      exact absurd ik (by decide)
    · rw [hJ 12 (by decide), K]
      unfold bitN bitN bitN bitN bitN
      rw [ne_kp _ _ (by omega), ne_kp _ _ (by omega), ne_kp _ _ (by omega), ne_kp _ _ (by omega)]
      rfl
  · obtain ⟨d0, d1, d2, d3, d4⟩ := CD
    rw [← f1 13 (by decide) (by decide) (by decide) (by decide), ← hJ 13 (by decide)] at d0 d1 d2
    refine ⟨by rw [ne_hi _ _ (by omega)]; exact d0, by rw [ne_hi _ _ (by omega)]; exact d1, by rw [ne_hi _ _ (by omega)]; exact d2, fun k k0 k1 => ?_, fun k k0 k1 => ?_⟩
    · rw [hJ 26 (by decide), N k k0 k1, ne_lo _ _ (by omega)]
      exact (w.2.2.2.1 k k0 k1).2.2.2.2.symm
    · rw [hJ 27 (by decide), M k k0 k1, ne_lo _ _ (by omega)]
      exact (w.2.2.2.2.2 (9 + k) (by omega) (by omega)).symm
end SPC43
