section SPC40
theorem wh_is {B : Int → Int} {n a : Int} {i : Nat} (hi : i < 7) (h : isW B n i a) : whT B n a = if i = 0 then 6 else if i = 1 then 5 else (i : Int) - 2 := by
  have ne : ∀ j : Nat, j < 7 → j ≠ i → ¬ isW B n j a := fun j hj e w => e (isW_un hj hi w h)
  have e : i = 0 ∨ i = 1 ∨ i = 2 ∨ i = 3 ∨ i = 4 ∨ i = 5 ∨ i = 6 := by omega
  rcases e with rfl | rfl | rfl | rfl | rfl | rfl | rfl
  · unfold whT
    rw [if_neg (ne 2 (by decide) (by decide)), if_neg (ne 3 (by decide) (by decide)), if_neg (ne 4 (by decide) (by decide)), if_neg (ne 5 (by decide) (by decide)), if_neg (ne 6 (by decide) (by decide)), if_neg (ne 1 (by decide) (by decide)), if_pos h]
    rfl
  · unfold whT
    rw [if_neg (ne 2 (by decide) (by decide)), if_neg (ne 3 (by decide) (by decide)), if_neg (ne 4 (by decide) (by decide)), if_neg (ne 5 (by decide) (by decide)), if_neg (ne 6 (by decide) (by decide)), if_pos h]
    rfl
  · unfold whT
    rw [if_pos h]
    rfl
  · unfold whT
    rw [if_neg (ne 2 (by decide) (by decide)), if_pos h]
    rfl
  · unfold whT
    rw [if_neg (ne 2 (by decide) (by decide)), if_neg (ne 3 (by decide) (by decide)), if_pos h]
    rfl
  · unfold whT
    rw [if_neg (ne 2 (by decide) (by decide)), if_neg (ne 3 (by decide) (by decide)), if_neg (ne 4 (by decide) (by decide)), if_pos h]
    rfl
  · unfold whT
    rw [if_neg (ne 2 (by decide) (by decide)), if_neg (ne 3 (by decide) (by decide)), if_neg (ne 4 (by decide) (by decide)), if_neg (ne 5 (by decide) (by decide)), if_pos h]
    rfl
theorem wh_no {B : Int → Int} {n a : Int} (h : ∀ i : Nat, i < 7 → ¬ isW B n i a) : whT B n a = -1 := by
  unfold whT
  rw [if_neg (h 2 (by decide)), if_neg (h 3 (by decide)), if_neg (h 4 (by decide)), if_neg (h 5 (by decide)), if_neg (h 6 (by decide)), if_neg (h 1 (by decide)), if_neg (h 0 (by decide))]
theorem grC.one {I : mM} {t : Int → Int} (H : cnP t) (G : grC I t) {p : Int} (hp : 1 ≤ p ∧ p ≤ 5) (v : Int) : grC (mSet I 102 p v) (updS t p v) := by
  refine ⟨fun k k0 k1 => ?_, fun q q0 q1 => ?_, fun b b0 b1 => ?_, fun b h b0 b1 i0 i1 => ?_⟩
  · by_cases e : k = p
    · rw [e, set_eq, updS_eq]
    · rw [set_nq e, updS_ne _ _ e]
      exact G.1 k k0 k1
  · rw [set_ne (by decide), updS_ne _ _ (by omega)]
    exact G.2.1 q q0 q1
  · rw [set_ne (by decide), updS_ne _ _ (by omega)]
    exact G.2.2.1 b b0 b1
  · have hb := H b b0 b1
    rw [updS_ne _ _ (by omega)] at i1
    have q := G.2.2.2 b h b0 b1 i0 i1
    unfold rawT at *
    rw [set_ne (by decide), set_ne (by decide), set_ne (by decide), set_ne (by decide), updS_ne _ _ (by omega), updS_ne _ _ (by omega), updS_ne _ _ (by omega), updS_ne _ _ (by omega)]
    exact q
def spX5_lineNamed : mSp := shR (fun _ i I Q => i = some 100 ∧ ∃ B n a, tpC I B n ∧ tkC I B n a ∧ (0 ≤ a ∧ a ≤ n) ∧ Q (.inl (some (mI (whT B n a)))) I)
def SX5_lineNamed : Nat → mSp := fun a => match a with
  | 0 => spX5_isWord
  | _ => fun _ _ _ _ => False
theorem SX5_lineNamed_0 : SX5_lineNamed 0 = spX5_isWord := Eq.trans rfl rfl
set_option maxRecDepth 100000 in
set_option maxHeartbeats 1000000 in
theorem vcX5_lineNamed (fl : Nat → Bool) (avs : List mV) (I : mM) (Q : mO → mM → Prop) (hsp : spX5_lineNamed fl avs I Q) : mVC0 SX5_lineNamed fl Q kX5_lineNamed 1 avs I := by
  obtain ⟨i, rfl, h0⟩ := shR_inv hsp
  obtain ⟨rfl, B, N, a, hT, hK, han, h⟩ := h0
  refine ⟨rfl, ?_⟩
  show mWp _ _ _ _ _ _ kX5_lineNamed_0 [some (mR (some 100))] [] I
  simp only [false_and, and_false, true_or, or_true, false_or, or_false, true_and, and_true, true_implies, false_implies, implies_true, not_true_eq_false, not_false_eq_true, and_self, List.length_cons, List.length_nil, mNoCut_, mCat_n, mCat_I, mCat_L, mCat_R, mIsL_n, mIsL_I, mIsL_R, mIsL_L, Nat.reduceAdd, Nat.reduceSub, Nat.reduceLeDiff, Nat.reduceLT, Nat.reduceEqDiff, Nat.zero_le, Int.reduceEq, Int.reduceLT, Int.reduceLE, Int.reduceNeg, Int.reduceAdd, if_true, if_false, reduceIte, reduceCtorEq, Bool.false_eq_true, ne_eq, qCmp_0, qCmp_1, qCmp_2, qCmp_3, qCmp_4, qCmp_5, ib_0, ib_1, ib_2, lb_0, lb_1, lb_2, dv_0, dv_1, wq_ic, wq_ld_a, wq_if, wq_goto, wq_ret0, wq_ret1, wq_ret2, wq_ret3, wq_ret4, wq_tx, ldR0, wq_callV2_0, mrg_6_, mrg_5_, mrg_0_, mrg_1_, mrg_2_, mrg_3_, mrg_4_, mrg_m1_, mGo_n, sfxX5_lineNamed_12, cutX5_lineNamed_12, sfxX5_lineNamed_23, cutX5_lineNamed_23, sfxX5_lineNamed_34, cutX5_lineNamed_34, sfxX5_lineNamed_45, cutX5_lineNamed_45, sfxX5_lineNamed_56, cutX5_lineNamed_56, sfxX5_lineNamed_67, cutX5_lineNamed_67, sfxX5_lineNamed_80, cutX5_lineNamed_80, sfxX5_lineNamed_81, cutX5_lineNamed_81, kX5_lineNamed_81, kX5_lineNamed_80, kX5_lineNamed_67, kX5_lineNamed_56, kX5_lineNamed_45, kX5_lineNamed_34, kX5_lineNamed_23, kX5_lineNamed_12, kX5_lineNamed_0, sk_100, al_100, ↓SX5_lineNamed_0, ↓shqRR_, ↓spX5_isWord, mrg, mrl, mSet_ap, ncast, Option.some.injEq]
  refine ⟨0, rfl, by decide, by decide, B, N, a, hT, hK, han, fun w => ?_, fun w0 => ?_⟩
  · rw [show whT B N a = 6 from wh_is (by decide) w] at h
    exact h
  refine ⟨1, rfl, by decide, by decide, B, N, a, hT, hK, han, fun w => ?_, fun w1 => ?_⟩
  · rw [show whT B N a = 5 from wh_is (by decide) w] at h
    exact h
  refine ⟨2, rfl, by decide, by decide, B, N, a, hT, hK, han, fun w => ?_, fun w2 => ?_⟩
  · rw [show whT B N a = 0 from wh_is (by decide) w] at h
    exact h
  refine ⟨3, rfl, by decide, by decide, B, N, a, hT, hK, han, fun w => ?_, fun w3 => ?_⟩
  · rw [show whT B N a = 1 from wh_is (by decide) w] at h
    exact h
  refine ⟨4, rfl, by decide, by decide, B, N, a, hT, hK, han, fun w => ?_, fun w4 => ?_⟩
  · rw [show whT B N a = 2 from wh_is (by decide) w] at h
    exact h
  refine ⟨5, rfl, by decide, by decide, B, N, a, hT, hK, han, fun w => ?_, fun w5 => ?_⟩
  · rw [show whT B N a = 3 from wh_is (by decide) w] at h
    exact h
  refine ⟨6, rfl, by decide, by decide, B, N, a, hT, hK, han, fun w => ?_, fun w6 => ?_⟩
  · rw [show whT B N a = 4 from wh_is (by decide) w] at h
    exact h
  have e : whT B N a = -1 := wh_no (fun i hi => by
    have e : i = 0 ∨ i = 1 ∨ i = 2 ∨ i = 3 ∨ i = 4 ∨ i = 5 ∨ i = 6 := by omega
    rcases e with rfl | rfl | rfl | rfl | rfl | rfl | rfl <;> assumption)
  rw [e] at h
  exact h
theorem ctrX5_lineNamed {l : Launch} (hst : l.stackTraces = false) (hT : mTxM l) : mCtr l calX5_lineNamed spX5_lineNamed :=
  mMet0 (T := TX5_lineNamed) (S := SX5_lineNamed) hst hT (by decide) okX5_lineNamed ⟨_, _, rfl, rfl⟩ (fun a => match a with
    | 0 => ctrX5_isWord hst hT
    | _ + 1 => mCtr_no) vcX5_lineNamed

def spX5_readSetting : mSp := shRI (fun _ i c I Q => i = some 100 ∧ (0 ≤ c ∧ c ≤ 4) ∧ I 100 3 = 0 ∧ ∃ B n x t, tpC I B n ∧ tkC I B n (enT B n x) ∧ (0 ≤ x ∧ x ≤ n) ∧ cnP t ∧ grC I t ∧ ∀ I' : mM, gsC I' I B n (seT B n c (enT B n x) t) → Q (.inl (some (mI (if (seT B n c (enT B n x) t).1 = 0 then 1 else 0)))) I')
def SX5_readSetting : Nat → mSp := fun a => match a with
  | 0 => spX5_readNumber
  | _ => fun _ _ _ _ => False
theorem SX5_readSetting_0 : SX5_readSetting 0 = spX5_readNumber := Eq.trans rfl rfl
set_option maxRecDepth 100000 in
set_option maxHeartbeats 1000000 in
theorem vcX5_readSetting (fl : Nat → Bool) (avs : List mV) (I : mM) (Q : mO → mM → Prop) (hsp : spX5_readSetting fl avs I Q) : mVC0 SX5_readSetting fl Q kX5_readSetting 2 avs I := by
  obtain ⟨i, c, rfl, h0⟩ := shRI_inv hsp
  obtain ⟨rfl, hc, h3, B, N, x, t, hT, hK, hx, hcn, hG, h⟩ := h0
  have eb := en8 B hx
  have hfin : ∀ (lo hi c' : Int), c = c' → lowT c' = lo → topT c' = hi → lo ≤ hi → ∀ I1 : mM, rnC I1 I B N (numT B N lo hi (enT B N x)) → ((numT B N lo hi (enT B N x)).1 = 0 → Q (.inl (some (mI 1))) (mSet I1 102 (1 + c') (I1 100 10)) ∧ I1 100 3 = 0) ∧ ((numT B N lo hi (enT B N x)).1 ≠ 0 → Q (.inl (some (mI 0))) I1 ∧ I1 100 3 ≠ 0 ∧ mrg (I1 100 3)) := fun lo hi c' ec el eh lh I1 r1 => by
    have nb := num_bd (B := B) (n := N) (lo := lo) (hi := hi) (a := enT B N x) ⟨by omega, by omega⟩ lh
    have eS : seT B N c (enT B N x) t = if (numT B N lo hi (enT B N x)).1 ≠ 0 then rdE (numT B N lo hi (enT B N x)) t else (0, 0, (numT B N lo hi (enT B N x)).2.2.1, updS t (1 + c') (numT B N lo hi (enT B N x)).2.2.2) := by
      unfold seT
      rw [ec, el, eh]
    constructor
    · intro z
      rw [if_neg (fun w => w z)] at eS
      obtain ⟨K1, v1, a1, c1⟩ := r1.2.2.2 z
      have h := h (mSet I1 102 (1 + c') (I1 100 10))
      rw [eS, if_pos rfl] at h
      refine ⟨h ⟨r1.s.set (by decide) _ _, fun w => absurd rfl w, fun _ => ⟨K1.set (by decide) _ _, ?_, by rw [set_ne (by decide)]; exact a1, by rw [set_ne (by decide)]; exact c1⟩⟩, a1.trans h3⟩
      rw [v1]
      exact (hG.of (J := I1) (r1.1 _ (by decide)) (r1.1 _ (by decide)) (r1.1 _ (by decide)) (r1.1 _ (by decide)) (r1.1 _ (by decide)) (r1.1 _ (by decide)) (r1.1 _ (by decide))).one hcn ⟨by omega, by omega⟩ _
    · intro z
      rw [if_pos z] at eS
      have h := h I1
      rw [eS, if_neg z] at h
      have q := r1.2.2.1 z
      exact ⟨h ⟨r1.s, fun _ => q, fun w => absurd w z⟩, by rw [q.1]; exact z, by rw [q.1]; exact ⟨by omega, by omega⟩⟩
  refine ⟨rfl, ?_⟩
  show mWp _ _ _ _ _ _ kX5_readSetting_0 [some (mR (some 100)), some (mI c)] [] I
  have e : c = 0 ∨ c = 1 ∨ c = 2 ∨ c = 3 ∨ c = 4 := by omega
  rcases e with rfl | rfl | rfl | rfl | rfl
  · simp only [false_and, and_false, true_or, or_true, false_or, or_false, true_and, and_true, true_implies, false_implies, implies_true, not_true_eq_false, not_false_eq_true, and_self, List.length_cons, List.length_nil, mNoCut_, mCat_n, mCat_I, mCat_L, mCat_R, mIsL_n, mIsL_I, mIsL_R, mIsL_L, Nat.reduceAdd, Nat.reduceSub, Nat.reduceLeDiff, Nat.reduceLT, Nat.reduceEqDiff, Nat.zero_le, Int.reduceEq, Int.reduceLT, Int.reduceLE, Int.reduceNeg, Int.reduceAdd, if_true, if_false, reduceIte, reduceCtorEq, Bool.false_eq_true, ne_eq, qCmp_0, qCmp_1, qCmp_2, qCmp_3, qCmp_4, qCmp_5, ib_0, ib_1, ib_2, lb_0, lb_1, lb_2, dv_0, dv_1, wq_ic, wq_ld_i, wq_ld_a, wq_if, wq_goto, wq_get, mGet_0, mGet_1, mGet_2, mGet_3, wq_putI, wq_putL, wq_ret0, wq_ret1, wq_ret2, wq_ret3, wq_ret4, wq_sw, wqsw_n, wqsw_c, ldI1, ldR0, mrg_2_, mrg_8_, wq_callV3_0, fk_5_2, fk_5_10, fk_3_1, mrg_1_, mrg_60_, fk_3_2, mrg_0_, mrg_99_, fk_3_3, mrg_9_, fk_3_4, fk_3_5, fk_5_3, mGo_n, sfxX5_readSetting_32, cutX5_readSetting_32, sfxX5_readSetting_56, cutX5_readSetting_56, sfxX5_readSetting_80, cutX5_readSetting_80, sfxX5_readSetting_104, cutX5_readSetting_104, sfxX5_readSetting_128, cutX5_readSetting_128, sfxX5_readSetting_149, cutX5_readSetting_149, sfxX5_readSetting_160, cutX5_readSetting_160, sfxX5_readSetting_161, cutX5_readSetting_161, kX5_readSetting_161, kX5_readSetting_160, kX5_readSetting_149, kX5_readSetting_128, kX5_readSetting_104, kX5_readSetting_80, kX5_readSetting_56, kX5_readSetting_32, kX5_readSetting_0, sk_11, al_11, sk_102, al_102, sk_100, al_100, rf_100_2, ↓SX5_readSetting_0, ↓shqRII_, ↓spX5_readNumber, mrg, mrl, mSet_ap, ncast, Option.some.injEq]
    refine ⟨B, N, enT B N x, hT, hK, ⟨by omega, by omega⟩, fun I1 r1 => ?_⟩
    obtain ⟨g1, g2⟩ := hfin 2 8 0 rfl rfl rfl (by decide) I1 r1
    by_cases z : (numT B N 2 8 (enT B N x)).1 = 0
    · obtain ⟨q1, q2⟩ := g1 z
      rw [if_pos z, q2]
      exact ⟨⟨by decide, by decide⟩, fun w => absurd w (by decide), fun _ => ⟨⟨by decide, by decide⟩, fun w => absurd rfl w, fun _ => q1⟩⟩
    · obtain ⟨q1, q2, q3⟩ := g2 z
      rw [if_neg z]
      exact ⟨⟨by decide, by decide⟩, fun _ => ⟨q3, fun _ => q1, fun w => absurd q2 w⟩, fun w => absurd rfl w⟩
  · simp only [false_and, and_false, true_or, or_true, false_or, or_false, true_and, and_true, true_implies, false_implies, implies_true, not_true_eq_false, not_false_eq_true, and_self, List.length_cons, List.length_nil, mNoCut_, mCat_n, mCat_I, mCat_L, mCat_R, mIsL_n, mIsL_I, mIsL_R, mIsL_L, Nat.reduceAdd, Nat.reduceSub, Nat.reduceLeDiff, Nat.reduceLT, Nat.reduceEqDiff, Nat.zero_le, Int.reduceEq, Int.reduceLT, Int.reduceLE, Int.reduceNeg, Int.reduceAdd, if_true, if_false, reduceIte, reduceCtorEq, Bool.false_eq_true, ne_eq, qCmp_0, qCmp_1, qCmp_2, qCmp_3, qCmp_4, qCmp_5, ib_0, ib_1, ib_2, lb_0, lb_1, lb_2, dv_0, dv_1, wq_ic, wq_ld_i, wq_ld_a, wq_if, wq_goto, wq_get, mGet_0, mGet_1, mGet_2, mGet_3, wq_putI, wq_putL, wq_ret0, wq_ret1, wq_ret2, wq_ret3, wq_ret4, wq_sw, wqsw_n, wqsw_c, ldI1, ldR0, mrg_2_, mrg_8_, wq_callV3_0, fk_5_2, fk_5_10, fk_3_1, mrg_1_, mrg_60_, fk_3_2, mrg_0_, mrg_99_, fk_3_3, mrg_9_, fk_3_4, fk_3_5, fk_5_3, mGo_n, sfxX5_readSetting_32, cutX5_readSetting_32, sfxX5_readSetting_56, cutX5_readSetting_56, sfxX5_readSetting_80, cutX5_readSetting_80, sfxX5_readSetting_104, cutX5_readSetting_104, sfxX5_readSetting_128, cutX5_readSetting_128, sfxX5_readSetting_149, cutX5_readSetting_149, sfxX5_readSetting_160, cutX5_readSetting_160, sfxX5_readSetting_161, cutX5_readSetting_161, kX5_readSetting_161, kX5_readSetting_160, kX5_readSetting_149, kX5_readSetting_128, kX5_readSetting_104, kX5_readSetting_80, kX5_readSetting_56, kX5_readSetting_32, kX5_readSetting_0, sk_11, al_11, sk_102, al_102, sk_100, al_100, rf_100_2, ↓SX5_readSetting_0, ↓shqRII_, ↓spX5_readNumber, mrg, mrl, mSet_ap, ncast, Option.some.injEq]
    refine ⟨B, N, enT B N x, hT, hK, ⟨by omega, by omega⟩, fun I1 r1 => ?_⟩
    obtain ⟨g1, g2⟩ := hfin 1 60 1 rfl rfl rfl (by decide) I1 r1
    by_cases z : (numT B N 1 60 (enT B N x)).1 = 0
    · obtain ⟨q1, q2⟩ := g1 z
      rw [if_pos z, q2]
      exact ⟨⟨by decide, by decide⟩, fun w => absurd w (by decide), fun _ => ⟨⟨by decide, by decide⟩, fun w => absurd rfl w, fun _ => q1⟩⟩
    · obtain ⟨q1, q2, q3⟩ := g2 z
      rw [if_neg z]
      exact ⟨⟨by decide, by decide⟩, fun _ => ⟨q3, fun _ => q1, fun w => absurd q2 w⟩, fun w => absurd rfl w⟩
  · simp only [false_and, and_false, true_or, or_true, false_or, or_false, true_and, and_true, true_implies, false_implies, implies_true, not_true_eq_false, not_false_eq_true, and_self, List.length_cons, List.length_nil, mNoCut_, mCat_n, mCat_I, mCat_L, mCat_R, mIsL_n, mIsL_I, mIsL_R, mIsL_L, Nat.reduceAdd, Nat.reduceSub, Nat.reduceLeDiff, Nat.reduceLT, Nat.reduceEqDiff, Nat.zero_le, Int.reduceEq, Int.reduceLT, Int.reduceLE, Int.reduceNeg, Int.reduceAdd, if_true, if_false, reduceIte, reduceCtorEq, Bool.false_eq_true, ne_eq, qCmp_0, qCmp_1, qCmp_2, qCmp_3, qCmp_4, qCmp_5, ib_0, ib_1, ib_2, lb_0, lb_1, lb_2, dv_0, dv_1, wq_ic, wq_ld_i, wq_ld_a, wq_if, wq_goto, wq_get, mGet_0, mGet_1, mGet_2, mGet_3, wq_putI, wq_putL, wq_ret0, wq_ret1, wq_ret2, wq_ret3, wq_ret4, wq_sw, wqsw_n, wqsw_c, ldI1, ldR0, mrg_2_, mrg_8_, wq_callV3_0, fk_5_2, fk_5_10, fk_3_1, mrg_1_, mrg_60_, fk_3_2, mrg_0_, mrg_99_, fk_3_3, mrg_9_, fk_3_4, fk_3_5, fk_5_3, mGo_n, sfxX5_readSetting_32, cutX5_readSetting_32, sfxX5_readSetting_56, cutX5_readSetting_56, sfxX5_readSetting_80, cutX5_readSetting_80, sfxX5_readSetting_104, cutX5_readSetting_104, sfxX5_readSetting_128, cutX5_readSetting_128, sfxX5_readSetting_149, cutX5_readSetting_149, sfxX5_readSetting_160, cutX5_readSetting_160, sfxX5_readSetting_161, cutX5_readSetting_161, kX5_readSetting_161, kX5_readSetting_160, kX5_readSetting_149, kX5_readSetting_128, kX5_readSetting_104, kX5_readSetting_80, kX5_readSetting_56, kX5_readSetting_32, kX5_readSetting_0, sk_11, al_11, sk_102, al_102, sk_100, al_100, rf_100_2, ↓SX5_readSetting_0, ↓shqRII_, ↓spX5_readNumber, mrg, mrl, mSet_ap, ncast, Option.some.injEq]
    refine ⟨B, N, enT B N x, hT, hK, ⟨by omega, by omega⟩, fun I1 r1 => ?_⟩
    obtain ⟨g1, g2⟩ := hfin 0 99 2 rfl rfl rfl (by decide) I1 r1
    by_cases z : (numT B N 0 99 (enT B N x)).1 = 0
    · obtain ⟨q1, q2⟩ := g1 z
      rw [if_pos z, q2]
      exact ⟨⟨by decide, by decide⟩, fun w => absurd w (by decide), fun _ => ⟨⟨by decide, by decide⟩, fun w => absurd rfl w, fun _ => q1⟩⟩
    · obtain ⟨q1, q2, q3⟩ := g2 z
      rw [if_neg z]
      exact ⟨⟨by decide, by decide⟩, fun _ => ⟨q3, fun _ => q1, fun w => absurd q2 w⟩, fun w => absurd rfl w⟩
  · simp only [false_and, and_false, true_or, or_true, false_or, or_false, true_and, and_true, true_implies, false_implies, implies_true, not_true_eq_false, not_false_eq_true, and_self, List.length_cons, List.length_nil, mNoCut_, mCat_n, mCat_I, mCat_L, mCat_R, mIsL_n, mIsL_I, mIsL_R, mIsL_L, Nat.reduceAdd, Nat.reduceSub, Nat.reduceLeDiff, Nat.reduceLT, Nat.reduceEqDiff, Nat.zero_le, Int.reduceEq, Int.reduceLT, Int.reduceLE, Int.reduceNeg, Int.reduceAdd, if_true, if_false, reduceIte, reduceCtorEq, Bool.false_eq_true, ne_eq, qCmp_0, qCmp_1, qCmp_2, qCmp_3, qCmp_4, qCmp_5, ib_0, ib_1, ib_2, lb_0, lb_1, lb_2, dv_0, dv_1, wq_ic, wq_ld_i, wq_ld_a, wq_if, wq_goto, wq_get, mGet_0, mGet_1, mGet_2, mGet_3, wq_putI, wq_putL, wq_ret0, wq_ret1, wq_ret2, wq_ret3, wq_ret4, wq_sw, wqsw_n, wqsw_c, ldI1, ldR0, mrg_2_, mrg_8_, wq_callV3_0, fk_5_2, fk_5_10, fk_3_1, mrg_1_, mrg_60_, fk_3_2, mrg_0_, mrg_99_, fk_3_3, mrg_9_, fk_3_4, fk_3_5, fk_5_3, mGo_n, sfxX5_readSetting_32, cutX5_readSetting_32, sfxX5_readSetting_56, cutX5_readSetting_56, sfxX5_readSetting_80, cutX5_readSetting_80, sfxX5_readSetting_104, cutX5_readSetting_104, sfxX5_readSetting_128, cutX5_readSetting_128, sfxX5_readSetting_149, cutX5_readSetting_149, sfxX5_readSetting_160, cutX5_readSetting_160, sfxX5_readSetting_161, cutX5_readSetting_161, kX5_readSetting_161, kX5_readSetting_160, kX5_readSetting_149, kX5_readSetting_128, kX5_readSetting_104, kX5_readSetting_80, kX5_readSetting_56, kX5_readSetting_32, kX5_readSetting_0, sk_11, al_11, sk_102, al_102, sk_100, al_100, rf_100_2, ↓SX5_readSetting_0, ↓shqRII_, ↓spX5_readNumber, mrg, mrl, mSet_ap, ncast, Option.some.injEq]
    refine ⟨B, N, enT B N x, hT, hK, ⟨by omega, by omega⟩, fun I1 r1 => ?_⟩
    obtain ⟨g1, g2⟩ := hfin 0 9 3 rfl rfl rfl (by decide) I1 r1
    by_cases z : (numT B N 0 9 (enT B N x)).1 = 0
    · obtain ⟨q1, q2⟩ := g1 z
      rw [if_pos z, q2]
      exact ⟨⟨by decide, by decide⟩, fun w => absurd w (by decide), fun _ => ⟨⟨by decide, by decide⟩, fun w => absurd rfl w, fun _ => q1⟩⟩
    · obtain ⟨q1, q2, q3⟩ := g2 z
      rw [if_neg z]
      exact ⟨⟨by decide, by decide⟩, fun _ => ⟨q3, fun _ => q1, fun w => absurd q2 w⟩, fun w => absurd rfl w⟩
  · simp only [false_and, and_false, true_or, or_true, false_or, or_false, true_and, and_true, true_implies, false_implies, implies_true, not_true_eq_false, not_false_eq_true, and_self, List.length_cons, List.length_nil, mNoCut_, mCat_n, mCat_I, mCat_L, mCat_R, mIsL_n, mIsL_I, mIsL_R, mIsL_L, Nat.reduceAdd, Nat.reduceSub, Nat.reduceLeDiff, Nat.reduceLT, Nat.reduceEqDiff, Nat.zero_le, Int.reduceEq, Int.reduceLT, Int.reduceLE, Int.reduceNeg, Int.reduceAdd, if_true, if_false, reduceIte, reduceCtorEq, Bool.false_eq_true, ne_eq, qCmp_0, qCmp_1, qCmp_2, qCmp_3, qCmp_4, qCmp_5, ib_0, ib_1, ib_2, lb_0, lb_1, lb_2, dv_0, dv_1, wq_ic, wq_ld_i, wq_ld_a, wq_if, wq_goto, wq_get, mGet_0, mGet_1, mGet_2, mGet_3, wq_putI, wq_putL, wq_ret0, wq_ret1, wq_ret2, wq_ret3, wq_ret4, wq_sw, wqsw_n, wqsw_c, ldI1, ldR0, mrg_2_, mrg_8_, wq_callV3_0, fk_5_2, fk_5_10, fk_3_1, mrg_1_, mrg_60_, fk_3_2, mrg_0_, mrg_99_, fk_3_3, mrg_9_, fk_3_4, fk_3_5, fk_5_3, mGo_n, sfxX5_readSetting_32, cutX5_readSetting_32, sfxX5_readSetting_56, cutX5_readSetting_56, sfxX5_readSetting_80, cutX5_readSetting_80, sfxX5_readSetting_104, cutX5_readSetting_104, sfxX5_readSetting_128, cutX5_readSetting_128, sfxX5_readSetting_149, cutX5_readSetting_149, sfxX5_readSetting_160, cutX5_readSetting_160, sfxX5_readSetting_161, cutX5_readSetting_161, kX5_readSetting_161, kX5_readSetting_160, kX5_readSetting_149, kX5_readSetting_128, kX5_readSetting_104, kX5_readSetting_80, kX5_readSetting_56, kX5_readSetting_32, kX5_readSetting_0, sk_11, al_11, sk_102, al_102, sk_100, al_100, rf_100_2, ↓SX5_readSetting_0, ↓shqRII_, ↓spX5_readNumber, mrg, mrl, mSet_ap, ncast, Option.some.injEq]
    refine ⟨B, N, enT B N x, hT, hK, ⟨by omega, by omega⟩, fun I1 r1 => ?_⟩
    obtain ⟨g1, g2⟩ := hfin 0 8 4 rfl rfl rfl (by decide) I1 r1
    by_cases z : (numT B N 0 8 (enT B N x)).1 = 0
    · obtain ⟨q1, q2⟩ := g1 z
      rw [if_pos z, q2]
      exact ⟨⟨by decide, by decide⟩, fun w => absurd w (by decide), fun _ => ⟨⟨by decide, by decide⟩, fun w => absurd rfl w, fun _ => q1⟩⟩
    · obtain ⟨q1, q2, q3⟩ := g2 z
      rw [if_neg z]
      exact ⟨⟨by decide, by decide⟩, fun _ => ⟨q3, fun _ => q1, fun w => absurd q2 w⟩, fun w => absurd rfl w⟩
theorem ctrX5_readSetting {l : Launch} (hst : l.stackTraces = false) (hT : mTxM l) : mCtr l calX5_readSetting spX5_readSetting :=
  mMet0 (T := TX5_readSetting) (S := SX5_readSetting) hst hT (by decide) okX5_readSetting ⟨_, _, rfl, rfl⟩ (fun a => match a with
    | 0 => ctrX5_readNumber hst hT
    | _ + 1 => mCtr_no) vcX5_readSetting

end SPC40
