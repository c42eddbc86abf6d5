section SPC31
def bcA (x : Int) : Int := x - ib 3 (ib 8 x 1) 1431655765
def bcB (x : Int) : Int := ib 3 x 858993459 + ib 3 (ib 8 x 2) 858993459
def bcC (x : Int) : Int := ib 3 (x + ib 8 x 4) 252645135
def bcD (x : Int) : Int := x + ib 8 x 8
def bcE (x : Int) : Int := ib 3 (x + ib 8 x 16) 63
theorem bc_tab : ∀ s : Fin 512, bcE (bcD (bcC (bcB (bcA (s.val : Int))))) = (popS s.val : Int) := by decide +kernel
theorem bc_rg (x : Int) : -2147483648 ≤ ib 3 x 1431655765 ∧ ib 3 x 1431655765 < 2147483648 := by
  have h1 := Int32.le_toInt (Int32.ofInt x &&& Int32.ofInt 1431655765)
  have h2 := Int32.toInt_lt (Int32.ofInt x &&& Int32.ofInt 1431655765)
  exact ⟨h1, h2⟩
def spJ6_bitCount_0f7a4 : mSp := shI (fun _ x I Q => (0 ≤ x ∧ x < 512) ∧ Q (.inl (some (mI (popS x.toNat)))) I)
def SJ6_bitCount_0f7a4 : Nat → mSp := fun a => match a with
  | _ => fun _ _ _ _ => False
set_option maxRecDepth 100000 in
set_option maxHeartbeats 1000000 in
theorem vcJ6_bitCount_0f7a4 (fl : Nat → Bool) (avs : List mV) (I : mM) (Q : mO → mM → Prop) (hsp : spJ6_bitCount_0f7a4 fl avs I Q) : mVC0 SJ6_bitCount_0f7a4 fl Q kJ6_bitCount_0f7a4 1 avs I := by
  obtain ⟨x, rfl, h0⟩ := shI_inv hsp
  refine ⟨rfl, ?_⟩
  show mWp _ _ _ _ _ _ kJ6_bitCount_0f7a4_0 [some (mI x)] [] I
  obtain ⟨hx, h⟩ := h0
  obtain ⟨s, rfl⟩ : ∃ s : Nat, x = s := ⟨x.toNat, by omega⟩
  have e := bc_tab ⟨s, by omega⟩
  simp only [false_and, and_false, true_or, or_true, false_or, or_false, true_and, and_true, true_implies, false_implies, implies_true, not_true_eq_false, not_false_eq_true, and_self, List.length_cons, List.length_nil, mNoCut_, mCat_n, mCat_I, mCat_L, mCat_R, mIsL_n, mIsL_I, mIsL_R, mIsL_L, Nat.reduceAdd, Nat.reduceSub, Nat.reduceLeDiff, Nat.reduceLT, Nat.reduceEqDiff, Nat.zero_le, Int.reduceEq, Int.reduceLT, Int.reduceLE, Int.reduceNeg, Int.reduceAdd, if_true, if_false, reduceIte, reduceCtorEq, Bool.false_eq_true, ne_eq, qCmp_0, qCmp_1, qCmp_2, qCmp_3, qCmp_4, qCmp_5, ib_0, ib_1, ib_2, lb_0, lb_1, lb_2, dv_0, dv_1, wq_ic, wq_ld_i, wq_st_i, wq_ib, wq_ret0, wq_ret1, wq_ret2, wq_ret3, wq_ret4, ldI0, mrg_1_, mrg_1431655765_, stI0, mrg_858993459_, mrg_2_, mrg_4_, mrg_252645135_, mrg_8_, mrg_16_, mrg_63_, mPut_s, mPut_I0, mPut_R0, mPut_L0, mPut_I1, mPut_R1, mPut_L1, kJ6_bitCount_0f7a4_0, mrg, mrl, mSet_ap, ncast, Option.some.injEq]
  rw [show ((s : Int)).toNat = s from rfl, ← e] at h
  exact h
theorem ctrJ6_bitCount_0f7a4 {l : Launch} (hst : l.stackTraces = false) (hT : mTxM l) : mCtr l calJ6_bitCount_0f7a4 spJ6_bitCount_0f7a4 :=
  mMet0 (T := TJ6_bitCount_0f7a4) (S := SJ6_bitCount_0f7a4) hst hT (by decide) okJ6_bitCount_0f7a4 ⟨_, _, rfl, rfl⟩ (fun a => mCtr_no) vcJ6_bitCount_0f7a4

def spX10_gather : mSp := shRIR (fun _ i w a I Q => i = some 0 ∧ (0 ≤ w ∧ w < 4) ∧ (a = some 5 ∨ a = some 6) ∧ stB (fun f => I 25 (9 * w + f)) ∧ ∀ I' : mM, (∀ i, i ≠ 3 → i ≠ a.getD 0 → I' i = I i) → (∀ k : Int, 0 ≤ k → k < cntT (fun f => I 25 (9 * w + f)) 9 → I' (a.getD 0) k = gthT (fun f => I 25 (9 * w + f)) 9 k) → Q (.inl (some (mI (cntT (fun f => I 25 (9 * w + f)) 9)))) I')
def SX10_gather : Nat → mSp := fun a => match a with
  | 0 => spX6_standAs
  | _ => fun _ _ _ _ => False
theorem SX10_gather_0 : SX10_gather 0 = spX6_standAs := Eq.trans rfl rfl
theorem cutsX10_gather {t : Nat} {bs : List Bool} (h : cutX10_gather t = some bs) : (t = 20 ∧ bs = [true, false, true, true, true]) := by
  unfold cutX10_gather at h
  simp only [mLk] at h
  by_cases h0 : 20 = t
  · subst h0
    simp at h
    exact ⟨rfl, h.symm⟩
  rw [if_neg h0] at h
  cases h
set_option maxRecDepth 100000 in
set_option maxHeartbeats 1000000 in
theorem vcX10_gather (fl : Nat → Bool) (avs : List mV) (I : mM) (Q : mO → mM → Prop) (hsp : spX10_gather fl avs I Q) : mVC SX10_gather fl Q kX10_gather cutX10_gather 5 avs I := by
  obtain ⟨i, w, a, rfl, h0⟩ := shRIR_inv hsp
  obtain ⟨rfl, hw, ha, hB, h⟩ := h0
  obtain ⟨a, rfl⟩ : ∃ b, a = some b := ha.elim (fun z => ⟨_, z⟩) (fun z => ⟨_, z⟩)
  simp only [Option.getD_some, Option.some.injEq] at *
  have k1 : sk a = 20 := by rcases ha with rfl | rfl <;> rfl
  have k2 : sn a = 9 := by rcases ha with rfl | rfl <;> rfl
  have k3 : al fl a = true := by rcases ha with rfl | rfl <;> rfl
  have k5 : mRo0 a = none := ro0_n (by omega)
  obtain ⟨s, hs⟩ : ∃ s, s = (fun f => I 25 (9 * w + f)) := ⟨_, rfl⟩
  refine ⟨rfl, (fun m pc lv st I1 => st = [] ∧ ∃ j : Nat, lv = [some (mR (some 0)), none, some (mR (some a)), some (mI (cntT (fun f => I 25 (9 * w + f)) j)), some (mI j)] ∧ j ≤ 9 ∧ m = 9 - j ∧ (∀ i, i ≠ 3 → i ≠ a → I1 i = I i) ∧ (∀ f : Int, 0 ≤ f → f < 9 → I1 3 f = I 25 (9 * w + f)) ∧ (∀ k : Int, 0 ≤ k → k < cntT (fun f => I 25 (9 * w + f)) j → I1 a k = gthT (fun f => I 25 (9 * w + f)) j k)), ?_, ?_⟩
  · intro n t bs hbs lv st I1 hc
    rcases cutsX10_gather hbs with ⟨rfl, rfl⟩
    rw [sfxX10_gather_20]
    obtain ⟨rfl, j, rfl, hj, hm, hF, h3, hG⟩ := hc
    rw [← hs] at h hG hB ⊢
    have cl := cntT_le s j
    have hfin : ∀ _ : Unit, j = 9 → Q (.inl (some (mI (cntT s j)))) I1 := fun _ e => by
      subst e
      exact h I1 hF hG
    have hj3 : ∀ _ : Unit, (j : Int) < 9 → I1 3 j = s j := fun _ z => by
      rw [h3 j (by omega) z, hs]
    have cs : cntT s (j + 1) = if s j = -1 then cntT s j else cntT s j + 1 := rfl
    have gs : gthT s (j + 1) = if s j = -1 then gthT s j else updS (gthT s j) (cntT s j) (s j) := rfl
    rcases Nat.lt_or_ge j 9 with z | z
    · have h3j := hj3 () (by omega)
      have bj := hB j (by omega) (by omega)
      by_cases q : s j = -1
      · rw [if_pos q] at cs gs
        have key : ∃ n', n' < n ∧ ∃ j_1 : Nat, [some (mR (some 0)), none, some (mR (some a)), some (mI (cntT s j)), some (mI ((j : Int) + 1))] = [some (mR (some 0)), none, some (mR (some a)), some (mI (cntT s j_1)), some (mI j_1)] ∧ j_1 ≤ 9 ∧ n' = 9 - j_1 ∧ (∀ i, ¬ i = 3 → ¬ i = a → I1 i = I i) ∧ (∀ f : Int, 0 ≤ f → f < 9 → I1 3 f = I 25 (9 * w + f)) ∧ (∀ k : Int, 0 ≤ k → k < cntT s j_1 → I1 a k = gthT s j_1 k) := ⟨9 - (j + 1), by omega, j + 1, by rw [cs]; rfl, by omega, rfl, hF, h3, by rw [cs, gs]; exact hG⟩
        clear h hfin hj3 hG hF h3
        simp only [false_and, and_false, true_or, or_true, false_or, or_false, true_and, and_true, true_implies, false_implies, implies_true, not_true_eq_false, not_false_eq_true, and_self, List.length_cons, List.length_nil, mNoCut_, mCat_n, mCat_I, mCat_L, mCat_R, mIsL_n, mIsL_I, mIsL_R, mIsL_L, Nat.reduceAdd, Nat.reduceSub, Nat.reduceLeDiff, Nat.reduceLT, Nat.reduceEqDiff, Nat.zero_le, Int.reduceEq, Int.reduceLT, Int.reduceLE, Int.reduceNeg, Int.reduceAdd, if_true, if_false, reduceIte, reduceCtorEq, Bool.false_eq_true, ne_eq, qCmp_0, qCmp_1, qCmp_2, qCmp_3, qCmp_4, qCmp_5, ib_0, ib_1, ib_2, lb_0, lb_1, lb_2, dv_0, dv_1, wq_ic, wq_ld_i, wq_ld_a, wq_st_i, wq_iinc, wq_icmp, wq_goto, wq_get, mGet_0, mGet_1, mGet_2, mGet_3, wq_ald, wq_astI, wq_astL, wq_ret0, wq_ret1, wq_ret2, wq_ret3, wq_ret4, ldR0, fk_10_0, fk_7_1, ldI1, fk_10_8, wq_callV3_0, mrg_0_, stI3, stI4, ldI4, mrg_9_, mrg_m1_, ldR2, ldI3, wqinc3, wqinc4, mPut_s, mPut_I0, mPut_R0, mPut_L0, mPut_I1, mPut_R1, mPut_L1, mGo_n, sfxX10_gather_20, cutX10_gather_20, sfxX10_gather_51, cutX10_gather_51, sfxX10_gather_57, cutX10_gather_57, wq_cut, mGo_c, mMask_t, mMask_f, mMask_n, kX10_gather_57, kX10_gather_51, kX10_gather_20, kX10_gather_0, sk_0, al_0, rf_0_0, sk_10, al_10, rf_0_8, sk_3, al_3, sn_3, rf_10_1, sk_12, al_12, ald_n, ro0_n, al_ro, SX10_gather_0, shqRIR_, spX6_standAs, mrg, mrl, mSet_ap, ncast, Option.some.injEq, k1, k2, k3, k5, h3j, q]
        (try simp only [mrg, mrl] at *) <;> repeat' (first | (with_reducible assumption) | (with_reducible apply And.intro) | intro _)
        all_goals first | omega | exact key | skip
      · rw [if_neg q] at cs gs
        have key : ∃ n', n' < n ∧ ∃ j_1 : Nat, [some (mR (some 0)), none, some (mR (some a)), some (mI ((cntT s j : Int) + 1)), some (mI ((j : Int) + 1))] = [some (mR (some 0)), none, some (mR (some a)), some (mI (cntT s j_1)), some (mI j_1)] ∧ j_1 ≤ 9 ∧ n' = 9 - j_1 ∧ (∀ i, ¬ i = 3 → ¬ i = a → mSet I1 a (cntT s j) (s j) i = I i) ∧ (∀ f : Int, 0 ≤ f → f < 9 → (if 3 = a ∧ f = (cntT s j : Nat) then s j else I1 3 f) = I 25 (9 * w + f)) ∧ (∀ k : Int, 0 ≤ k → k < cntT s j_1 → (if k = (cntT s j : Nat) then s j else I1 a k) = gthT s j_1 k) := by
          refine ⟨9 - (j + 1), by omega, j + 1, by rw [cs]; rfl, by omega, rfl, fun i i0 i1 => by rw [set_ne i1]; exact hF i i0 i1, fun f f0 f1 => by rw [if_neg (by omega)]; exact h3 f f0 f1, fun k q0 q1 => ?_⟩
          rw [cs] at q1
          rw [gs]
          by_cases e : k = cntT s j
          · rw [if_pos e, e, updS_eq]
          · rw [if_neg e, updS_ne _ _ e]
            exact hG k q0 (by omega)
        clear h hfin hj3 hG hF h3
        simp only [false_and, and_false, true_or, or_true, false_or, or_false, true_and, and_true, true_implies, false_implies, implies_true, not_true_eq_false, not_false_eq_true, and_self, List.length_cons, List.length_nil, mNoCut_, mCat_n, mCat_I, mCat_L, mCat_R, mIsL_n, mIsL_I, mIsL_R, mIsL_L, Nat.reduceAdd, Nat.reduceSub, Nat.reduceLeDiff, Nat.reduceLT, Nat.reduceEqDiff, Nat.zero_le, Int.reduceEq, Int.reduceLT, Int.reduceLE, Int.reduceNeg, Int.reduceAdd, if_true, if_false, reduceIte, reduceCtorEq, Bool.false_eq_true, ne_eq, qCmp_0, qCmp_1, qCmp_2, qCmp_3, qCmp_4, qCmp_5, ib_0, ib_1, ib_2, lb_0, lb_1, lb_2, dv_0, dv_1, wq_ic, wq_ld_i, wq_ld_a, wq_st_i, wq_iinc, wq_icmp, wq_goto, wq_get, mGet_0, mGet_1, mGet_2, mGet_3, wq_ald, wq_astI, wq_astL, wq_ret0, wq_ret1, wq_ret2, wq_ret3, wq_ret4, ldR0, fk_10_0, fk_7_1, ldI1, fk_10_8, wq_callV3_0, mrg_0_, stI3, stI4, ldI4, mrg_9_, mrg_m1_, ldR2, ldI3, wqinc3, wqinc4, mPut_s, mPut_I0, mPut_R0, mPut_L0, mPut_I1, mPut_R1, mPut_L1, mGo_n, sfxX10_gather_20, cutX10_gather_20, sfxX10_gather_51, cutX10_gather_51, sfxX10_gather_57, cutX10_gather_57, wq_cut, mGo_c, mMask_t, mMask_f, mMask_n, kX10_gather_57, kX10_gather_51, kX10_gather_20, kX10_gather_0, sk_0, al_0, rf_0_0, sk_10, al_10, rf_0_8, sk_3, al_3, sn_3, rf_10_1, sk_12, al_12, ald_n, ro0_n, al_ro, SX10_gather_0, shqRIR_, spX6_standAs, mrg, mrl, mSet_ap, ncast, Option.some.injEq, k1, k2, k3, k5, h3j, q]
        (try simp only [mrg, mrl] at *) <;> repeat' (first | (with_reducible assumption) | (with_reducible apply And.intro) | intro _)
        all_goals first | omega | exact key | skip
    · have hf := hfin () (by omega)
      clear h hfin hj3 hG hF h3
      simp only [false_and, and_false, true_or, or_true, false_or, or_false, true_and, and_true, true_implies, false_implies, implies_true, not_true_eq_false, not_false_eq_true, and_self, List.length_cons, List.length_nil, mNoCut_, mCat_n, mCat_I, mCat_L, mCat_R, mIsL_n, mIsL_I, mIsL_R, mIsL_L, Nat.reduceAdd, Nat.reduceSub, Nat.reduceLeDiff, Nat.reduceLT, Nat.reduceEqDiff, Nat.zero_le, Int.reduceEq, Int.reduceLT, Int.reduceLE, Int.reduceNeg, Int.reduceAdd, if_true, if_false, reduceIte, reduceCtorEq, Bool.false_eq_true, ne_eq, qCmp_0, qCmp_1, qCmp_2, qCmp_3, qCmp_4, qCmp_5, ib_0, ib_1, ib_2, lb_0, lb_1, lb_2, dv_0, dv_1, wq_ic, wq_ld_i, wq_ld_a, wq_st_i, wq_iinc, wq_icmp, wq_goto, wq_get, mGet_0, mGet_1, mGet_2, mGet_3, wq_ald, wq_astI, wq_astL, wq_ret0, wq_ret1, wq_ret2, wq_ret3, wq_ret4, ldR0, fk_10_0, fk_7_1, ldI1, fk_10_8, wq_callV3_0, mrg_0_, stI3, stI4, ldI4, mrg_9_, mrg_m1_, ldR2, ldI3, wqinc3, wqinc4, mPut_s, mPut_I0, mPut_R0, mPut_L0, mPut_I1, mPut_R1, mPut_L1, mGo_n, sfxX10_gather_20, cutX10_gather_20, sfxX10_gather_51, cutX10_gather_51, sfxX10_gather_57, cutX10_gather_57, wq_cut, mGo_c, mMask_t, mMask_f, mMask_n, kX10_gather_57, kX10_gather_51, kX10_gather_20, kX10_gather_0, sk_0, al_0, rf_0_0, sk_10, al_10, rf_0_8, sk_3, al_3, sn_3, rf_10_1, sk_12, al_12, ald_n, ro0_n, al_ro, SX10_gather_0, shqRIR_, spX6_standAs, mrg, mrl, mSet_ap, ncast, Option.some.injEq, k1, k2, k3, k5]
      (try simp only [mrg, mrl] at *) <;> repeat' (first | (with_reducible assumption) | (with_reducible apply And.intro) | intro _)
      all_goals first | omega | exact hf | skip
  · show mWp _ _ _ _ _ _ kX10_gather_0 [some (mR (some 0)), some (mI w), some (mR (some a)), none, none] [] I
    clear h
    simp only [false_and, and_false, true_or, or_true, false_or, or_false, true_and, and_true, true_implies, false_implies, implies_true, not_true_eq_false, not_false_eq_true, and_self, List.length_cons, List.length_nil, mNoCut_, mCat_n, mCat_I, mCat_L, mCat_R, mIsL_n, mIsL_I, mIsL_R, mIsL_L, Nat.reduceAdd, Nat.reduceSub, Nat.reduceLeDiff, Nat.reduceLT, Nat.reduceEqDiff, Nat.zero_le, Int.reduceEq, Int.reduceLT, Int.reduceLE, Int.reduceNeg, Int.reduceAdd, if_true, if_false, reduceIte, reduceCtorEq, Bool.false_eq_true, ne_eq, qCmp_0, qCmp_1, qCmp_2, qCmp_3, qCmp_4, qCmp_5, ib_0, ib_1, ib_2, lb_0, lb_1, lb_2, dv_0, dv_1, wq_ic, wq_ld_i, wq_ld_a, wq_st_i, wq_iinc, wq_icmp, wq_goto, wq_get, mGet_0, mGet_1, mGet_2, mGet_3, wq_ald, wq_astI, wq_astL, wq_ret0, wq_ret1, wq_ret2, wq_ret3, wq_ret4, ldR0, fk_10_0, fk_7_1, ldI1, fk_10_8, wq_callV3_0, mrg_0_, stI3, stI4, ldI4, mrg_9_, mrg_m1_, ldR2, ldI3, wqinc3, wqinc4, mPut_s, mPut_I0, mPut_R0, mPut_L0, mPut_I1, mPut_R1, mPut_L1, mGo_n, sfxX10_gather_20, cutX10_gather_20, sfxX10_gather_51, cutX10_gather_51, sfxX10_gather_57, cutX10_gather_57, wq_cut, mGo_c, mMask_t, mMask_f, mMask_n, kX10_gather_57, kX10_gather_51, kX10_gather_20, kX10_gather_0, sk_0, al_0, rf_0_0, sk_10, al_10, rf_0_8, sk_3, al_3, sn_3, rf_10_1, sk_12, al_12, ald_n, ro0_n, al_ro, SX10_gather_0, shqRIR_, spX6_standAs, mrg, mrl, mSet_ap, ncast, Option.some.injEq, Option.getD_some]
    refine ⟨hw, 9, 0, rfl, by omega, rfl, fun i i0 i1 => mCpy_ne _ _ _ _ i0, fun f f0 f1 => ?_, fun k q0 q1 => ?_⟩
    · rw [mCpy_at _ _ _ _ ⟨by omega, by omega⟩]
      congr 1
      omega
    · exact absurd q1 (by show ¬ k < ((0 : Nat) : Int); omega)
theorem ctrX10_gather {l : Launch} (hst : l.stackTraces = false) (hT : mTxM l) : mCtr l calX10_gather spX10_gather :=
  mMet (T := TX10_gather) (S := SX10_gather) hst hT cutX10_gather (by decide) okX10_gather ⟨_, _, rfl, rfl⟩ trivial (fun t bs h => by rcases cutsX10_gather h with ⟨-, rfl⟩ <;> rfl) (fun a => match a with
    | 0 => ctrX6_standAs hst hT
    | _ + 1 => mCtr_no) vcX10_gather

theorem wmB_x (x0 : Int) (s : Nat) (P : Nat → Prop) [DecidablePred P] (g : Nat → Int) : ∀ n : Nat, wmB x0 s P g n ≤ x0
  | 0 => Int.le_refl _
  | n + 1 => by
    have ih := wmB_x x0 s P g n
    simp only [wmB]
    split <;> omega
theorem cvT_bd {F T : Int → Int} {n : Nat} (hn : n ≤ 9) (hF : ∀ k : Nat, k < n → 0 ≤ F k ∧ F k < 289) (hT : ∀ k : Nat, k < n → 0 ≤ T k ∧ T k < 289) (s to : Nat) {w : Nat} (hw : w < 2 ^ n) : 0 ≤ cvT F T n s to w ∧ cvT F T n s to w ≤ 153 := by
  unfold cvT
  by_cases z : w = 0
  · rw [if_pos z]
    omega
  · rw [if_neg z]
    have p9 := pow9 hn
    refine ⟨wmB_ge _ _ _ (by decide) n (fun i i0 b => ?_), wmB_x _ _ _ _ _⟩
    have tb := (bt_tab ⟨w, by omega⟩ ⟨i, by omega⟩).2.2.2.1 b
    have pn := (bt_n ⟨n, by omega⟩ ⟨w, by omega⟩ hw).1
    dsimp only at tb pn
    have p2 := Nat.two_pow_pos i
    have ih := wkT_bd hn hF hT (popS w - 1) (w - 2 ^ i) (by omega) (by omega)
    have fb := far_bd (hF (popS w - 1) (by omega)) (hT i i0)
    omega
theorem bt_off : ∀ s : Fin 512, ∀ i : Fin 9, btS s.val i.val → ¬ btS (s.val - 2 ^ i.val) i.val := by decide +kernel
def spX10_leastWalk : mSp := shRI (fun _ i n I Q => i = some 0 ∧ ∃ (N : Nat) (F T : Int → Int), n = N ∧ N ≤ 9 ∧ (∀ k : Nat, k < N → 0 ≤ F k ∧ F k < 289) ∧ (∀ k : Nat, k < N → 0 ≤ T k ∧ T k < 289) ∧ (∀ k : Int, 0 ≤ k → k < N → I 5 k = F k) ∧ (∀ k : Int, 0 ≤ k → k < N → I 6 k = T k) ∧ ∀ I' : mM, (∀ i, i ≠ 7 → I' i = I i) → Q (.inl (some (mI (wkS F T N (2 ^ N - 1))))) I')
def SX10_leastWalk : Nat → mSp := fun a => match a with
  | 0 => spJ7_fill_53178
  | 1 => spJ6_bitCount_0f7a4
  | 2 => spX10_apart
  | _ => fun _ _ _ _ => False
theorem SX10_leastWalk_0 : SX10_leastWalk 0 = spJ7_fill_53178 := Eq.trans rfl rfl
theorem SX10_leastWalk_1 : SX10_leastWalk 1 = spJ6_bitCount_0f7a4 := Eq.trans rfl rfl
theorem SX10_leastWalk_2 : SX10_leastWalk 2 = spX10_apart := Eq.trans rfl rfl
theorem cutsX10_leastWalk {t : Nat} {bs : List Bool} (h : cutX10_leastWalk t = some bs) : (t = 25 ∧ bs = [true, true, true, true, false, false, false]) ∨ (t = 39 ∧ bs = [true, true, true, true, true, true, false]) := by
  unfold cutX10_leastWalk at h
  simp only [mLk] at h
  by_cases h0 : 25 = t
  · subst h0
    simp at h
    exact Or.inl ⟨rfl, h.symm⟩
  rw [if_neg h0] at h
  by_cases h1 : 39 = t
  · subst h1
    simp at h
    exact Or.inr (⟨rfl, h.symm⟩)
  rw [if_neg h1] at h
  cases h
set_option maxRecDepth 100000 in
set_option maxHeartbeats 1000000 in
theorem vcX10_leastWalk (fl : Nat → Bool) (avs : List mV) (I : mM) (Q : mO → mM → Prop) (hsp : spX10_leastWalk fl avs I Q) : mVC SX10_leastWalk fl Q kX10_leastWalk cutX10_leastWalk 7 avs I := by
  obtain ⟨i, n_, rfl, h0⟩ := shRI_inv hsp
  obtain ⟨rfl, N, F, T, rfl, hN, hF, hT, h5, h6, h⟩ := h0
  have p9 := pow9 hN
  have p0 := Nat.two_pow_pos N
  have psh := bt_sh ⟨N, by omega⟩
  dsimp only at psh
  refine ⟨rfl, (fun m pc lv st I1 => st = [] ∧ ∃ s : Nat, s < 2 ^ N ∧ (∀ i, i ≠ 7 → I1 i = I i) ∧ (if pc = 25 then lv = [some (mR (some 0)), some (mI N), some (mI ((2 ^ N - 1 : Nat) : Int)), some (mI s), none, none, none] ∧ m = 20 * (512 - s) ∧ (∀ w : Nat, w < 2 ^ N → I1 7 w = cvT F T N s 0 w) else ∃ to : Nat, to ≤ N ∧ s + 1 < 2 ^ N ∧ lv = [some (mR (some 0)), some (mI N), some (mI ((2 ^ N - 1 : Nat) : Int)), some (mI s), some (mI (popS s)), some (mI to), none] ∧ m = 20 * (512 - s) - 1 - to ∧ (∀ w : Nat, w < 2 ^ N → I1 7 w = cvT F T N s to w))), ?_, ?_⟩
  · intro n t bs hbs lv st I1 hc
    rcases cutsX10_leastWalk hbs with ⟨rfl, rfl⟩ | ⟨rfl, rfl⟩
    · skip
      rw [sfxX10_leastWalk_25]
      obtain ⟨rfl, s, hs, hI, rfl, hm, hW⟩ := hc
      rcases Nat.lt_or_ge (s + 1) (2 ^ N) with z | z
      · have key : ∃ n', n' < n ∧ ∃ s_1 : Nat, s_1 < 2 ^ N ∧ (∀ i, ¬ i = 7 → I1 i = I i) ∧ ∃ to : Nat, to ≤ N ∧ s_1 + 1 < 2 ^ N ∧ [some (mR (some 0)), some (mI N), some (mI ((2 ^ N - 1 : Nat) : Int)), some (mI s), some (mI (popS s)), some (mI 0), none] = [some (mR (some 0)), some (mI N), some (mI ((2 ^ N - 1 : Nat) : Int)), some (mI s_1), some (mI (popS s_1)), some (mI to), none] ∧ n' = 20 * (512 - s_1) - 1 - to ∧ (∀ w : Nat, w < 2 ^ N → I1 7 w = cvT F T N s_1 to w) := ⟨20 * (512 - s) - 1 - 0, by omega, s, hs, hI, 0, by omega, z, rfl, rfl, hW⟩
        clear h hW hI
        simp only [false_and, and_false, true_or, or_true, false_or, or_false, true_and, and_true, true_implies, false_implies, implies_true, not_true_eq_false, not_false_eq_true, and_self, List.length_cons, List.length_nil, mNoCut_, mCat_n, mCat_I, mCat_L, mCat_R, mIsL_n, mIsL_I, mIsL_R, mIsL_L, Nat.reduceAdd, Nat.reduceSub, Nat.reduceLeDiff, Nat.reduceLT, Nat.reduceEqDiff, Nat.zero_le, Int.reduceEq, Int.reduceLT, Int.reduceLE, Int.reduceNeg, Int.reduceAdd, if_true, if_false, reduceIte, reduceCtorEq, Bool.false_eq_true, ne_eq, qCmp_0, qCmp_1, qCmp_2, qCmp_3, qCmp_4, qCmp_5, ib_0, ib_1, ib_2, lb_0, lb_1, lb_2, dv_0, dv_1, wq_ic, wq_ld_i, wq_ld_a, wq_st_i, wq_iinc, wq_ib, wq_icmp, wq_goto, wq_get, mGet_0, mGet_1, mGet_2, mGet_3, wq_ald, wq_astI, wq_astL, wq_ret0, wq_ret1, wq_ret2, wq_ret3, wq_ret4, wq_max, wq_min, wq_abs, wq_lmax, mrg_1_, ldI1, stI2, ldR0, fk_10_12, mrg_153_, wq_callS2_1, mrg_0_, stI3, ldI3, ldI2, wq_callS1_1, stI4, stI5, ldI5, stI6, ldI6, fk_10_10, ldI4, fk_10_11, wqinc5, wqinc3, mPut_s, mPut_I0, mPut_R0, mPut_L0, mPut_I1, mPut_R1, mPut_L1, mGo_n, sfxX10_leastWalk_25, cutX10_leastWalk_25, sfxX10_leastWalk_39, cutX10_leastWalk_39, sfxX10_leastWalk_100, cutX10_leastWalk_100, sfxX10_leastWalk_106, cutX10_leastWalk_106, sfxX10_leastWalk_112, cutX10_leastWalk_112, wq_cut, mGo_c, mMask_t, mMask_f, mMask_n, kX10_leastWalk_112, kX10_leastWalk_106, kX10_leastWalk_100, kX10_leastWalk_39, kX10_leastWalk_25, kX10_leastWalk_0, sk_0, al_0, rf_0_12, sk_7, al_7, sn_7, rf_0_10, sk_5, al_5, sn_5, rf_0_11, sk_6, al_6, sn_6, ald_n, ro0_n, al_ro, SX10_leastWalk_0, SX10_leastWalk_1, SX10_leastWalk_2, shqRI_, shqI_, shqII_, spJ7_fill_53178, spJ6_bitCount_0f7a4, spX10_apart, mrg, mrl, mSet_ap, ncast, Option.some.injEq]
        (try simp only [mrg, mrl] at *) <;> repeat' (first | (with_reducible assumption) | (with_reducible apply And.intro) | intro _)
        all_goals first | omega | exact key | skip
      · have e : s = 2 ^ N - 1 := by omega
        have h2 := h I1 hI
        have hv := hW s hs
        rw [cvT_W hN hF hT hs (Nat.le_refl s)] at hv
        rw [e] at hv
        rw [← hv] at h2
        rw [e]
        clear h hW hI hv
        simp only [false_and, and_false, true_or, or_true, false_or, or_false, true_and, and_true, true_implies, false_implies, implies_true, not_true_eq_false, not_false_eq_true, and_self, List.length_cons, List.length_nil, mNoCut_, mCat_n, mCat_I, mCat_L, mCat_R, mIsL_n, mIsL_I, mIsL_R, mIsL_L, Nat.reduceAdd, Nat.reduceSub, Nat.reduceLeDiff, Nat.reduceLT, Nat.reduceEqDiff, Nat.zero_le, Int.reduceEq, Int.reduceLT, Int.reduceLE, Int.reduceNeg, Int.reduceAdd, if_true, if_false, reduceIte, reduceCtorEq, Bool.false_eq_true, ne_eq, qCmp_0, qCmp_1, qCmp_2, qCmp_3, qCmp_4, qCmp_5, ib_0, ib_1, ib_2, lb_0, lb_1, lb_2, dv_0, dv_1, wq_ic, wq_ld_i, wq_ld_a, wq_st_i, wq_iinc, wq_ib, wq_icmp, wq_goto, wq_get, mGet_0, mGet_1, mGet_2, mGet_3, wq_ald, wq_astI, wq_astL, wq_ret0, wq_ret1, wq_ret2, wq_ret3, wq_ret4, wq_max, wq_min, wq_abs, wq_lmax, mrg_1_, ldI1, stI2, ldR0, fk_10_12, mrg_153_, wq_callS2_1, mrg_0_, stI3, ldI3, ldI2, wq_callS1_1, stI4, stI5, ldI5, stI6, ldI6, fk_10_10, ldI4, fk_10_11, wqinc5, wqinc3, mPut_s, mPut_I0, mPut_R0, mPut_L0, mPut_I1, mPut_R1, mPut_L1, mGo_n, sfxX10_leastWalk_25, cutX10_leastWalk_25, sfxX10_leastWalk_39, cutX10_leastWalk_39, sfxX10_leastWalk_100, cutX10_leastWalk_100, sfxX10_leastWalk_106, cutX10_leastWalk_106, sfxX10_leastWalk_112, cutX10_leastWalk_112, wq_cut, mGo_c, mMask_t, mMask_f, mMask_n, kX10_leastWalk_112, kX10_leastWalk_106, kX10_leastWalk_100, kX10_leastWalk_39, kX10_leastWalk_25, kX10_leastWalk_0, sk_0, al_0, rf_0_12, sk_7, al_7, sn_7, rf_0_10, sk_5, al_5, sn_5, rf_0_11, sk_6, al_6, sn_6, ald_n, ro0_n, al_ro, SX10_leastWalk_0, SX10_leastWalk_1, SX10_leastWalk_2, shqRI_, shqI_, shqII_, spJ7_fill_53178, spJ6_bitCount_0f7a4, spX10_apart, mrg, mrl, mSet_ap, ncast, Option.some.injEq]
        (try simp only [mrg, mrl] at *) <;> repeat' (first | (with_reducible assumption) | (with_reducible apply And.intro) | intro _)
        all_goals first | omega | exact h2 | skip
    · skip
      rw [sfxX10_leastWalk_39]
      obtain ⟨rfl, s, hs, hI, to, hto, hs1, rfl, hm, hW⟩ := hc
      clear h
      have s9 : s < 512 := by omega
      rcases Nat.lt_or_ge to N with z | z
      · have tb := bt_tab ⟨s, s9⟩ ⟨to, by omega⟩
        have bo := bt_off
        have bn := bt_n ⟨N, by omega⟩ ⟨s, s9⟩ hs
        dsimp only at tb bn
        have pw : popS s < N := bn.2.1 hs1
        have hWs := hW s hs
        rw [cvT_W hN hF hT hs (Nat.le_refl s)] at hWs
        have wb := wkT_bd hN hF hT (popS s) s hs rfl
        have e5 : I1 5 (popS s) = F (popS s) := by rw [hI 5 (by decide)]; exact h5 _ (by omega) (by omega)
        have e6 : I1 6 to = T to := by rw [hI 6 (by decide)]; exact h6 _ (by omega) (by omega)
        have bF := hF (popS s) pw
        have bT := hT to z
        have fb := far_bd bF bT
        have tb1 := tb.1
        by_cases q : btS s to
        · rw [if_pos q] at tb1
          have key : ∃ n', n' < n ∧ ∃ s_1 : Nat, s_1 < 2 ^ N ∧ (∀ i, ¬ i = 7 → I1 i = I i) ∧ ∃ to_1 : Nat, to_1 ≤ N ∧ s_1 + 1 < 2 ^ N ∧ [some (mR (some 0)), some (mI N), some (mI ((2 ^ N - 1 : Nat) : Int)), some (mI s), some (mI (popS s)), some (mI ((to : Int) + 1)), none] = [some (mR (some 0)), some (mI N), some (mI ((2 ^ N - 1 : Nat) : Int)), some (mI s_1), some (mI (popS s_1)), some (mI to_1), none] ∧ n' = 20 * (512 - s_1) - 1 - to_1 ∧ (∀ w : Nat, w < 2 ^ N → I1 7 w = cvT F T N s_1 to_1 w) := by
            refine ⟨20 * (512 - s) - 1 - (to + 1), by omega, s, hs, hI, to + 1, by omega, hs1, rfl, rfl, fun w hw => ?_⟩
            rw [cvT_ne F T (fun y => by
              have b1 := bo ⟨w, by omega⟩ ⟨to, by omega⟩ y.1
              dsimp only at b1
              rw [y.2] at b1
              exact b1 q)]
            exact hW w hw
          clear hW hI bo
          simp only [false_and, and_false, true_or, or_true, false_or, or_false, true_and, and_true, true_implies, false_implies, implies_true, not_true_eq_false, not_false_eq_true, and_self, List.length_cons, List.length_nil, mNoCut_, mCat_n, mCat_I, mCat_L, mCat_R, mIsL_n, mIsL_I, mIsL_R, mIsL_L, Nat.reduceAdd, Nat.reduceSub, Nat.reduceLeDiff, Nat.reduceLT, Nat.reduceEqDiff, Nat.zero_le, Int.reduceEq, Int.reduceLT, Int.reduceLE, Int.reduceNeg, Int.reduceAdd, if_true, if_false, reduceIte, reduceCtorEq, Bool.false_eq_true, ne_eq, qCmp_0, qCmp_1, qCmp_2, qCmp_3, qCmp_4, qCmp_5, ib_0, ib_1, ib_2, lb_0, lb_1, lb_2, dv_0, dv_1, wq_ic, wq_ld_i, wq_ld_a, wq_st_i, wq_iinc, wq_ib, wq_icmp, wq_goto, wq_get, mGet_0, mGet_1, mGet_2, mGet_3, wq_ald, wq_astI, wq_astL, wq_ret0, wq_ret1, wq_ret2, wq_ret3, wq_ret4, wq_max, wq_min, wq_abs, wq_lmax, mrg_1_, ldI1, stI2, ldR0, fk_10_12, mrg_153_, wq_callS2_1, mrg_0_, stI3, ldI3, ldI2, wq_callS1_1, stI4, stI5, ldI5, stI6, ldI6, fk_10_10, ldI4, fk_10_11, wqinc5, wqinc3, mPut_s, mPut_I0, mPut_R0, mPut_L0, mPut_I1, mPut_R1, mPut_L1, mGo_n, sfxX10_leastWalk_25, cutX10_leastWalk_25, sfxX10_leastWalk_39, cutX10_leastWalk_39, sfxX10_leastWalk_100, cutX10_leastWalk_100, sfxX10_leastWalk_106, cutX10_leastWalk_106, sfxX10_leastWalk_112, cutX10_leastWalk_112, wq_cut, mGo_c, mMask_t, mMask_f, mMask_n, kX10_leastWalk_112, kX10_leastWalk_106, kX10_leastWalk_100, kX10_leastWalk_39, kX10_leastWalk_25, kX10_leastWalk_0, sk_0, al_0, rf_0_12, sk_7, al_7, sn_7, rf_0_10, sk_5, al_5, sn_5, rf_0_11, sk_6, al_6, sn_6, ald_n, ro0_n, al_ro, SX10_leastWalk_0, SX10_leastWalk_1, SX10_leastWalk_2, shqRI_, shqI_, shqII_, spJ7_fill_53178, spJ6_bitCount_0f7a4, spX10_apart, mrg, mrl, mSet_ap, ncast, Option.some.injEq, tb1, e5, e6]
          (try simp only [mrg, mrl] at *) <;> repeat' (first | (with_reducible assumption) | (with_reducible apply And.intro) | intro _)
          all_goals first | omega | exact key | skip
        · rw [if_neg q] at tb1
          have bw : s + 2 ^ to < 2 ^ N := bn.2.2 ⟨to, by omega⟩ z q
          have p2 := Nat.two_pow_pos to
          have hWw := hW (s + 2 ^ to) bw
          have cb := cvT_bd hN hF hT s to bw
          rw [← hWw] at cb
          have wbs : 0 ≤ I1 7 s ∧ I1 7 s ≤ 144 := by
            rw [hWs]
            have e : wkS F T N s = wkT F T N (popS s) s := rfl
            rw [e]
            omega
          have key : ∃ n', n' < n ∧ ∃ s_1 : Nat, s_1 < 2 ^ N ∧ (∀ i, ¬ i = 7 → mSet I1 7 ((s + 2 ^ to : Nat) : Int) (min (I1 7 ((s + 2 ^ to : Nat) : Int)) (I1 7 s + far (F (popS s : Nat)) (T to))) i = I i) ∧ ∃ to_1 : Nat, to_1 ≤ N ∧ s_1 + 1 < 2 ^ N ∧ [some (mR (some 0)), some (mI N), some (mI ((2 ^ N - 1 : Nat) : Int)), some (mI s), some (mI (popS s)), some (mI ((to : Int) + 1)), none] = [some (mR (some 0)), some (mI N), some (mI ((2 ^ N - 1 : Nat) : Int)), some (mI s_1), some (mI (popS s_1)), some (mI to_1), none] ∧ n' = 20 * (512 - s_1) - 1 - to_1 ∧ (∀ w : Nat, w < 2 ^ N → (if (w : Int) = ((s + 2 ^ to : Nat) : Int) then min (I1 7 ((s + 2 ^ to : Nat) : Int)) (I1 7 s + far (F (popS s : Nat)) (T to)) else I1 7 w) = cvT F T N s_1 to_1 w) := by
            refine ⟨20 * (512 - s) - 1 - (to + 1), by omega, s, hs, fun i hi => by rw [set_ne hi]; exact hI i hi, to + 1, by omega, hs1, rfl, rfl, fun w hw => ?_⟩
            by_cases e : w = s + 2 ^ to
            · rw [if_pos (by rw [e]), e, cvT_eq F T s9 z hN q, hWw, hWs]
            · have ne : ¬ ((w : Int) = ((s + 2 ^ to : Nat) : Int)) := by omega
              rw [if_neg ne, cvT_ne F T (fun y => e (by
                have b1 := (bt_tab ⟨w, by omega⟩ ⟨to, by omega⟩).2.2.2.1 y.1
                dsimp only at b1
                have := y.2
                omega))]
              exact hW w hw
          clear hW hI bo
          simp only [false_and, and_false, true_or, or_true, false_or, or_false, true_and, and_true, true_implies, false_implies, implies_true, not_true_eq_false, not_false_eq_true, and_self, List.length_cons, List.length_nil, mNoCut_, mCat_n, mCat_I, mCat_L, mCat_R, mIsL_n, mIsL_I, mIsL_R, mIsL_L, Nat.reduceAdd, Nat.reduceSub, Nat.reduceLeDiff, Nat.reduceLT, Nat.reduceEqDiff, Nat.zero_le, Int.reduceEq, Int.reduceLT, Int.reduceLE, Int.reduceNeg, Int.reduceAdd, if_true, if_false, reduceIte, reduceCtorEq, Bool.false_eq_true, ne_eq, qCmp_0, qCmp_1, qCmp_2, qCmp_3, qCmp_4, qCmp_5, ib_0, ib_1, ib_2, lb_0, lb_1, lb_2, dv_0, dv_1, wq_ic, wq_ld_i, wq_ld_a, wq_st_i, wq_iinc, wq_ib, wq_icmp, wq_goto, wq_get, mGet_0, mGet_1, mGet_2, mGet_3, wq_ald, wq_astI, wq_astL, wq_ret0, wq_ret1, wq_ret2, wq_ret3, wq_ret4, wq_max, wq_min, wq_abs, wq_lmax, mrg_1_, ldI1, stI2, ldR0, fk_10_12, mrg_153_, wq_callS2_1, mrg_0_, stI3, ldI3, ldI2, wq_callS1_1, stI4, stI5, ldI5, stI6, ldI6, fk_10_10, ldI4, fk_10_11, wqinc5, wqinc3, mPut_s, mPut_I0, mPut_R0, mPut_L0, mPut_I1, mPut_R1, mPut_L1, mGo_n, sfxX10_leastWalk_25, cutX10_leastWalk_25, sfxX10_leastWalk_39, cutX10_leastWalk_39, sfxX10_leastWalk_100, cutX10_leastWalk_100, sfxX10_leastWalk_106, cutX10_leastWalk_106, sfxX10_leastWalk_112, cutX10_leastWalk_112, wq_cut, mGo_c, mMask_t, mMask_f, mMask_n, kX10_leastWalk_112, kX10_leastWalk_106, kX10_leastWalk_100, kX10_leastWalk_39, kX10_leastWalk_25, kX10_leastWalk_0, sk_0, al_0, rf_0_12, sk_7, al_7, sn_7, rf_0_10, sk_5, al_5, sn_5, rf_0_11, sk_6, al_6, sn_6, ald_n, ro0_n, al_ro, SX10_leastWalk_0, SX10_leastWalk_1, SX10_leastWalk_2, shqRI_, shqI_, shqII_, spJ7_fill_53178, spJ6_bitCount_0f7a4, spX10_apart, mrg, mrl, mSet_ap, ncast, Option.some.injEq, tb1, e5, e6]
          (try simp only [mrg, mrl] at *) <;> repeat' (first | (with_reducible assumption) | (with_reducible apply And.intro) | intro _)
          all_goals first | omega | exact key | skip
      · have e : to = N := by omega
        subst e
        have key : ∃ n', n' < n ∧ ∃ s_1 : Nat, s_1 < 2 ^ to ∧ (∀ i, ¬ i = 7 → I1 i = I i) ∧ [some (mR (some 0)), some (mI to), some (mI ((2 ^ to - 1 : Nat) : Int)), some (mI ((s : Int) + 1)), none, none, none] = [some (mR (some 0)), some (mI to), some (mI ((2 ^ to - 1 : Nat) : Int)), some (mI s_1), none, none, none] ∧ n' = 20 * (512 - s_1) ∧ (∀ w : Nat, w < 2 ^ to → I1 7 w = cvT F T to s_1 0 w) := ⟨20 * (512 - (s + 1)), by omega, s + 1, hs1, hI, rfl, rfl, fun w hw => by rw [← cvT_n]; exact hW w hw⟩
        clear hW hI
        simp only [false_and, and_false, true_or, or_true, false_or, or_false, true_and, and_true, true_implies, false_implies, implies_true, not_true_eq_false, not_false_eq_true, and_self, List.length_cons, List.length_nil, mNoCut_, mCat_n, mCat_I, mCat_L, mCat_R, mIsL_n, mIsL_I, mIsL_R, mIsL_L, Nat.reduceAdd, Nat.reduceSub, Nat.reduceLeDiff, Nat.reduceLT, Nat.reduceEqDiff, Nat.zero_le, Int.reduceEq, Int.reduceLT, Int.reduceLE, Int.reduceNeg, Int.reduceAdd, if_true, if_false, reduceIte, reduceCtorEq, Bool.false_eq_true, ne_eq, qCmp_0, qCmp_1, qCmp_2, qCmp_3, qCmp_4, qCmp_5, ib_0, ib_1, ib_2, lb_0, lb_1, lb_2, dv_0, dv_1, wq_ic, wq_ld_i, wq_ld_a, wq_st_i, wq_iinc, wq_ib, wq_icmp, wq_goto, wq_get, mGet_0, mGet_1, mGet_2, mGet_3, wq_ald, wq_astI, wq_astL, wq_ret0, wq_ret1, wq_ret2, wq_ret3, wq_ret4, wq_max, wq_min, wq_abs, wq_lmax, mrg_1_, ldI1, stI2, ldR0, fk_10_12, mrg_153_, wq_callS2_1, mrg_0_, stI3, ldI3, ldI2, wq_callS1_1, stI4, stI5, ldI5, stI6, ldI6, fk_10_10, ldI4, fk_10_11, wqinc5, wqinc3, mPut_s, mPut_I0, mPut_R0, mPut_L0, mPut_I1, mPut_R1, mPut_L1, mGo_n, sfxX10_leastWalk_25, cutX10_leastWalk_25, sfxX10_leastWalk_39, cutX10_leastWalk_39, sfxX10_leastWalk_100, cutX10_leastWalk_100, sfxX10_leastWalk_106, cutX10_leastWalk_106, sfxX10_leastWalk_112, cutX10_leastWalk_112, wq_cut, mGo_c, mMask_t, mMask_f, mMask_n, kX10_leastWalk_112, kX10_leastWalk_106, kX10_leastWalk_100, kX10_leastWalk_39, kX10_leastWalk_25, kX10_leastWalk_0, sk_0, al_0, rf_0_12, sk_7, al_7, sn_7, rf_0_10, sk_5, al_5, sn_5, rf_0_11, sk_6, al_6, sn_6, ald_n, ro0_n, al_ro, SX10_leastWalk_0, SX10_leastWalk_1, SX10_leastWalk_2, shqRI_, shqI_, shqII_, spJ7_fill_53178, spJ6_bitCount_0f7a4, spX10_apart, mrg, mrl, mSet_ap, ncast, Option.some.injEq]
        (try simp only [mrg, mrl] at *) <;> repeat' (first | (with_reducible assumption) | (with_reducible apply And.intro) | intro _)
        all_goals first | omega | exact key | skip
  · show mWp _ _ _ _ _ _ kX10_leastWalk_0 [some (mR (some 0)), some (mI N), none, none, none, none, none] [] I
    have e1 : ((2 ^ N : Nat) : Int) - 1 = ((2 ^ N - 1 : Nat) : Int) := by omega
    clear h
    simp only [false_and, and_false, true_or, or_true, false_or, or_false, true_and, and_true, true_implies, false_implies, implies_true, not_true_eq_false, not_false_eq_true, and_self, List.length_cons, List.length_nil, mNoCut_, mCat_n, mCat_I, mCat_L, mCat_R, mIsL_n, mIsL_I, mIsL_R, mIsL_L, Nat.reduceAdd, Nat.reduceSub, Nat.reduceLeDiff, Nat.reduceLT, Nat.reduceEqDiff, Nat.zero_le, Int.reduceEq, Int.reduceLT, Int.reduceLE, Int.reduceNeg, Int.reduceAdd, if_true, if_false, reduceIte, reduceCtorEq, Bool.false_eq_true, ne_eq, qCmp_0, qCmp_1, qCmp_2, qCmp_3, qCmp_4, qCmp_5, ib_0, ib_1, ib_2, lb_0, lb_1, lb_2, dv_0, dv_1, wq_ic, wq_ld_i, wq_ld_a, wq_st_i, wq_iinc, wq_ib, wq_icmp, wq_goto, wq_get, mGet_0, mGet_1, mGet_2, mGet_3, wq_ald, wq_astI, wq_astL, wq_ret0, wq_ret1, wq_ret2, wq_ret3, wq_ret4, wq_max, wq_min, wq_abs, wq_lmax, mrg_1_, ldI1, stI2, ldR0, fk_10_12, mrg_153_, wq_callS2_1, mrg_0_, stI3, ldI3, ldI2, wq_callS1_1, stI4, stI5, ldI5, stI6, ldI6, fk_10_10, ldI4, fk_10_11, wqinc5, wqinc3, mPut_s, mPut_I0, mPut_R0, mPut_L0, mPut_I1, mPut_R1, mPut_L1, mGo_n, sfxX10_leastWalk_25, cutX10_leastWalk_25, sfxX10_leastWalk_39, cutX10_leastWalk_39, sfxX10_leastWalk_100, cutX10_leastWalk_100, sfxX10_leastWalk_106, cutX10_leastWalk_106, sfxX10_leastWalk_112, cutX10_leastWalk_112, wq_cut, mGo_c, mMask_t, mMask_f, mMask_n, kX10_leastWalk_112, kX10_leastWalk_106, kX10_leastWalk_100, kX10_leastWalk_39, kX10_leastWalk_25, kX10_leastWalk_0, sk_0, al_0, rf_0_12, sk_7, al_7, sn_7, rf_0_10, sk_5, al_5, sn_5, rf_0_11, sk_6, al_6, sn_6, ald_n, ro0_n, al_ro, SX10_leastWalk_0, SX10_leastWalk_1, SX10_leastWalk_2, shqRI_, shqI_, shqII_, spJ7_fill_53178, spJ6_bitCount_0f7a4, spX10_apart, mrg, mrl, mSet_ap, ncast, Option.some.injEq, psh, e1, Option.getD_some]
    refine ⟨20 * (512 - 0), 0, p0, fun i hi => ?_, rfl, rfl, fun w hw => ?_⟩
    · rw [set_ne hi, copyM_ne _ _ _ _ hi]
    · rw [cvT_0 (by omega) hN]
      by_cases z : w = 0
      · rw [if_pos (by omega), if_pos z]
      · rw [if_neg (by omega), if_neg z]
        simp only [copyM]
        rw [if_pos ⟨trivial, by omega, by omega⟩]
theorem ctrX10_leastWalk {l : Launch} (hst : l.stackTraces = false) (hT : mTxM l) : mCtr l calX10_leastWalk spX10_leastWalk :=
  mMet (T := TX10_leastWalk) (S := SX10_leastWalk) hst hT cutX10_leastWalk (by decide) okX10_leastWalk ⟨_, _, rfl, rfl⟩ trivial (fun t bs h => by rcases cutsX10_leastWalk h with ⟨-, rfl⟩ | ⟨-, rfl⟩ <;> rfl) (fun a => match a with
    | 0 => ctrJ7_fill_53178 hst hT
    | 1 => ctrJ6_bitCount_0f7a4 hst hT
    | 2 => ctrX10_apart hst hT
    | _ + 3 => mCtr_no) vcX10_leastWalk

/-- what WALKING from one way to stand to another costs -/
def walkT (t : Int → Int) (a b : Int) : Int := if cntT (keptS t a) 9 = cntT (keptS t b) 9 then wkS (gthT (keptS t a) 9) (gthT (keptS t b) 9) (cntT (keptS t a) 9) (2 ^ cntT (keptS t a) 9 - 1) else -1
theorem cntT_cong {s s' : Int → Int} : ∀ n : Nat, (∀ f : Int, 0 ≤ f → f < n → s f = s' f) → cntT s n = cntT s' n
  | 0, _ => rfl
  | n + 1, h => by
    simp only [cntT]
    rw [h n (by omega) (by omega), cntT_cong n (fun f f0 f1 => h f f0 (by omega))]
theorem gthT_cong {s s' : Int → Int} : ∀ n : Nat, (∀ f : Int, 0 ≤ f → f < n → s f = s' f) → gthT s n = gthT s' n
  | 0, _ => rfl
  | n + 1, h => by
    simp only [gthT]
    rw [h n (by omega) (by omega), gthT_cong n (fun f f0 f1 => h f f0 (by omega)), cntT_cong n (fun f f0 f1 => h f f0 (by omega))]
def spX10_walk : mSp := shRII (fun _ i a b I Q => i = some 0 ∧ clsI I ∧ mrg a ∧ mrg b ∧ (¬ (wayP a ∧ wayP b) → Q (.inr (mEx 0)) I) ∧ (wayP a ∧ wayP b → ¬ (keptP (I 201) a ∧ keptP (I 201) b) → Q (.inr (mEx 2)) I) ∧ (wayP a ∧ wayP b → (keptP (I 201) a ∧ keptP (I 201) b) → ∀ I' : mM, (∀ i, ¬ (3 ≤ i ∧ i ≤ 7) → I' i = I i) → Q (.inl (some (mI (walkT (I 201) a b)))) I'))
def SX10_walk : Nat → mSp := fun a => match a with
  | 0 => spX10_needWay
  | 1 => spX10_needKept
  | 2 => spX10_gather
  | 3 => spX10_leastWalk
  | _ => fun _ _ _ _ => False
theorem SX10_walk_0 : SX10_walk 0 = spX10_needWay := Eq.trans rfl rfl
theorem SX10_walk_1 : SX10_walk 1 = spX10_needKept := Eq.trans rfl rfl
theorem SX10_walk_2 : SX10_walk 2 = spX10_gather := Eq.trans rfl rfl
theorem SX10_walk_3 : SX10_walk 3 = spX10_leastWalk := Eq.trans rfl rfl
set_option maxRecDepth 100000 in
set_option maxHeartbeats 1000000 in
theorem vcX10_walk (fl : Nat → Bool) (avs : List mV) (I : mM) (Q : mO → mM → Prop) (hsp : spX10_walk fl avs I Q) : mVC0 SX10_walk fl Q kX10_walk 4 avs I := by
  obtain ⟨i, a, b, rfl, h0⟩ := shRII_inv hsp
  refine ⟨rfl, ?_⟩
  show mWp _ _ _ _ _ _ kX10_walk_0 [some (mR i), some (mI a), some (mI b), none] [] I
  obtain ⟨rfl, H, ra, rb, h1, h2, h3⟩ := h0
  simp only [false_and, and_false, true_or, or_true, false_or, or_false, true_and, and_true, true_implies, false_implies, implies_true, not_true_eq_false, not_false_eq_true, and_self, List.length_cons, List.length_nil, mNoCut_, mCat_n, mCat_I, mCat_L, mCat_R, mIsL_n, mIsL_I, mIsL_R, mIsL_L, Nat.reduceAdd, Nat.reduceSub, Nat.reduceLeDiff, Nat.reduceLT, Nat.reduceEqDiff, Nat.zero_le, Int.reduceEq, Int.reduceLT, Int.reduceLE, Int.reduceNeg, Int.reduceAdd, if_true, if_false, reduceIte, reduceCtorEq, Bool.false_eq_true, ne_eq, qCmp_0, qCmp_1, qCmp_2, qCmp_3, qCmp_4, qCmp_5, ib_0, ib_1, ib_2, lb_0, lb_1, lb_2, dv_0, dv_1, wq_ic, wq_ld_i, wq_ld_a, wq_st_i, wq_icmp, wq_goto, wq_get, mGet_0, mGet_1, mGet_2, mGet_3, wq_ret0, wq_ret1, wq_ret2, wq_ret3, wq_ret4, ldI1, wq_callS1_1, ldI2, ldR0, wq_callV2_0, fk_10_10, wq_callV3_0, stI3, fk_10_11, ldI3, mrg_m1_, mPut_s, mPut_I0, mPut_R0, mPut_L0, mPut_I1, mPut_R1, mPut_L1, mGo_n, sfxX10_walk_49, cutX10_walk_49, sfxX10_walk_50, cutX10_walk_50, kX10_walk_50, kX10_walk_49, kX10_walk_0, sk_0, al_0, rf_0_10, sk_5, al_5, sn_5, rf_0_11, sk_6, al_6, sn_6, SX10_walk_0, SX10_walk_1, SX10_walk_2, SX10_walk_3, shqI_, shqRI_, shqRIR_, spX10_needWay, spX10_needKept, spX10_gather, spX10_leastWalk, mrg, mrl, mSet_ap, ncast, Option.some.injEq, Option.getD_some]
  refine ⟨ra, fun ka => ⟨rb, fun kb => ⟨H, ka, fun kea => ⟨H, kb, fun keb => ?_, fun z => h2 ⟨ka, kb⟩ (fun w => z w.2)⟩, fun z => h2 ⟨ka, kb⟩ (fun w => z w.1)⟩, fun z => h1 (fun w => z w.2)⟩, fun z => h1 (fun w => z w.1)⟩
  have h3 := h3 ⟨ka, kb⟩ ⟨kea, keb⟩
  clear h1 h2
  have qa := H.kept ka kea
  have qb := H.kept kb keb
  have ca : cntT (fun f => I 25 (9 * a + f)) 9 = cntT (keptS (I 201) a) 9 := cntT_cong 9 (fun f f0 f1 => qa f f0 f1)
  have ga : gthT (fun f => I 25 (9 * a + f)) 9 = gthT (keptS (I 201) a) 9 := gthT_cong 9 (fun f f0 f1 => qa f f0 f1)
  have cb : cntT (fun f => I 25 (9 * b + f)) 9 = cntT (keptS (I 201) b) 9 := cntT_cong 9 (fun f f0 f1 => qb f f0 f1)
  have gb : gthT (fun f => I 25 (9 * b + f)) 9 = gthT (keptS (I 201) b) 9 := gthT_cong 9 (fun f f0 f1 => qb f f0 f1)
  have ba : stB (keptS (I 201) a) := H.1.kept ka
  have bb : stB (keptS (I 201) b) := H.1.kept kb
  have la := cntT_le (keptS (I 201) a) 9
  have lb := cntT_le (keptS (I 201) b) 9
  rw [ca, ga]
  refine ⟨ka, fun f f0 f1 => by rw [show (fun f => I 25 (9 * a + f)) f = keptS (I 201) a f from qa f f0 f1]; exact ba f f0 f1, fun I1 f1 g1 => ⟨kb, fun f f0 f1' => by rw [f1 25 (by decide) (by decide), show (fun f => I 25 (9 * b + f)) f = keptS (I 201) b f from qb f f0 f1']; exact bb f f0 f1', fun I2 f2 g2 => ?_⟩⟩
  rw [f1 25 (by decide) (by decide), cb, gb] at g2
  rw [f1 25 (by decide) (by decide), cb]
  have fI : ∀ i, ¬ (3 ≤ i ∧ i ≤ 7) → I2 i = I i := fun i hi => (f2 i (by omega) (by omega)).trans (f1 i (by omega) (by omega))
  refine ⟨⟨⟨by omega, by omega⟩, by omega, by omega⟩, fun z => ?_, fun z => ?_⟩
  · have e : walkT (I 201) a b = -1 := if_neg (fun w => z (by rw [w]))
    rw [e] at h3
    exact h3 I2 fI
  · have z2 : cntT (keptS (I 201) a) 9 = cntT (keptS (I 201) b) 9 := by omega
    have e : walkT (I 201) a b = wkS (gthT (keptS (I 201) a) 9) (gthT (keptS (I 201) b) 9) (cntT (keptS (I 201) a) 9) (2 ^ cntT (keptS (I 201) a) 9 - 1) := if_pos z2
    rw [e] at h3
    exact ⟨_, _, _, rfl, la, gthT_bd ba 9 (Nat.le_refl _), by rw [z2]; exact gthT_bd bb 9 (Nat.le_refl _), fun k k0 k1 => by rw [f2 5 (by decide) (by decide)]; exact g1 k k0 k1, fun k k0 k1 => g2 k k0 (by rw [← z2]; exact k1), fun I' hI => h3 I' (fun i hi => (hI i (by omega)).trans (fI i hi))⟩
theorem ctrX10_walk {l : Launch} (hst : l.stackTraces = false) (hT : mTxM l) : mCtr l calX10_walk spX10_walk :=
  mMet0 (T := TX10_walk) (S := SX10_walk) hst hT (by decide) okX10_walk ⟨_, _, rfl, rfl⟩ (fun a => match a with
    | 0 => ctrX10_needWay hst hT
    | 1 => ctrX10_needKept hst hT
    | 2 => ctrX10_gather hst hT
    | 3 => ctrX10_leastWalk hst hT
    | _ + 4 => mCtr_no) vcX10_walk

end SPC31
