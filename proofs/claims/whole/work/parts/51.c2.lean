section SPC2
theorem stepsT_is {t : Int → Int} (H : WFt t) {b h j : Int} (hb : 0 ≤ b ∧ b < 6) (hh : 0 ≤ h ∧ h < 8) (h0 : 0 ≤ j) (hj : j ≤ stepsT t b h) (hn : ¬ inK t b h (j + 1)) : stepsT t b h = j := by
  have sp := steps_spec H hb hh
  rcases Int.lt_or_le j (stepsT t b h) with q | q
  · exact absurd (sp.2.1 (j + 1) (by omega) (by omega)) hn
  · omega
theorem stepsT_more {t : Int → Int} (H : WFt t) {b h j : Int} (hb : 0 ≤ b ∧ b < 6) (hh : 0 ≤ h ∧ h < 8) (hj : j ≤ stepsT t b h) (hn : inK t b h (j + 1)) : j + 1 ≤ stepsT t b h := by
  have sp := steps_spec H hb hh
  rcases Int.lt_or_le j (stepsT t b h) with q | q
  · omega
  · have : j = stepsT t b h := by omega
    subst this
    exact absurd hn sp.2.2
def spX0_run : mSp := shRRI (fun _ i g h I Q => i = some 120 ∧ g = some 11 ∧ ∃ t b, WFt t ∧ (0 ≤ b ∧ b < 6) ∧ (0 ≤ h ∧ h < 8) ∧ I 11 1 = t 1 ∧ (∀ c : Int, 0 ≤ c → c < 289 → I 14 c = t (20 + c)) ∧ I 121 h = wayT t b h ∧ I 122 h = rawT t b h 1 ∧ I 123 h = airT t b h ∧ ∀ I' : mM, (∀ i, i ≠ 125 → i ≠ 126 → i ≠ 127 → I' i = I i) → (∀ g : Int, g ≠ h → I' 125 g = I 125 g) → (∀ q : Int, ¬ (8 * h ≤ q ∧ q < 8 * h + 8) → I' 126 q = I 126 q ∧ I' 127 q = I 127 q) → I' 125 h = stepsT t b h → (∀ k : Int, 1 ≤ k → k ≤ stepsT t b h → I' 126 (8 * h + k - 1) = cellT t b h k ∧ I' 127 (8 * h + k - 1) = tickT t b h k) → Q (.inl none) I')
def SX0_run : Nat → mSp := fun a => match a with
  | 0 => spX3_liesIn
  | _ => fun _ _ _ _ => False
theorem SX0_run_0 : SX0_run 0 = spX3_liesIn := Eq.trans rfl rfl
theorem cutsX0_run {t : Nat} {bs : List Bool} (h : cutX0_run t = some bs) : (t = 31 ∧ bs = [true, true, true, true, true, true, true, true, false]) := by
  unfold cutX0_run at h
  simp only [mLk] at h
  by_cases h0 : 31 = t
  · subst h0
    simp at h
    exact ⟨rfl, h.symm⟩
  rw [if_neg h0] at h
  cases h
set_option maxRecDepth 100000 in
set_option maxHeartbeats 8000000 in
theorem vcX0_run (fl : Nat → Bool) (avs : List mV) (I : mM) (Q : mO → mM → Prop) (hsp : spX0_run fl avs I Q) : mVC SX0_run fl Q kX0_run cutX0_run 9 avs I := by
  obtain ⟨i, g, hh, rfl, h0⟩ := shRRI_inv hsp
  obtain ⟨rfl, rfl, t, b, H, hb, hh1, e1, e14, ew, ep, ea, h⟩ := h0
  have wb := H.way hb hh1
  refine ⟨rfl, (fun m pc lv st I1 => st = [] ∧ ∃ (j : Nat), lv = [some (mR (some 120)), some (mR (some 11)), some (mI hh), some (mI (wayT t b hh)), some (mI (8 + j * eastT (wayT t b hh))), some (mI (8 + j * southT (wayT t b hh))), some (mI (tickT t b hh j)), some (mI ((j : Int) + 1)), none] ∧ (j ≤ 8 ∧ (j : Int) ≤ stepsT t b hh) ∧ m = 8 - j ∧ (∀ i, i ≠ 125 → i ≠ 126 → i ≠ 127 → I1 i = I i) ∧ (∀ g : Int, g ≠ hh → I1 125 g = I 125 g) ∧ (∀ q : Int, ¬ (8 * hh ≤ q ∧ q < 8 * hh + 8) → I1 126 q = I 126 q ∧ I1 127 q = I 127 q) ∧ I1 125 hh = j ∧ (∀ k : Int, 1 ≤ k → k ≤ j → I1 126 (8 * hh + k - 1) = cellT t b hh k ∧ I1 127 (8 * hh + k - 1) = tickT t b hh k)), ?_, ?_⟩
  · intro n t bs hbs lv st I1 hc
    rcases cutsX0_run hbs with ⟨rfl, rfl⟩
    rw [sfxX0_run_31]
    obtain ⟨rfl, j, rfl, ⟨hj, hjs⟩, hm, f1, f2, f3, f4, f5⟩ := hc
    have el := eastL_ (wayT t b hh).toNat (by omega)
    rw [Int.toNat_of_nonneg wb.1] at el
    have es := es_bd wb
    have x1 : 8 + (j : Int) * eastT (wayT t b hh) + eastT (wayT t b hh) = 8 + ((j + 1 : Nat) : Int) * eastT (wayT t b hh) := by
      rw [show ((j + 1 : Nat) : Int) = (j : Int) + 1 by omega, Int.add_mul]
      omega
    have y1 : 8 + (j : Int) * southT (wayT t b hh) + southT (wayT t b hh) = 8 + ((j + 1 : Nat) : Int) * southT (wayT t b hh) := by
      rw [show ((j + 1 : Nat) : Int) = (j : Int) + 1 by omega, Int.add_mul]
      omega
    have g11 := f1 11 (by decide) (by decide) (by decide)
    have g14 := f1 14 (by decide) (by decide) (by decide)
    have g122 := f1 122 (by decide) (by decide) (by decide)
    have g123 := f1 123 (by decide) (by decide) (by decide)
    have h1 := H.1
    have st8 := (steps_spec H hb hh1).1
    have ei : ∀ x y, insT (I 11) x y = insT t x y := fun x y => by
      unfold insT
      rw [e1]
    have hdone : ∀ _ : Unit, stepsT t b hh = j → Q (.inl none) I1 := fun _ z => h I1 f1 f2 f3 (by rw [f4, z]) (fun k k0 k1 => f5 k k0 (by omega))
    have ab := H.air hb hh1
    clear h
    by_cases z8 : j = 8
    · simp only [false_and, and_false, true_or, or_true, false_or, or_false, true_and, and_true, true_implies, false_implies, implies_true, not_true_eq_false, not_false_eq_true, and_self, List.length_cons, List.length_nil, mNoCut_, mCat_n, mCat_I, mCat_L, mCat_R, mIsL_n, mIsL_I, mIsL_R, mIsL_L, Nat.reduceAdd, Nat.reduceSub, Nat.reduceLeDiff, Nat.reduceLT, Nat.reduceEqDiff, Nat.zero_le, Int.reduceEq, Int.reduceLT, Int.reduceLE, Int.reduceNeg, Int.reduceAdd, if_true, if_false, reduceIte, reduceCtorEq, Bool.false_eq_true, ne_eq, qCmp_0, qCmp_1, qCmp_2, qCmp_3, qCmp_4, qCmp_5, ib_0, ib_1, ib_2, lb_0, lb_1, lb_2, dv_0, dv_1, wq_ic, wq_ld_i, wq_ld_a, wq_st_i, wq_iinc, wq_ib, wq_icmp, wq_if, wq_goto, wq_get, mGet_0, mGet_1, mGet_2, mGet_3, wq_ald, wq_astI, wq_astL, wq_ret0, wq_ret1, wq_ret2, wq_ret3, wq_ret4, wq_gs, ldR0, fk_0_3, ldI2, mrg_15_, stI3, mrg_8_, stI4, stI5, mrg_0_, stI6, fk_0_7, mrg_1_, stI7, ldI7, ldI4, ldI3, ldI5, ldR1, wq_callV3_0, mrg_17_, stI8, ldI6, fk_0_4, fk_0_5, fk_3_6, ldI8, fk_0_8, fk_0_9, wqinc7, mPut_s, mPut_I0, mPut_R0, mPut_L0, mPut_I1, mPut_R1, mPut_L1, mGo_n, sfxX0_run_31, cutX0_run_31, sfxX0_run_72, cutX0_run_72, sfxX0_run_111, cutX0_run_111, sfxX0_run_112, cutX0_run_112, sfxX0_run_162, cutX0_run_162, wq_cut, mGo_c, mMask_t, mMask_f, mMask_n, kX0_run_162, kX0_run_112, kX0_run_111, kX0_run_72, kX0_run_31, kX0_run_0, sk_120, al_120, rf_120_3, sk_121, al_121, sn_121, rf_120_7, sk_125, al_125, sn_125, rf_120_4, sk_122, al_122, sn_122, rf_120_5, sk_123, al_123, sn_123, rf_120_8, sk_126, al_126, sn_126, rf_120_9, sk_127, al_127, sn_127, sk_11, al_11, rf_11_6, sk_14, al_14, sn_14, sk_102, al_102, rf_102_6, sk_105, al_105, sn_105, ald_n, ro0_n, al_ro, SX0_run_0, shqRII_, spX3_liesIn, mrg, mrl, mSet_ap, ncast, Option.some.injEq, ald_240, ald_241, el.1, el.2, x1, y1, g11, g14, g122, g123]
      (try simp only [mrg, mrl] at *) <;> repeat' (first | (with_reducible assumption) | (with_reducible apply And.intro) | intro _)
      all_goals first | omega | exact hdone () (by omega) | skip
    have mx := mul_cases (k := ((j + 1 : Nat) : Int)) es.1
    have my := mul_cases (k := ((j + 1 : Nat) : Int)) es.2.1
    by_cases hin : inK t b hh ((j + 1 : Nat) : Int)
    · have hmore := stepsT_more H hb hh1 hjs hin
      have bd := inK_bd H hb hh1 (by omega) hin
      have ts := tick_succ t b hh (k := ((j + 1 : Nat) : Int)) (by omega)
      rw [show ((j + 1 : Nat) : Int) - 1 = (j : Int) by omega] at ts
      have hin2 := hin
      unfold inK at hin2
      have ec : (8 + ((j + 1 : Nat) : Int) * southT (wayT t b hh)) * 17 + (8 + ((j + 1 : Nat) : Int) * eastT (wayT t b hh)) = cellT t b hh ((j + 1 : Nat) : Int) := by
        unfold cellT
        omega
      have ex := e14 _ bd.2.2.2.1 bd.2.2.2.2
      have sl := H.2.2.1 _ bd.2.2.2.1 bd.2.2.2.2
      have tb := tickT_bd H hb hh1 (k := j) (by omega) (by omega)
      have rb := (H.raw hb hh1).2.1
      have key : ∀ (p v : Int), p = 8 * hh + ((j + 1 : Nat) : Int) - 1 → v = tickT t b hh ((j + 1 : Nat) : Int) → ∃ n', n' < n ∧ ∃ j_1 : Nat, [some (mR (some 120)), some (mR (some 11)), some (mI hh), some (mI (wayT t b hh)), some (mI (8 + ((j + 1 : Nat) : Int) * eastT (wayT t b hh))), some (mI (8 + ((j + 1 : Nat) : Int) * southT (wayT t b hh))), some (mI v), some (mI ((j : Int) + 1 + 1)), none] = [some (mR (some 120)), some (mR (some 11)), some (mI hh), some (mI (wayT t b hh)), some (mI (8 + (j_1 : Int) * eastT (wayT t b hh))), some (mI (8 + (j_1 : Int) * southT (wayT t b hh))), some (mI (tickT t b hh j_1)), some (mI ((j_1 : Int) + 1)), none] ∧ (j_1 ≤ 8 ∧ (j_1 : Int) ≤ stepsT t b hh) ∧ n' = 8 - j_1 ∧ (∀ i, ¬ i = 125 → ¬ i = 126 → ¬ i = 127 → mSet (mSet (mSet I1 126 p (cellT t b hh ((j + 1 : Nat) : Int))) 127 p v) 125 hh ((j : Int) + 1) i = I i) ∧ (∀ g : Int, ¬ g = hh → (if g = hh then (j : Int) + 1 else I1 125 g) = I 125 g) ∧ (∀ q : Int, ¬ (8 * hh ≤ q ∧ q < 8 * hh + 8) → (if q = p then cellT t b hh ((j + 1 : Nat) : Int) else I1 126 q) = I 126 q ∧ (if q = p then v else I1 127 q) = I 127 q) ∧ (j : Int) + 1 = j_1 ∧ (∀ k : Int, 1 ≤ k → k ≤ j_1 → (if 8 * hh + k - 1 = p then cellT t b hh ((j + 1 : Nat) : Int) else I1 126 (8 * hh + k - 1)) = cellT t b hh k ∧ (if 8 * hh + k - 1 = p then v else I1 127 (8 * hh + k - 1)) = tickT t b hh k) := fun p v ep ev => by
        refine ⟨8 - (j + 1), by omega, j + 1, by rw [ev]; rfl, ⟨by omega, by omega⟩, rfl, fun i q1 q2 q3 => by rw [set_ne q1, set_ne q3, set_ne q2]; exact f1 i q1 q2 q3, fun g q => by rw [if_neg q]; exact f2 g q, fun q z => ⟨by rw [if_neg (by omega)]; exact (f3 q z).1, by rw [if_neg (by omega)]; exact (f3 q z).2⟩, rfl, fun k k0 k1 => ?_⟩
        by_cases q : k = ((j + 1 : Nat) : Int)
        · rw [if_pos (by omega), if_pos (by omega), q, ev]
          exact ⟨rfl, rfl⟩
        · rw [if_neg (by omega), if_neg (by omega)]
          exact f5 k k0 (by omega)
      by_cases za : (j : Int) + 1 < airT t b hh
      · rw [if_neg (by omega)] at ts
        clear mx my hdone e14 f1 f2 f3 f5
        simp only [false_and, and_false, true_or, or_true, false_or, or_false, true_and, and_true, true_implies, false_implies, implies_true, not_true_eq_false, not_false_eq_true, and_self, List.length_cons, List.length_nil, mNoCut_, mCat_n, mCat_I, mCat_L, mCat_R, mIsL_n, mIsL_I, mIsL_R, mIsL_L, Nat.reduceAdd, Nat.reduceSub, Nat.reduceLeDiff, Nat.reduceLT, Nat.reduceEqDiff, Nat.zero_le, Int.reduceEq, Int.reduceLT, Int.reduceLE, Int.reduceNeg, Int.reduceAdd, if_true, if_false, reduceIte, reduceCtorEq, Bool.false_eq_true, ne_eq, qCmp_0, qCmp_1, qCmp_2, qCmp_3, qCmp_4, qCmp_5, ib_0, ib_1, ib_2, lb_0, lb_1, lb_2, dv_0, dv_1, wq_ic, wq_ld_i, wq_ld_a, wq_st_i, wq_iinc, wq_ib, wq_icmp, wq_if, wq_goto, wq_get, mGet_0, mGet_1, mGet_2, mGet_3, wq_ald, wq_astI, wq_astL, wq_ret0, wq_ret1, wq_ret2, wq_ret3, wq_ret4, wq_gs, ldR0, fk_0_3, ldI2, mrg_15_, stI3, mrg_8_, stI4, stI5, mrg_0_, stI6, fk_0_7, mrg_1_, stI7, ldI7, ldI4, ldI3, ldI5, ldR1, wq_callV3_0, mrg_17_, stI8, ldI6, fk_0_4, fk_0_5, fk_3_6, ldI8, fk_0_8, fk_0_9, wqinc7, mPut_s, mPut_I0, mPut_R0, mPut_L0, mPut_I1, mPut_R1, mPut_L1, mGo_n, sfxX0_run_31, cutX0_run_31, sfxX0_run_72, cutX0_run_72, sfxX0_run_111, cutX0_run_111, sfxX0_run_112, cutX0_run_112, sfxX0_run_162, cutX0_run_162, wq_cut, mGo_c, mMask_t, mMask_f, mMask_n, kX0_run_162, kX0_run_112, kX0_run_111, kX0_run_72, kX0_run_31, kX0_run_0, sk_120, al_120, rf_120_3, sk_121, al_121, sn_121, rf_120_7, sk_125, al_125, sn_125, rf_120_4, sk_122, al_122, sn_122, rf_120_5, sk_123, al_123, sn_123, rf_120_8, sk_126, al_126, sn_126, rf_120_9, sk_127, al_127, sn_127, sk_11, al_11, rf_11_6, sk_14, al_14, sn_14, sk_102, al_102, rf_102_6, sk_105, al_105, sn_105, ald_n, ro0_n, al_ro, SX0_run_0, shqRII_, spX3_liesIn, mrg, mrl, mSet_ap, ncast, Option.some.injEq, ald_240, ald_241, el.1, el.2, x1, y1, g11, g14, g122, g123, ec, ep, ea, ei, ex]
        (try simp only [mrg, mrl] at *) <;> repeat' (first | (with_reducible assumption) | (with_reducible apply And.intro) | intro _)
        all_goals first | omega | exact hin2 | exact absurd hin2 (by assumption) | exact key _ _ (by omega) (by omega) | skip
      · rw [if_pos (by omega)] at ts
        clear mx my hdone e14 f1 f2 f3 f5
        simp only [false_and, and_false, true_or, or_true, false_or, or_false, true_and, and_true, true_implies, false_implies, implies_true, not_true_eq_false, not_false_eq_true, and_self, List.length_cons, List.length_nil, mNoCut_, mCat_n, mCat_I, mCat_L, mCat_R, mIsL_n, mIsL_I, mIsL_R, mIsL_L, Nat.reduceAdd, Nat.reduceSub, Nat.reduceLeDiff, Nat.reduceLT, Nat.reduceEqDiff, Nat.zero_le, Int.reduceEq, Int.reduceLT, Int.reduceLE, Int.reduceNeg, Int.reduceAdd, if_true, if_false, reduceIte, reduceCtorEq, Bool.false_eq_true, ne_eq, qCmp_0, qCmp_1, qCmp_2, qCmp_3, qCmp_4, qCmp_5, ib_0, ib_1, ib_2, lb_0, lb_1, lb_2, dv_0, dv_1, wq_ic, wq_ld_i, wq_ld_a, wq_st_i, wq_iinc, wq_ib, wq_icmp, wq_if, wq_goto, wq_get, mGet_0, mGet_1, mGet_2, mGet_3, wq_ald, wq_astI, wq_astL, wq_ret0, wq_ret1, wq_ret2, wq_ret3, wq_ret4, wq_gs, ldR0, fk_0_3, ldI2, mrg_15_, stI3, mrg_8_, stI4, stI5, mrg_0_, stI6, fk_0_7, mrg_1_, stI7, ldI7, ldI4, ldI3, ldI5, ldR1, wq_callV3_0, mrg_17_, stI8, ldI6, fk_0_4, fk_0_5, fk_3_6, ldI8, fk_0_8, fk_0_9, wqinc7, mPut_s, mPut_I0, mPut_R0, mPut_L0, mPut_I1, mPut_R1, mPut_L1, mGo_n, sfxX0_run_31, cutX0_run_31, sfxX0_run_72, cutX0_run_72, sfxX0_run_111, cutX0_run_111, sfxX0_run_112, cutX0_run_112, sfxX0_run_162, cutX0_run_162, wq_cut, mGo_c, mMask_t, mMask_f, mMask_n, kX0_run_162, kX0_run_112, kX0_run_111, kX0_run_72, kX0_run_31, kX0_run_0, sk_120, al_120, rf_120_3, sk_121, al_121, sn_121, rf_120_7, sk_125, al_125, sn_125, rf_120_4, sk_122, al_122, sn_122, rf_120_5, sk_123, al_123, sn_123, rf_120_8, sk_126, al_126, sn_126, rf_120_9, sk_127, al_127, sn_127, sk_11, al_11, rf_11_6, sk_14, al_14, sn_14, sk_102, al_102, rf_102_6, sk_105, al_105, sn_105, ald_n, ro0_n, al_ro, SX0_run_0, shqRII_, spX3_liesIn, mrg, mrl, mSet_ap, ncast, Option.some.injEq, ald_240, ald_241, el.1, el.2, x1, y1, g11, g14, g122, g123, ec, ep, ea, ei, ex]
        (try simp only [mrg, mrl] at *) <;> repeat' (first | (with_reducible assumption) | (with_reducible apply And.intro) | intro _)
        all_goals first | omega | exact hin2 | exact absurd hin2 (by assumption) | exact key _ _ (by omega) (by omega) | skip
    · have hst := stepsT_is H hb hh1 (j := j) (by omega) hjs hin
      have hin2 := hin
      unfold inK at hin2
      simp only [false_and, and_false, true_or, or_true, false_or, or_false, true_and, and_true, true_implies, false_implies, implies_true, not_true_eq_false, not_false_eq_true, and_self, List.length_cons, List.length_nil, mNoCut_, mCat_n, mCat_I, mCat_L, mCat_R, mIsL_n, mIsL_I, mIsL_R, mIsL_L, Nat.reduceAdd, Nat.reduceSub, Nat.reduceLeDiff, Nat.reduceLT, Nat.reduceEqDiff, Nat.zero_le, Int.reduceEq, Int.reduceLT, Int.reduceLE, Int.reduceNeg, Int.reduceAdd, if_true, if_false, reduceIte, reduceCtorEq, Bool.false_eq_true, ne_eq, qCmp_0, qCmp_1, qCmp_2, qCmp_3, qCmp_4, qCmp_5, ib_0, ib_1, ib_2, lb_0, lb_1, lb_2, dv_0, dv_1, wq_ic, wq_ld_i, wq_ld_a, wq_st_i, wq_iinc, wq_ib, wq_icmp, wq_if, wq_goto, wq_get, mGet_0, mGet_1, mGet_2, mGet_3, wq_ald, wq_astI, wq_astL, wq_ret0, wq_ret1, wq_ret2, wq_ret3, wq_ret4, wq_gs, ldR0, fk_0_3, ldI2, mrg_15_, stI3, mrg_8_, stI4, stI5, mrg_0_, stI6, fk_0_7, mrg_1_, stI7, ldI7, ldI4, ldI3, ldI5, ldR1, wq_callV3_0, mrg_17_, stI8, ldI6, fk_0_4, fk_0_5, fk_3_6, ldI8, fk_0_8, fk_0_9, wqinc7, mPut_s, mPut_I0, mPut_R0, mPut_L0, mPut_I1, mPut_R1, mPut_L1, mGo_n, sfxX0_run_31, cutX0_run_31, sfxX0_run_72, cutX0_run_72, sfxX0_run_111, cutX0_run_111, sfxX0_run_112, cutX0_run_112, sfxX0_run_162, cutX0_run_162, wq_cut, mGo_c, mMask_t, mMask_f, mMask_n, kX0_run_162, kX0_run_112, kX0_run_111, kX0_run_72, kX0_run_31, kX0_run_0, sk_120, al_120, rf_120_3, sk_121, al_121, sn_121, rf_120_7, sk_125, al_125, sn_125, rf_120_4, sk_122, al_122, sn_122, rf_120_5, sk_123, al_123, sn_123, rf_120_8, sk_126, al_126, sn_126, rf_120_9, sk_127, al_127, sn_127, sk_11, al_11, rf_11_6, sk_14, al_14, sn_14, sk_102, al_102, rf_102_6, sk_105, al_105, sn_105, ald_n, ro0_n, al_ro, SX0_run_0, shqRII_, spX3_liesIn, mrg, mrl, mSet_ap, ncast, Option.some.injEq, ald_240, ald_241, el.1, el.2, x1, y1, g11, g14, g122, g123, ep, ea, ei]
      (try simp only [mrg, mrl] at *) <;> repeat' (first | (with_reducible assumption) | (with_reducible apply And.intro) | intro _)
      all_goals first | omega | exact hdone () hst | exact absurd (by assumption) hin2 | skip
  · show mWp _ _ _ _ _ _ kX0_run_0 [some (mR (some 120)), some (mR (some 11)), some (mI hh), none, none, none, none, none, none] [] I
    have e15 : ∀ n : Nat, n < 16 → ib 3 (n : Int) 15 = (n : Int) := by decide +kernel
    have e2 := e15 (wayT t b hh).toNat (by omega)
    rw [Int.toNat_of_nonneg wb.1] at e2
    simp only [false_and, and_false, true_or, or_true, false_or, or_false, true_and, and_true, true_implies, false_implies, implies_true, not_true_eq_false, not_false_eq_true, and_self, List.length_cons, List.length_nil, mNoCut_, mCat_n, mCat_I, mCat_L, mCat_R, mIsL_n, mIsL_I, mIsL_R, mIsL_L, Nat.reduceAdd, Nat.reduceSub, Nat.reduceLeDiff, Nat.reduceLT, Nat.reduceEqDiff, Nat.zero_le, Int.reduceEq, Int.reduceLT, Int.reduceLE, Int.reduceNeg, Int.reduceAdd, if_true, if_false, reduceIte, reduceCtorEq, Bool.false_eq_true, ne_eq, qCmp_0, qCmp_1, qCmp_2, qCmp_3, qCmp_4, qCmp_5, ib_0, ib_1, ib_2, lb_0, lb_1, lb_2, dv_0, dv_1, wq_ic, wq_ld_i, wq_ld_a, wq_st_i, wq_iinc, wq_ib, wq_icmp, wq_if, wq_goto, wq_get, mGet_0, mGet_1, mGet_2, mGet_3, wq_ald, wq_astI, wq_astL, wq_ret0, wq_ret1, wq_ret2, wq_ret3, wq_ret4, wq_gs, ldR0, fk_0_3, ldI2, mrg_15_, stI3, mrg_8_, stI4, stI5, mrg_0_, stI6, fk_0_7, mrg_1_, stI7, ldI7, ldI4, ldI3, ldI5, ldR1, wq_callV3_0, mrg_17_, stI8, ldI6, fk_0_4, fk_0_5, fk_3_6, ldI8, fk_0_8, fk_0_9, wqinc7, mPut_s, mPut_I0, mPut_R0, mPut_L0, mPut_I1, mPut_R1, mPut_L1, mGo_n, sfxX0_run_31, cutX0_run_31, sfxX0_run_72, cutX0_run_72, sfxX0_run_111, cutX0_run_111, sfxX0_run_112, cutX0_run_112, sfxX0_run_162, cutX0_run_162, wq_cut, mGo_c, mMask_t, mMask_f, mMask_n, kX0_run_162, kX0_run_112, kX0_run_111, kX0_run_72, kX0_run_31, kX0_run_0, sk_120, al_120, rf_120_3, sk_121, al_121, sn_121, rf_120_7, sk_125, al_125, sn_125, rf_120_4, sk_122, al_122, sn_122, rf_120_5, sk_123, al_123, sn_123, rf_120_8, sk_126, al_126, sn_126, rf_120_9, sk_127, al_127, sn_127, sk_11, al_11, rf_11_6, sk_14, al_14, sn_14, sk_102, al_102, rf_102_6, sk_105, al_105, sn_105, ald_n, ro0_n, al_ro, SX0_run_0, shqRII_, spX3_liesIn, mrg, mrl, mSet_ap, ncast, Option.some.injEq, ew, e2]
    (try simp only [mrg, mrl] at *) <;> repeat' (first | (with_reducible assumption) | (with_reducible apply And.intro) | intro _)
    all_goals first | omega | exact ⟨8, 0, by simp [tickT, tickN], ⟨by omega, (steps_spec H hb hh1).1.1⟩, rfl, fun i q1 q2 q3 => set_ne q1, fun g q => if_neg q, rfl, fun k k0 k1 => by omega⟩ | skip
theorem ctrX0_run {l : Launch} (hst : l.stackTraces = false) (hT : mTxM l) : mCtr l calX0_run spX0_run :=
  mMet (T := TX0_run) (S := SX0_run) hst hT cutX0_run (by decide) okX0_run ⟨_, _, rfl, rfl⟩ trivial (fun t bs h => by rcases cutsX0_run h with ⟨-, rfl⟩ <;> rfl) (fun a => match a with
    | 0 => ctrX3_liesIn hst hT
    | _ + 1 => mCtr_no) vcX0_run

def spX0_lay : mSp := shRRIII (fun _ i g b k s I Q => i = some 120 ∧ g = some 11 ∧ ∃ t, WFt t ∧ (0 ≤ b ∧ b < 6) ∧ repG I 11 t ∧ k = t 6 ∧ (t 6 = 1 → s = t 7) ∧ ∀ J, Laid J t b → Q (.inl none) (fr 120 127 J I))
def SX0_lay : Nat → mSp := fun a => match a with
  | 0 => spX3_hitsOf
  | 1 => spX0_wayBy
  | 2 => spX0_airBy
  | 3 => spX0_run
  | _ => fun _ _ _ _ => False
theorem SX0_lay_0 : SX0_lay 0 = spX3_hitsOf := Eq.trans rfl rfl
theorem SX0_lay_1 : SX0_lay 1 = spX0_wayBy := Eq.trans rfl rfl
theorem SX0_lay_2 : SX0_lay 2 = spX0_airBy := Eq.trans rfl rfl
theorem SX0_lay_3 : SX0_lay 3 = spX0_run := Eq.trans rfl rfl
theorem cutsX0_lay {t : Nat} {bs : List Bool} (h : cutX0_lay t = some bs) : (t = 32 ∧ bs = [true, true, true, true, false, true, false]) := by
  unfold cutX0_lay at h
  simp only [mLk] at h
  by_cases h0 : 32 = t
  · subst h0
    simp at h
    exact ⟨rfl, h.symm⟩
  rw [if_neg h0] at h
  cases h
set_option maxRecDepth 100000 in
set_option maxHeartbeats 8000000 in
theorem vcX0_lay (fl : Nat → Bool) (avs : List mV) (I : mM) (Q : mO → mM → Prop) (hsp : spX0_lay fl avs I Q) : mVC SX0_lay fl Q kX0_lay cutX0_lay 7 avs I := by
  obtain ⟨i, g, b, k, s, rfl, h0⟩ := shRRIII_inv hsp
  obtain ⟨rfl, rfl, t, H, hb, hg, hk, hs, h⟩ := h0
  have hn := H.2.1 b hb.1 hb.2
  refine ⟨rfl, (fun m pc lv st I1 => st = [] ∧ ∃ (j : Nat), lv = [some (mR (some 120)), some (mR (some 11)), some (mI b), some (mI k), none, some (mI j), none] ∧ j ≤ (t (13 + b)).toNat ∧ m = 8 - j ∧ (∀ i, ¬ (120 ≤ i ∧ i ≤ 127) → I1 i = I i) ∧ I1 120 0 = t (13 + b) ∧ I1 120 1 = allN t b j ∧ I1 120 2 = shareT t ∧ (∀ h : Int, 0 ≤ h → h < j → laidH I1 t b h)), ?_, ?_⟩
  · intro n t bs hbs lv st I1 hc
    rcases cutsX0_lay hbs with ⟨rfl, rfl⟩
    rw [sfxX0_lay_32]
    obtain ⟨rfl, j, rfl, hj, hm, f1, e0, e1, e2, hl⟩ := hc
    have g11 := f1 11 (by decide)
    have g14 := f1 14 (by decide)
    have g16 := f1 16 (by decide)
    have g17 := f1 17 (by decide)
    have g18 := f1 18 (by decide)
    have g19 := f1 19 (by decide)
    have rw0 : (j : Int) < t (13 + b) → I 16 (8 * b + j) = rawT t b j 0 ∧ I 17 (8 * b + j) = rawT t b j 1 ∧ I 18 (8 * b + j) = rawT t b j 2 ∧ I 19 (8 * b + j) = rawT t b j 3 := fun z => hg.2.2.2 b j hb.1 hb.2 (by omega) z
    have rd := fun z : (j : Int) < t (13 + b) => H.raw hb (h := j) ⟨by omega, by omega⟩
    have hfin : ∀ _ : Unit, t (13 + b) ≤ j → Q (.inl none) I1 := fun _ z => by
      have e : j = (t (13 + b)).toNat := by omega
      have := h I1 ⟨e0, by rw [e1, e]; rfl, e2, fun i i0 i1 => hl i i0 (by omega)⟩
      rw [fr_of f1] at this
      exact this
    clear h
    by_cases z : (j : Int) < t (13 + b)
    · have rw0 := rw0 z
      rw [show 8 * b + (j : Int) = b * 8 + j by omega] at rw0
      have rd := rd z
      have hk2 := H.1.2.2.2.2.2.2.1
      have w1 : (if k = 4 then (16 - I 16 (b * 8 + (j : Int))) % 16 else I 16 (b * 8 + (j : Int))) = wayT t b j := by
        unfold wayT
        rw [hk, rw0.1]
      have w2 : (if k = 2 then 0 else if k = 3 then max 3 (I 18 (b * 8 + (j : Int))) else I 18 (b * 8 + (j : Int))) = airT t b j := by
        unfold airT
        rw [hk, rw0.2.2.1]
      have key : ∀ I2 : mM, (∀ i : Nat, ¬ i = 125 → ¬ i = 126 → ¬ i = 127 → I2 i = mSet (mSet (mSet (mSet (mSet I1 121 j (wayT t b j)) 122 j (I 17 (b * 8 + (j : Int)))) 123 j (airT t b j)) 124 j (I 19 (b * 8 + (j : Int)))) 120 1 (I1 120 1 + I 19 (b * 8 + (j : Int))) i) → (∀ g : Int, ¬ g = j → I2 125 g = I1 125 g) → (∀ q : Int, ¬ (8 * (j : Int) ≤ q ∧ q < 8 * j + 8) → I2 126 q = I1 126 q ∧ I2 127 q = I1 127 q) → I2 125 j = stepsT t b j → (∀ k : Int, 1 ≤ k → k ≤ stepsT t b j → I2 126 (8 * j + k - 1) = cellT t b j k ∧ I2 127 (8 * j + k - 1) = tickT t b j k) → ∃ n', n' < n ∧ ∃ j_1 : Nat, [some (mR (some 120)), some (mR (some 11)), some (mI b), some (mI k), none, some (mI ((j : Int) + 1)), none] = [some (mR (some 120)), some (mR (some 11)), some (mI b), some (mI k), none, some (mI j_1), none] ∧ j_1 ≤ (t (13 + b)).toNat ∧ n' = 8 - j_1 ∧ (∀ i : Nat, ¬ (120 ≤ i ∧ i ≤ 127) → I2 i = I i) ∧ I2 120 0 = t (13 + b) ∧ I2 120 1 = allN t b j_1 ∧ I2 120 2 = shareT t ∧ ∀ h : Int, 0 ≤ h → h < j_1 → laidH I2 t b h := fun I2 q1 q2 q3 q4 q5 => by
        refine ⟨8 - (j + 1), by omega, j + 1, rfl, by omega, rfl, fun i q => by rw [q1 i (by omega) (by omega) (by omega), set_ne (by omega), set_ne (by omega), set_ne (by omega), set_ne (by omega), set_ne (by omega)]; exact f1 i q, by rw [q1 120 (by decide) (by decide) (by decide)]; simp [mSet, e0], ?_, by rw [q1 120 (by decide) (by decide) (by decide)]; simp [mSet, e2], fun i i0 i1 => ?_⟩
        · rw [q1 120 (by decide) (by decide) (by decide)]
          show I1 120 1 + I 19 (b * 8 + (j : Int)) = allN t b j + rawT t b j 3
          rw [e1, rw0.2.2.2]
        · by_cases qi : i = j
          · subst qi
            refine ⟨?_, ?_, ?_, ?_, q4, q5⟩
            · rw [q1 121 (by decide) (by decide) (by decide)]
              simp [mSet]
            · rw [q1 122 (by decide) (by decide) (by decide)]
              simp [mSet, rw0.2.1]
            · rw [q1 123 (by decide) (by decide) (by decide)]
              simp [mSet]
            · rw [q1 124 (by decide) (by decide) (by decide)]
              simp [mSet, rw0.2.2.2]
          · have hli := hl i i0 (by omega)
            have si := (steps_spec H hb (h := i) ⟨i0, by omega⟩).1
            refine ⟨?_, ?_, ?_, ?_, by rw [q2 i qi]; exact hli.2.2.2.2.1, fun k k0 k1 => ?_⟩
            · rw [q1 121 (by decide) (by decide) (by decide)]
              simp [mSet, qi, hli.1]
            · rw [q1 122 (by decide) (by decide) (by decide)]
              simp [mSet, qi, hli.2.1]
            · rw [q1 123 (by decide) (by decide) (by decide)]
              simp [mSet, qi, hli.2.2.1]
            · rw [q1 124 (by decide) (by decide) (by decide)]
              simp [mSet, qi, hli.2.2.2.1]
            · rw [(q3 (8 * i + k - 1) (by omega)).1, (q3 (8 * i + k - 1) (by omega)).2]
              exact hli.2.2.2.2.2 k k0 k1
      have g1 := hg.1 1 (by omega) (by omega)
      simp only [false_and, and_false, true_or, or_true, false_or, or_false, true_and, and_true, true_implies, false_implies, implies_true, not_true_eq_false, not_false_eq_true, and_self, List.length_cons, List.length_nil, mNoCut_, mCat_n, mCat_I, mCat_L, mCat_R, mIsL_n, mIsL_I, mIsL_R, mIsL_L, Nat.reduceAdd, Nat.reduceSub, Nat.reduceLeDiff, Nat.reduceLT, Nat.reduceEqDiff, Nat.zero_le, Int.reduceEq, Int.reduceLT, Int.reduceLE, Int.reduceNeg, Int.reduceAdd, if_true, if_false, reduceIte, reduceCtorEq, Bool.false_eq_true, ne_eq, qCmp_0, qCmp_1, qCmp_2, qCmp_3, qCmp_4, qCmp_5, ib_0, ib_1, ib_2, lb_0, lb_1, lb_2, dv_0, dv_1, wq_ic, wq_ld_i, wq_ld_a, wq_st_i, wq_iinc, wq_ib, wq_icmp, wq_goto, wq_get, mGet_0, mGet_1, mGet_2, mGet_3, wq_putI, wq_putL, wq_ald, wq_astI, wq_astL, wq_dupI, wq_dupR, dup_I, dup_R, wq_ret0, wq_ret1, wq_ret2, wq_ret3, wq_ret4, ldR0, ldR1, ldI2, wq_callV2_0, fk_0_0, mrg_0_, fk_0_1, ldI3, mrg_1_, ldI4, fk_0_2, stI5, ldI5, mrg_8_, stI6, fk_0_3, fk_3_8, ldI6, wq_callS2_1, fk_0_4, fk_3_9, fk_0_5, fk_3_10, fk_0_6, fk_3_11, wq_callV3_0, wqinc5, mPut_s, mPut_I0, mPut_R0, mPut_L0, mPut_I1, mPut_R1, mPut_L1, mGo_n, sfxX0_lay_25, cutX0_lay_25, sfxX0_lay_26, cutX0_lay_26, sfxX0_lay_32, cutX0_lay_32, sfxX0_lay_143, cutX0_lay_143, wq_cut, mGo_c, mMask_t, mMask_f, mMask_n, kX0_lay_143, kX0_lay_32, kX0_lay_26, kX0_lay_25, kX0_lay_0, sk_120, al_120, rf_120_3, sk_121, al_121, sn_121, rf_120_4, sk_122, al_122, sn_122, rf_120_5, sk_123, al_123, sn_123, rf_120_6, sk_124, al_124, sn_124, sk_11, al_11, rf_11_8, sk_16, al_16, sn_16, rf_11_9, sk_17, al_17, sn_17, rf_11_10, sk_18, al_18, sn_18, rf_11_11, sk_19, al_19, sn_19, sk_102, al_102, rf_102_8, sk_107, al_107, sn_107, rf_102_9, sk_108, al_108, sn_108, rf_102_10, sk_109, al_109, sn_109, rf_102_11, sk_110, al_110, sn_110, ald_n, ro0_n, al_ro, SX0_lay_0, SX0_lay_1, SX0_lay_2, SX0_lay_3, shqRI_, shqII_, shqRRI_, spX3_hitsOf, spX0_wayBy, spX0_airBy, spX0_run, mrg, mrl, mSet_ap, ncast, Option.some.injEq, g11, g14, g16, g17, g18, g19, e0, w1, w2]
      (try simp only [mrg, mrl] at *) <;> repeat' (first | (with_reducible assumption) | (with_reducible apply And.intro) | intro _ | (refine Exists.intro t (Exists.intro b ?_)))
      all_goals first | omega | exact H | exact hg.2.1 _ (by assumption) (by assumption) | exact rw0.2.1 | (rename_i I2 q1 q2 q3 q4 q5; exact key I2 q1 q2 q3 q4 q5) | skip
    · simp only [false_and, and_false, true_or, or_true, false_or, or_false, true_and, and_true, true_implies, false_implies, implies_true, not_true_eq_false, not_false_eq_true, and_self, List.length_cons, List.length_nil, mNoCut_, mCat_n, mCat_I, mCat_L, mCat_R, mIsL_n, mIsL_I, mIsL_R, mIsL_L, Nat.reduceAdd, Nat.reduceSub, Nat.reduceLeDiff, Nat.reduceLT, Nat.reduceEqDiff, Nat.zero_le, Int.reduceEq, Int.reduceLT, Int.reduceLE, Int.reduceNeg, Int.reduceAdd, if_true, if_false, reduceIte, reduceCtorEq, Bool.false_eq_true, ne_eq, qCmp_0, qCmp_1, qCmp_2, qCmp_3, qCmp_4, qCmp_5, ib_0, ib_1, ib_2, lb_0, lb_1, lb_2, dv_0, dv_1, wq_ic, wq_ld_i, wq_ld_a, wq_st_i, wq_iinc, wq_ib, wq_icmp, wq_goto, wq_get, mGet_0, mGet_1, mGet_2, mGet_3, wq_putI, wq_putL, wq_ald, wq_astI, wq_astL, wq_dupI, wq_dupR, dup_I, dup_R, wq_ret0, wq_ret1, wq_ret2, wq_ret3, wq_ret4, ldR0, ldR1, ldI2, wq_callV2_0, fk_0_0, mrg_0_, fk_0_1, ldI3, mrg_1_, ldI4, fk_0_2, stI5, ldI5, mrg_8_, stI6, fk_0_3, fk_3_8, ldI6, wq_callS2_1, fk_0_4, fk_3_9, fk_0_5, fk_3_10, fk_0_6, fk_3_11, wq_callV3_0, wqinc5, mPut_s, mPut_I0, mPut_R0, mPut_L0, mPut_I1, mPut_R1, mPut_L1, mGo_n, sfxX0_lay_25, cutX0_lay_25, sfxX0_lay_26, cutX0_lay_26, sfxX0_lay_32, cutX0_lay_32, sfxX0_lay_143, cutX0_lay_143, wq_cut, mGo_c, mMask_t, mMask_f, mMask_n, kX0_lay_143, kX0_lay_32, kX0_lay_26, kX0_lay_25, kX0_lay_0, sk_120, al_120, rf_120_3, sk_121, al_121, sn_121, rf_120_4, sk_122, al_122, sn_122, rf_120_5, sk_123, al_123, sn_123, rf_120_6, sk_124, al_124, sn_124, sk_11, al_11, rf_11_8, sk_16, al_16, sn_16, rf_11_9, sk_17, al_17, sn_17, rf_11_10, sk_18, al_18, sn_18, rf_11_11, sk_19, al_19, sn_19, sk_102, al_102, rf_102_8, sk_107, al_107, sn_107, rf_102_9, sk_108, al_108, sn_108, rf_102_10, sk_109, al_109, sn_109, rf_102_11, sk_110, al_110, sn_110, ald_n, ro0_n, al_ro, SX0_lay_0, SX0_lay_1, SX0_lay_2, SX0_lay_3, shqRI_, shqII_, shqRRI_, spX3_hitsOf, spX0_wayBy, spX0_airBy, spX0_run, mrg, mrl, mSet_ap, ncast, Option.some.injEq, g11, g14, g16, g17, g18, g19, e0]
      (try simp only [mrg, mrl] at *) <;> repeat' (first | (with_reducible assumption) | (with_reducible apply And.intro) | intro _)
      all_goals first | omega | exact hfin () (by omega) | skip
  · show mWp _ _ _ _ _ _ kX0_lay_0 [some (mR (some 120)), some (mR (some 11)), some (mI b), some (mI k), some (mI s), none, none] [] I
    have h6 := H.1.2.2.2.2.2.2
    have eh := hg.2.2.1 b hb.1 hb.2
    have eh : I 15 b = t (13 + b) := eh
    have hn8 := H.2.1 b hb.1 hb.2
    simp only [false_and, and_false, true_or, or_true, false_or, or_false, true_and, and_true, true_implies, false_implies, implies_true, not_true_eq_false, not_false_eq_true, and_self, List.length_cons, List.length_nil, mNoCut_, mCat_n, mCat_I, mCat_L, mCat_R, mIsL_n, mIsL_I, mIsL_R, mIsL_L, Nat.reduceAdd, Nat.reduceSub, Nat.reduceLeDiff, Nat.reduceLT, Nat.reduceEqDiff, Nat.zero_le, Int.reduceEq, Int.reduceLT, Int.reduceLE, Int.reduceNeg, Int.reduceAdd, if_true, if_false, reduceIte, reduceCtorEq, Bool.false_eq_true, ne_eq, qCmp_0, qCmp_1, qCmp_2, qCmp_3, qCmp_4, qCmp_5, ib_0, ib_1, ib_2, lb_0, lb_1, lb_2, dv_0, dv_1, wq_ic, wq_ld_i, wq_ld_a, wq_st_i, wq_iinc, wq_ib, wq_icmp, wq_goto, wq_get, mGet_0, mGet_1, mGet_2, mGet_3, wq_putI, wq_putL, wq_ald, wq_astI, wq_astL, wq_dupI, wq_dupR, dup_I, dup_R, wq_ret0, wq_ret1, wq_ret2, wq_ret3, wq_ret4, ldR0, ldR1, ldI2, wq_callV2_0, fk_0_0, mrg_0_, fk_0_1, ldI3, mrg_1_, ldI4, fk_0_2, stI5, ldI5, mrg_8_, stI6, fk_0_3, fk_3_8, ldI6, wq_callS2_1, fk_0_4, fk_3_9, fk_0_5, fk_3_10, fk_0_6, fk_3_11, wq_callV3_0, wqinc5, mPut_s, mPut_I0, mPut_R0, mPut_L0, mPut_I1, mPut_R1, mPut_L1, mGo_n, sfxX0_lay_25, cutX0_lay_25, sfxX0_lay_26, cutX0_lay_26, sfxX0_lay_32, cutX0_lay_32, sfxX0_lay_143, cutX0_lay_143, wq_cut, mGo_c, mMask_t, mMask_f, mMask_n, kX0_lay_143, kX0_lay_32, kX0_lay_26, kX0_lay_25, kX0_lay_0, sk_120, al_120, rf_120_3, sk_121, al_121, sn_121, rf_120_4, sk_122, al_122, sn_122, rf_120_5, sk_123, al_123, sn_123, rf_120_6, sk_124, al_124, sn_124, sk_11, al_11, rf_11_8, sk_16, al_16, sn_16, rf_11_9, sk_17, al_17, sn_17, rf_11_10, sk_18, al_18, sn_18, rf_11_11, sk_19, al_19, sn_19, sk_102, al_102, rf_102_8, sk_107, al_107, sn_107, rf_102_9, sk_108, al_108, sn_108, rf_102_10, sk_109, al_109, sn_109, rf_102_11, sk_110, al_110, sn_110, ald_n, ro0_n, al_ro, SX0_lay_0, SX0_lay_1, SX0_lay_2, SX0_lay_3, shqRI_, shqII_, shqRRI_, spX3_hitsOf, spX0_wayBy, spX0_airBy, spX0_run, mrg, mrl, mSet_ap, ncast, Option.some.injEq, Option.getD_some]
    (try simp only [mrg, mrl] at *) <;> repeat' (first | (with_reducible assumption) | (with_reducible apply And.intro) | intro _)
    all_goals first | omega | exact ⟨8, 0, rfl, by omega, rfl, fun i q => by rw [set_ne (by omega), set_ne (by omega), set_ne (by omega)], eh, rfl, by unfold shareT; rw [if_neg (by omega)], fun h h0 h1 => by omega⟩ | exact ⟨8, 0, rfl, by omega, rfl, fun i q => by rw [set_ne (by omega), set_ne (by omega), set_ne (by omega)], eh, rfl, by unfold shareT; rw [if_pos (by omega)]; exact hs (by omega), fun h h0 h1 => by omega⟩ | skip
theorem ctrX0_lay {l : Launch} (hst : l.stackTraces = false) (hT : mTxM l) : mCtr l calX0_lay spX0_lay :=
  mMet (T := TX0_lay) (S := SX0_lay) hst hT cutX0_lay (by decide) okX0_lay ⟨_, _, rfl, rfl⟩ trivial (fun t bs h => by rcases cutsX0_lay h with ⟨-, rfl⟩ <;> rfl) (fun a => match a with
    | 0 => ctrX3_hitsOf hst hT
    | 1 => ctrX0_wayBy hst hT
    | 2 => ctrX0_airBy hst hT
    | 3 => ctrX0_run hst hT
    | _ + 4 => mCtr_no) vcX0_lay

end SPC2
