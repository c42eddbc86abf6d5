section SPC12
def t3M (I : mM) (p : Int × Int × Int) : mM := mSet (mSet (mSet I 160 3 p.1) 160 4 p.2.1) 160 5 p.2.2
theorem t3M_self (I : mM) : t3M I (I 160 3, I 160 4, I 160 5) = I := by
  unfold t3M
  show mSet (mSet (mSet I 160 3 (I 160 3)) 160 4 (I 160 4)) 160 5 (I 160 5) = I
  rw [set_self I 160 3, set_self I 160 4, set_self I 160 5]
theorem t3M_ne (I : mM) (p : Int × Int × Int) {i : Nat} (h : i ≠ 160) : t3M I p i = I i := by
  unfold t3M
  rw [set_ne h, set_ne h, set_ne h]
theorem t3M_3 (I : mM) (p : Int × Int × Int) : t3M I p 160 3 = p.1 := by simp [t3M, mSet]
theorem t3M_4 (I : mM) (p : Int × Int × Int) : t3M I p 160 4 = p.2.1 := by simp [t3M, mSet]
theorem t3M_5 (I : mM) (p : Int × Int × Int) : t3M I p 160 5 = p.2.2 := by simp [t3M, mSet]
theorem t3M_o (I : mM) (p : Int × Int × Int) {q : Int} (h : q < 3) : t3M I p 160 q = I 160 q := by
  unfold t3M
  rw [set_nq (by omega), set_nq (by omega), set_nq (by omega)]
theorem try_pos {A B : Int → Int} {n : Nat} {p : Int × Int × Int} {u d : Int} (h : 0 ≤ u ∧ u ≤ d) (hd : 1 ≤ d) : tryT A B n p u d = if p.2.1 = 0 ∨ peakN A B u d n * p.2.1 < p.2.2 * d ∨ (peakN A B u d n * p.2.1 = p.2.2 * d ∧ u * p.2.1 < p.1 * d) then (u, d, peakN A B u d n) else p := by
  simp only [tryT]
  rw [if_neg (show ¬ d < 0 by omega), if_neg (show ¬ d < 0 by omega), if_neg (by omega)]
theorem try_neg {A B : Int → Int} {n : Nat} {p : Int × Int × Int} {u d : Int} (h : d < 0) : tryT A B n p u d = tryT A B n p (-u) (-d) := by
  simp only [tryT]
  rw [if_pos h, if_pos h, if_neg (show ¬ -d < 0 by omega), if_neg (show ¬ -d < 0 by omega)]
  have e : (d = 0 ∨ -u < 0 ∨ -d < -u) = (-d = 0 ∨ -u < 0 ∨ -d < -u) := propext (by omega)
  simp only [e]
theorem try_out {A B : Int → Int} {n : Nat} {p : Int × Int × Int} {u d : Int} (h : 0 ≤ d) (h2 : d = 0 ∨ u < 0 ∨ d < u) : tryT A B n p u d = p := by
  simp only [tryT]
  rw [if_neg (show ¬ d < 0 by omega), if_neg (show ¬ d < 0 by omega), if_pos h2]
def spX4_consider : mSp := shRLL (fun _ i u d I Q => i = some 160 ∧ (0 ≤ u ∧ u ≤ d) ∧ (1 ≤ d ∧ d ≤ 40000) ∧ (1 ≤ I 160 2 ∧ I 160 2 ≤ 8) ∧ (∀ h : Int, 0 ≤ h → h < I 160 2 → cstP (I 161 h) ∧ cstP (I 162 h)) ∧ (I 160 4 = 0 ∨ triP (I 160 3, I 160 4, I 160 5)) ∧ Q (.inl none) (t3M I (tryT (I 161) (I 162) (I 160 2).toNat (I 160 3, I 160 4, I 160 5) u d)))
def SX4_consider : Nat → mSp := fun a => match a with
  | _ => fun _ _ _ _ => False
theorem cutsX4_consider {t : Nat} {bs : List Bool} (h : cutX4_consider t = some bs) : (t = 26 ∧ bs = [true, true, false, true, false, true, false, true, false, false, false]) := by
  unfold cutX4_consider at h
  simp only [mLk] at h
  by_cases h0 : 26 = t
  · subst h0
    simp at h
    exact ⟨rfl, h.symm⟩
  rw [if_neg h0] at h
  cases h
set_option maxRecDepth 100000 in
set_option maxHeartbeats 1000000 in
theorem vcX4_consider (fl : Nat → Bool) (avs : List mV) (I : mM) (Q : mO → mM → Prop) (hsp : spX4_consider fl avs I Q) : mVC SX4_consider fl Q kX4_consider cutX4_consider 11 avs I := by
  obtain ⟨i, u, d, rfl, h0⟩ := shRLL_inv hsp
  obtain ⟨rfl, hu, hd, hn, hc1, ht, h⟩ := h0
  refine ⟨rfl, (fun m pc lv st I1 => st = [] ∧ I1 = I ∧ ∃ (j : Nat), lv = [some (mR (some 160)), some (mL u), none, some (mL d), none, some (mL (peakN (I 161) (I 162) u d j)), none, some (mI j), none, none, none] ∧ 1 ≤ j ∧ j ≤ (I 160 2).toNat ∧ m = 8 - j), ?_, ?_⟩
  · intro n t bs hbs lv st I1 hc
    rcases cutsX4_consider hbs with ⟨rfl, rfl⟩
    rw [sfxX4_consider_26]
    obtain ⟨rfl, rfl, j, rfl, hj1, hj, hm⟩ := hc
    have pj := peakN_bd (A := I1 161) (B := I1 162) (a := u) (b := d) hu hd.2 j (fun g g0 g1 => hc1 g g0 (by omega))
    have ps : peakN (I1 161) (I1 162) u d (j + 1) = if j = 0 ∨ u * I1 161 j + (d - u) * I1 162 j > peakN (I1 161) (I1 162) u d j then u * I1 161 j + (d - u) * I1 162 j else peakN (I1 161) (I1 162) u d j := rfl
    by_cases z : (j : Int) < I1 160 2
    · have mj := mix_bd (hc1 j (by omega) z).1 (hc1 j (by omega) z).2 (a := u) (b := d) hu hd.2
      have cA := (hc1 j (by omega) z).1
      have cB := (hc1 j (by omega) z).2
      clear h ht hc1
      generalize hP : peakN (I1 161) (I1 162) u d j = P at *
      generalize hX : u * I1 161 j = X at *
      generalize hY : (d - u) * I1 162 j = Y at *
      have em : max P (X + Y) = peakN (I1 161) (I1 162) u d (j + 1) := by
        rw [ps]
        by_cases q : X + Y > P
        · rw [if_pos (Or.inr q)]
          omega
        · rw [if_neg (fun w => by omega)]
          omega
      simp only [false_and, and_false, true_or, or_true, false_or, or_false, true_and, and_true, true_implies, false_implies, implies_true, not_true_eq_false, not_false_eq_true, and_self, List.length_cons, List.length_nil, mNoCut_, mCat_n, mCat_I, mCat_L, mCat_R, mIsL_n, mIsL_I, mIsL_R, mIsL_L, Nat.reduceAdd, Nat.reduceSub, Nat.reduceLeDiff, Nat.reduceLT, Nat.reduceEqDiff, Nat.zero_le, Int.reduceEq, Int.reduceLT, Int.reduceLE, Int.reduceNeg, Int.reduceAdd, if_true, if_false, reduceIte, reduceCtorEq, Bool.false_eq_true, ne_eq, qCmp_0, qCmp_1, qCmp_2, qCmp_3, qCmp_4, qCmp_5, ib_0, ib_1, ib_2, lb_0, lb_1, lb_2, dv_0, dv_1, wq_ic, wq_lc, wq_ld_i, wq_ld_l, wq_ld_a, wq_st_i, wq_st_l, wq_iinc, wq_lb, wq_i2l, wq_icmp, wq_lcmp, wq_goto, wq_get, mGet_0, mGet_1, mGet_2, mGet_3, wq_putI, wq_putL, wq_ald, wq_ret0, wq_ret1, wq_ret2, wq_ret3, wq_ret4, wq_max, wq_min, wq_abs, wq_lmax, ldL1, ldR0, fk_4_0, mrg_0_, ldL3, fk_4_1, stL5, mrg_1_, stI7, ldI7, fk_4_2, ldL5, wqinc7, fk_4_4, stL7, fk_4_5, stL9, ldL7, ldL9, fk_4_3, mPut_s, mPut_I0, mPut_R0, mPut_L0, mPut_I1, mPut_R1, mPut_L1, mGo_n, sfxX4_consider_26, cutX4_consider_26, sfxX4_consider_71, cutX4_consider_71, sfxX4_consider_129, cutX4_consider_129, sfxX4_consider_145, cutX4_consider_145, wq_cut, mGo_c, mMask_t, mMask_f, mMask_n, kX4_consider_145, kX4_consider_129, kX4_consider_71, kX4_consider_26, kX4_consider_0, sk_160, al_160, rf_160_0, sk_161, al_161, sn_161, rf_160_1, sk_162, al_162, sn_162, ald_n, ro0_n, al_ro, mrg, mrl, mSet_ap, ncast, Option.some.injEq, hX, hY, em]
      (try simp only [mrg, mrl] at *) <;> repeat' (first | (with_reducible assumption) | (with_reducible apply And.intro) | intro _)
      all_goals first | omega | exact ⟨8 - (j + 1), by omega, j + 1, rfl, by omega, by omega, rfl⟩ | skip
    · have ej : j = (I1 160 2).toNat := by omega
      rw [try_pos hu hd.1, ← ej] at h
      generalize hP : peakN (I1 161) (I1 162) u d j = P at *
      have q : I1 160 4 = 0 ∨ (-16000000000000 ≤ P * I1 160 4 ∧ P * I1 160 4 ≤ 16000000000000) ∧ (-16000000000000 ≤ I1 160 5 * d ∧ I1 160 5 * d ≤ 16000000000000) ∧ (-16000000000000 ≤ u * I1 160 4 ∧ u * I1 160 4 ≤ 16000000000000) ∧ (-16000000000000 ≤ I1 160 3 * d ∧ I1 160 3 * d ≤ 16000000000000) ∧ 0 ≤ I1 160 4 ∧ I1 160 4 ≤ 40000 := by
        rcases ht with e | ⟨⟨k1, k2⟩, ⟨k3, k4⟩, k5, k6⟩
        · exact Or.inl e
        · right
          dsimp only at k1 k2 k3 k4 k5 k6
          have q1 := mul_abs_bd (x := I1 160 4) (a := 40000) (b := 400000000) (y := P) ⟨by omega, by omega⟩ ⟨by omega, by omega⟩
          have q2 := mul_abs_bd (x := d) (a := 40000) (b := 400000000) (y := I1 160 5) ⟨by omega, by omega⟩ ⟨by omega, by omega⟩
          have q3 := mul_abs_bd (x := u) (a := 40000) (b := 40000) (y := I1 160 4) ⟨by omega, by omega⟩ ⟨by omega, by omega⟩
          have q4 := mul_abs_bd (x := d) (a := 40000) (b := 40000) (y := I1 160 3) ⟨by omega, by omega⟩ ⟨by omega, by omega⟩
          rw [Int.mul_comm (I1 160 4) P] at q1
          rw [Int.mul_comm d (I1 160 5)] at q2
          rw [Int.mul_comm d (I1 160 3)] at q4
          omega
      have z0 : I1 160 4 = 0 → P * I1 160 4 = 0 ∧ u * I1 160 4 = 0 := fun e => by
        rw [e]
        simp
      clear ht hc1 ps
      by_cases w : I1 160 4 = 0
      · rw [if_pos (Or.inl w)] at h
        have z0 := z0 w
        have q5 : True := trivial
        clear q
        simp only [false_and, and_false, true_or, or_true, false_or, or_false, true_and, and_true, true_implies, false_implies, implies_true, not_true_eq_false, not_false_eq_true, and_self, List.length_cons, List.length_nil, mNoCut_, mCat_n, mCat_I, mCat_L, mCat_R, mIsL_n, mIsL_I, mIsL_R, mIsL_L, Nat.reduceAdd, Nat.reduceSub, Nat.reduceLeDiff, Nat.reduceLT, Nat.reduceEqDiff, Nat.zero_le, Int.reduceEq, Int.reduceLT, Int.reduceLE, Int.reduceNeg, Int.reduceAdd, if_true, if_false, reduceIte, reduceCtorEq, Bool.false_eq_true, ne_eq, qCmp_0, qCmp_1, qCmp_2, qCmp_3, qCmp_4, qCmp_5, ib_0, ib_1, ib_2, lb_0, lb_1, lb_2, dv_0, dv_1, wq_ic, wq_lc, wq_ld_i, wq_ld_l, wq_ld_a, wq_st_i, wq_st_l, wq_iinc, wq_lb, wq_i2l, wq_icmp, wq_lcmp, wq_goto, wq_get, mGet_0, mGet_1, mGet_2, mGet_3, wq_putI, wq_putL, wq_ald, wq_ret0, wq_ret1, wq_ret2, wq_ret3, wq_ret4, wq_max, wq_min, wq_abs, wq_lmax, ldL1, ldR0, fk_4_0, mrg_0_, ldL3, fk_4_1, stL5, mrg_1_, stI7, ldI7, fk_4_2, ldL5, wqinc7, fk_4_4, stL7, fk_4_5, stL9, ldL7, ldL9, fk_4_3, mPut_s, mPut_I0, mPut_R0, mPut_L0, mPut_I1, mPut_R1, mPut_L1, mGo_n, sfxX4_consider_26, cutX4_consider_26, sfxX4_consider_71, cutX4_consider_71, sfxX4_consider_129, cutX4_consider_129, sfxX4_consider_145, cutX4_consider_145, wq_cut, mGo_c, mMask_t, mMask_f, mMask_n, kX4_consider_145, kX4_consider_129, kX4_consider_71, kX4_consider_26, kX4_consider_0, sk_160, al_160, rf_160_0, sk_161, al_161, sn_161, rf_160_1, sk_162, al_162, sn_162, ald_n, ro0_n, al_ro, mrg, mrl, mSet_ap, ncast, Option.some.injEq, w]
        (try simp only [mrg, mrl] at *) <;> repeat' (first | (with_reducible assumption) | (with_reducible apply And.intro) | intro _)
        all_goals first | omega | exact h | skip
      · have q := q.resolve_left w
        generalize hX : P * I1 160 4 = X at *
        generalize hY : I1 160 5 * d = Y at *
        generalize hZ : u * I1 160 4 = Z at *
        generalize hW : I1 160 3 * d = W at *
        have hA : ∀ _ : Unit, (X < Y ∨ (X = Y ∧ Z < W)) → Q (.inl none) (mSet (mSet (mSet I1 160 3 u) 160 4 d) 160 5 P) := fun _ w2 => by
          rw [if_pos (Or.inr w2)] at h
          exact h
        have hB : ∀ _ : Unit, ¬ (X < Y ∨ (X = Y ∧ Z < W)) → Q (.inl none) I1 := fun _ w2 => by
          rw [if_neg (fun v => v.elim w w2), t3M_self] at h
          exact h
        clear h z0
        simp only [false_and, and_false, true_or, or_true, false_or, or_false, true_and, and_true, true_implies, false_implies, implies_true, not_true_eq_false, not_false_eq_true, and_self, List.length_cons, List.length_nil, mNoCut_, mCat_n, mCat_I, mCat_L, mCat_R, mIsL_n, mIsL_I, mIsL_R, mIsL_L, Nat.reduceAdd, Nat.reduceSub, Nat.reduceLeDiff, Nat.reduceLT, Nat.reduceEqDiff, Nat.zero_le, Int.reduceEq, Int.reduceLT, Int.reduceLE, Int.reduceNeg, Int.reduceAdd, if_true, if_false, reduceIte, reduceCtorEq, Bool.false_eq_true, ne_eq, qCmp_0, qCmp_1, qCmp_2, qCmp_3, qCmp_4, qCmp_5, ib_0, ib_1, ib_2, lb_0, lb_1, lb_2, dv_0, dv_1, wq_ic, wq_lc, wq_ld_i, wq_ld_l, wq_ld_a, wq_st_i, wq_st_l, wq_iinc, wq_lb, wq_i2l, wq_icmp, wq_lcmp, wq_goto, wq_get, mGet_0, mGet_1, mGet_2, mGet_3, wq_putI, wq_putL, wq_ald, wq_ret0, wq_ret1, wq_ret2, wq_ret3, wq_ret4, wq_max, wq_min, wq_abs, wq_lmax, ldL1, ldR0, fk_4_0, mrg_0_, ldL3, fk_4_1, stL5, mrg_1_, stI7, ldI7, fk_4_2, ldL5, wqinc7, fk_4_4, stL7, fk_4_5, stL9, ldL7, ldL9, fk_4_3, mPut_s, mPut_I0, mPut_R0, mPut_L0, mPut_I1, mPut_R1, mPut_L1, mGo_n, sfxX4_consider_26, cutX4_consider_26, sfxX4_consider_71, cutX4_consider_71, sfxX4_consider_129, cutX4_consider_129, sfxX4_consider_145, cutX4_consider_145, wq_cut, mGo_c, mMask_t, mMask_f, mMask_n, kX4_consider_145, kX4_consider_129, kX4_consider_71, kX4_consider_26, kX4_consider_0, sk_160, al_160, rf_160_0, sk_161, al_161, sn_161, rf_160_1, sk_162, al_162, sn_162, ald_n, ro0_n, al_ro, mrg, mrl, mSet_ap, ncast, Option.some.injEq, hX, hY, hZ, hW]
        (try simp only [mrg, mrl] at *) <;> repeat' (first | (with_reducible assumption) | (with_reducible apply And.intro) | intro _)
        all_goals first | omega | exact hA () (by omega) | exact hB () (by omega) | skip
  · show mWp _ _ _ _ _ _ kX4_consider_0 [some (mR (some 160)), some (mL u), none, some (mL d), none, none, none, none, none, none, none] [] I
    have c0 := hc1 0 (by omega) (by omega)
    have mj := mix_bd c0.1 c0.2 (a := u) (b := d) hu hd.2
    have e : peakN (I 161) (I 162) u d 1 = u * I 161 0 + (d - u) * I 162 0 := by
      show (if (0 : Nat) = 0 ∨ _ then _ else _) = _
      rw [if_pos (Or.inl rfl)]
      rfl
    have c1 := c0.1
    have c2 := c0.2
    simp only [false_and, and_false, true_or, or_true, false_or, or_false, true_and, and_true, true_implies, false_implies, implies_true, not_true_eq_false, not_false_eq_true, and_self, List.length_cons, List.length_nil, mNoCut_, mCat_n, mCat_I, mCat_L, mCat_R, mIsL_n, mIsL_I, mIsL_R, mIsL_L, Nat.reduceAdd, Nat.reduceSub, Nat.reduceLeDiff, Nat.reduceLT, Nat.reduceEqDiff, Nat.zero_le, Int.reduceEq, Int.reduceLT, Int.reduceLE, Int.reduceNeg, Int.reduceAdd, if_true, if_false, reduceIte, reduceCtorEq, Bool.false_eq_true, ne_eq, qCmp_0, qCmp_1, qCmp_2, qCmp_3, qCmp_4, qCmp_5, ib_0, ib_1, ib_2, lb_0, lb_1, lb_2, dv_0, dv_1, wq_ic, wq_lc, wq_ld_i, wq_ld_l, wq_ld_a, wq_st_i, wq_st_l, wq_iinc, wq_lb, wq_i2l, wq_icmp, wq_lcmp, wq_goto, wq_get, mGet_0, mGet_1, mGet_2, mGet_3, wq_putI, wq_putL, wq_ald, wq_ret0, wq_ret1, wq_ret2, wq_ret3, wq_ret4, wq_max, wq_min, wq_abs, wq_lmax, ldL1, ldR0, fk_4_0, mrg_0_, ldL3, fk_4_1, stL5, mrg_1_, stI7, ldI7, fk_4_2, ldL5, wqinc7, fk_4_4, stL7, fk_4_5, stL9, ldL7, ldL9, fk_4_3, mPut_s, mPut_I0, mPut_R0, mPut_L0, mPut_I1, mPut_R1, mPut_L1, mGo_n, sfxX4_consider_26, cutX4_consider_26, sfxX4_consider_71, cutX4_consider_71, sfxX4_consider_129, cutX4_consider_129, sfxX4_consider_145, cutX4_consider_145, wq_cut, mGo_c, mMask_t, mMask_f, mMask_n, kX4_consider_145, kX4_consider_129, kX4_consider_71, kX4_consider_26, kX4_consider_0, sk_160, al_160, rf_160_0, sk_161, al_161, sn_161, rf_160_1, sk_162, al_162, sn_162, ald_n, ro0_n, al_ro, mrg, mrl, mSet_ap, ncast, Option.some.injEq]
    (try simp only [mrg, mrl] at *) <;> repeat' (first | (with_reducible assumption) | (with_reducible apply And.intro) | intro _)
    all_goals first | omega | exact ⟨7, 1, by rw [e]; rfl, by omega, by omega, rfl⟩ | skip
theorem ctrX4_consider {l : Launch} (hst : l.stackTraces = false) (hT : mTxM l) : mCtr l calX4_consider spX4_consider :=
  mMet (T := TX4_consider) (S := SX4_consider) hst hT cutX4_consider (by decide) okX4_consider ⟨_, _, rfl, rfl⟩ trivial (fun t bs h => by rcases cutsX4_consider h with ⟨-, rfl⟩ <;> rfl) (fun a => mCtr_no) vcX4_consider

def spX4_considerCrossing : mSp := shRII (fun _ i h k I Q => i = some 160 ∧ (1 ≤ I 160 2 ∧ I 160 2 ≤ 8) ∧ (0 ≤ h ∧ h < I 160 2) ∧ (0 ≤ k ∧ k < I 160 2) ∧ (∀ h : Int, 0 ≤ h → h < I 160 2 → cstP (I 161 h) ∧ cstP (I 162 h)) ∧ (I 160 4 = 0 ∨ triP (I 160 3, I 160 4, I 160 5)) ∧ Q (.inl none) (t3M I (tryT (I 161) (I 162) (I 160 2).toNat (I 160 3, I 160 4, I 160 5) (I 162 k - I 162 h) (I 161 h - I 162 h - I 161 k + I 162 k))))
def SX4_considerCrossing : Nat → mSp := fun a => match a with
  | 0 => spX4_consider
  | _ => fun _ _ _ _ => False
theorem SX4_considerCrossing_0 : SX4_considerCrossing 0 = spX4_consider := Eq.trans rfl rfl
set_option maxRecDepth 100000 in
set_option maxHeartbeats 1000000 in
theorem vcX4_considerCrossing (fl : Nat → Bool) (avs : List mV) (I : mM) (Q : mO → mM → Prop) (hsp : spX4_considerCrossing fl avs I Q) : mVC0 SX4_considerCrossing fl Q kX4_considerCrossing 7 avs I := by
  obtain ⟨i, hh, k, rfl, h0⟩ := shRII_inv hsp
  refine ⟨rfl, ?_⟩
  show mWp _ _ _ _ _ _ kX4_considerCrossing_0 [some (mR i), some (mI hh), some (mI k), none, none, none, none] [] I
  obtain ⟨rfl, hn, hh1, hk, hc1, ht, h⟩ := h0
  have c1 := (hc1 hh hh1.1 hh1.2).1
  have c2 := (hc1 hh hh1.1 hh1.2).2
  have c3 := (hc1 k hk.1 hk.2).1
  have c4 := (hc1 k hk.1 hk.2).2
  rw [show I 161 hh - I 162 hh - I 161 k + I 162 k = I 161 hh - I 162 hh - (I 161 k - I 162 k) by omega] at h
  generalize hu : I 162 k - I 162 hh = u at *
  generalize hd : I 161 hh - I 162 hh - (I 161 k - I 162 k) = d at *
  have f1 : ∀ _ : Unit, d < 0 → Q (.inl none) (t3M I (tryT (I 161) (I 162) (I 160 2).toNat (I 160 3, I 160 4, I 160 5) (-u) (-d))) := fun _ z => by
    rw [try_neg z] at h
    exact h
  have f2 : ∀ _ : Unit, 0 ≤ d → (d = 0 ∨ u < 0 ∨ d < u) → Q (.inl none) I := fun _ z z2 => by
    rw [try_out z z2, t3M_self] at h
    exact h
  have f3 : ∀ _ : Unit, d < 0 → (-u < 0 ∨ -d < -u) → Q (.inl none) I := fun _ z z2 => by
    have h := f1 () z
    rw [try_out (by omega) (Or.inr z2), t3M_self] at h
    exact h
  have ub : -40000 ≤ u ∧ u ≤ 40000 := by omega
  have db : -40000 ≤ d ∧ d ≤ 40000 := by omega
  simp only [false_and, and_false, true_or, or_true, false_or, or_false, true_and, and_true, true_implies, false_implies, implies_true, not_true_eq_false, not_false_eq_true, and_self, List.length_cons, List.length_nil, mNoCut_, mCat_n, mCat_I, mCat_L, mCat_R, mIsL_n, mIsL_I, mIsL_R, mIsL_L, Nat.reduceAdd, Nat.reduceSub, Nat.reduceLeDiff, Nat.reduceLT, Nat.reduceEqDiff, Nat.zero_le, Int.reduceEq, Int.reduceLT, Int.reduceLE, Int.reduceNeg, Int.reduceAdd, if_true, if_false, reduceIte, reduceCtorEq, Bool.false_eq_true, ne_eq, qCmp_0, qCmp_1, qCmp_2, qCmp_3, qCmp_4, qCmp_5, ib_0, ib_1, ib_2, lb_0, lb_1, lb_2, dv_0, dv_1, wq_lc, wq_ld_i, wq_ld_l, wq_ld_a, wq_st_l, wq_ib, wq_lneg, wq_i2l, wq_lcmp, wq_get, mGet_0, mGet_1, mGet_2, mGet_3, wq_ald, wq_ret0, wq_ret1, wq_ret2, wq_ret3, wq_ret4, ldR0, fk_4_1, ldI2, ldI1, stL3, fk_4_0, stL5, ldL5, ldL3, wq_callV3_0, mPut_s, mPut_I0, mPut_R0, mPut_L0, mPut_I1, mPut_R1, mPut_L1, mGo_n, sfxX4_considerCrossing_60, cutX4_considerCrossing_60, sfxX4_considerCrossing_87, cutX4_considerCrossing_87, kX4_considerCrossing_87, kX4_considerCrossing_60, kX4_considerCrossing_0, sk_160, al_160, rf_160_1, sk_162, al_162, sn_162, rf_160_0, sk_161, al_161, sn_161, ald_n, ro0_n, al_ro, SX4_considerCrossing_0, shqRLL_, spX4_consider, mrg, mrl, mSet_ap, ncast, Option.some.injEq, hu, hd]
  clear c1 c2 c3 c4
  (try simp only [mrg, mrl] at *) <;> repeat' (first | (with_reducible assumption) | (with_reducible apply And.intro) | intro _)
  all_goals first | omega | exact (hc1 _ (by assumption) (by assumption)).1.1 | exact (hc1 _ (by assumption) (by assumption)).1.2 | exact (hc1 _ (by assumption) (by assumption)).2.1 | exact (hc1 _ (by assumption) (by assumption)).2.2 | exact f1 () (by omega) | exact h | exact f2 () (by omega) (by omega) | exact f3 () (by omega) (by omega) | skip
theorem ctrX4_considerCrossing {l : Launch} (hst : l.stackTraces = false) (hT : mTxM l) : mCtr l calX4_considerCrossing spX4_considerCrossing :=
  mMet0 (T := TX4_considerCrossing) (S := SX4_considerCrossing) hst hT (by decide) okX4_considerCrossing ⟨_, _, rfl, rfl⟩ (fun a => match a with
    | 0 => ctrX4_consider hst hT
    | _ + 1 => mCtr_no) vcX4_considerCrossing

def spX4_solve : mSp := shRI (fun _ i n I Q => i = some 160 ∧ (0 ≤ n ∧ n ≤ 8) ∧ (∀ h : Int, 0 ≤ h → h < n → cstP (I 161 h) ∧ cstP (I 162 h)) ∧ ∀ I' : mM, (∀ i, i ≠ 160 → I' i = I i) → (n = 0 → I' 160 3 = 0 ∧ I' 160 4 = 0 ∧ I' 160 5 = 0) → (¬ n = 0 → (I' 160 3, I' 160 4, I' 160 5) = restOut (I 161) (I 162) n.toNat n.toNat) → Q (.inl none) I')
def SX4_solve : Nat → mSp := fun a => match a with
  | 0 => spX4_consider
  | 1 => spX4_considerCrossing
  | _ => fun _ _ _ _ => False
theorem SX4_solve_0 : SX4_solve 0 = spX4_consider := Eq.trans rfl rfl
theorem SX4_solve_1 : SX4_solve 1 = spX4_considerCrossing := Eq.trans rfl rfl
theorem cutsX4_solve {t : Nat} {bs : List Bool} (h : cutX4_solve t = some bs) : (t = 42 ∧ bs = [true, false, true, false]) ∨ (t = 52 ∧ bs = [true, false, true, true]) := by
  unfold cutX4_solve at h
  simp only [mLk] at h
  by_cases h0 : 42 = t
  · subst h0
    simp at h
    exact Or.inl ⟨rfl, h.symm⟩
  rw [if_neg h0] at h
  by_cases h1 : 52 = t
  · subst h1
    simp at h
    exact Or.inr (⟨rfl, h.symm⟩)
  rw [if_neg h1] at h
  cases h
set_option maxRecDepth 100000 in
set_option maxHeartbeats 1000000 in
theorem vcX4_solve (fl : Nat → Bool) (avs : List mV) (I : mM) (Q : mO → mM → Prop) (hsp : spX4_solve fl avs I Q) : mVC SX4_solve fl Q kX4_solve cutX4_solve 4 avs I := by
  obtain ⟨i, nn, rfl, h0⟩ := shRI_inv hsp
  obtain ⟨rfl, hn, hc1, hQ⟩ := h0
  have hcc : ∀ g : Int, 0 ≤ g → g < (nn.toNat : Nat) → cstP (I 161 g) ∧ cstP (I 162 g) := fun g g0 g1 => hc1 g g0 (by omega)
  refine ⟨rfl, (fun m pc lv st I1 => st = [] ∧ (1 ≤ nn ∧ I1 160 2 = nn ∧ (∀ i, i ≠ 160 → I1 i = I i)) ∧ ∃ h : Nat, h ≤ nn.toNat ∧ (if pc = 42 then lv = [some (mR (some 160)), none, some (mI h), none] ∧ m = 20 * (8 - h) + 10 ∧ (I1 160 3, I1 160 4, I1 160 5) = restOut (I 161) (I 162) nn.toNat h else ∃ k : Nat, lv = [some (mR (some 160)), none, some (mI h), some (mI k)] ∧ k ≤ h ∧ h < nn.toNat ∧ m = 20 * (8 - h) + 9 - k ∧ (I1 160 3, I1 160 4, I1 160 5) = restIn (I 161) (I 162) nn.toNat h k (restOut (I 161) (I 162) nn.toNat h))), ?_, ?_⟩
  · intro n t bs hbs lv st I1 hc
    rcases cutsX4_solve hbs with ⟨rfl, rfl⟩ | ⟨rfl, rfl⟩
    · skip
      rw [sfxX4_solve_42]
      obtain ⟨rfl, ⟨k1, k2, k3⟩, h, hh1, rfl, hm, hp⟩ := hc
      have fin : ∀ _ : Unit, nn ≤ h → Q (.inl none) I1 := fun _ z => by
        have e : h = nn.toNat := by omega
        subst e
        exact hQ I1 k3 (fun w => by omega) (fun _ => hp)
      clear hQ
      simp only [false_and, and_false, true_or, or_true, false_or, or_false, true_and, and_true, true_implies, false_implies, implies_true, not_true_eq_false, not_false_eq_true, and_self, List.length_cons, List.length_nil, mNoCut_, mCat_n, mCat_I, mCat_L, mCat_R, mIsL_n, mIsL_I, mIsL_R, mIsL_L, Nat.reduceAdd, Nat.reduceSub, Nat.reduceLeDiff, Nat.reduceLT, Nat.reduceEqDiff, Nat.zero_le, Int.reduceEq, Int.reduceLT, Int.reduceLE, Int.reduceNeg, Int.reduceAdd, if_true, if_false, reduceIte, reduceCtorEq, Bool.false_eq_true, ne_eq, qCmp_0, qCmp_1, qCmp_2, qCmp_3, qCmp_4, qCmp_5, ib_0, ib_1, ib_2, lb_0, lb_1, lb_2, dv_0, dv_1, wq_ic, wq_lc, wq_ld_i, wq_ld_a, wq_st_i, wq_iinc, wq_icmp, wq_if, wq_goto, wq_get, mGet_0, mGet_1, mGet_2, mGet_3, wq_putI, wq_putL, wq_ret0, wq_ret1, wq_ret2, wq_ret3, wq_ret4, ldR0, ldI1, fk_4_2, fk_4_3, fk_4_4, fk_4_5, wq_callV3_0, mrg_0_, stI2, ldI2, stI3, ldI3, wqinc3, wqinc2, mPut_s, mPut_I0, mPut_R0, mPut_L0, mPut_I1, mPut_R1, mPut_L1, mGo_n, sfxX4_solve_28, cutX4_solve_28, sfxX4_solve_42, cutX4_solve_42, sfxX4_solve_52, cutX4_solve_52, sfxX4_solve_69, cutX4_solve_69, sfxX4_solve_75, cutX4_solve_75, wq_cut, mGo_c, mMask_t, mMask_f, mMask_n, kX4_solve_75, kX4_solve_69, kX4_solve_52, kX4_solve_42, kX4_solve_28, kX4_solve_0, sk_160, al_160, SX4_solve_0, SX4_solve_1, shqRLL_, shqRII_, spX4_consider, spX4_considerCrossing, mrg, mrl, mSet_ap, ncast, Option.some.injEq, k2]
      (try simp only [mrg, mrl] at *) <;> repeat' (first | (with_reducible assumption) | (with_reducible apply And.intro) | intro _)
      all_goals first | omega | exact fin () (by omega) | exact ⟨20 * (8 - h) + 9 - 0, by omega, ⟨k1, k3⟩, h, hh1, 0, rfl, by omega, by omega, rfl, hp⟩ | skip
    · skip
      rw [sfxX4_solve_52]
      obtain ⟨rfl, ⟨k1, k2, k3⟩, h, hh1, k, rfl, kk, khn, hm, hp⟩ := hc
      have rb := restIn_bd (h := h) hcc ⟨by omega, by omega⟩ (restOut_bd hcc h hh1) k (by omega)
      rw [← hp] at rb
      have e1 := k3 161 (by decide)
      have e2 := k3 162 (by decide)
      have hN : tryT (I 161) (I 162) nn.toNat (I1 160 3, I1 160 4, I1 160 5) (I 162 k - I 162 h) (I 161 h - I 162 h - I 161 k + I 162 k) = restIn (I 161) (I 162) nn.toNat h (k + 1) (restOut (I 161) (I 162) nn.toNat h) := by
        rw [hp]
        rfl
      have hT := rb.1
      clear rb hQ
      simp only [false_and, and_false, true_or, or_true, false_or, or_false, true_and, and_true, true_implies, false_implies, implies_true, not_true_eq_false, not_false_eq_true, and_self, List.length_cons, List.length_nil, mNoCut_, mCat_n, mCat_I, mCat_L, mCat_R, mIsL_n, mIsL_I, mIsL_R, mIsL_L, Nat.reduceAdd, Nat.reduceSub, Nat.reduceLeDiff, Nat.reduceLT, Nat.reduceEqDiff, Nat.zero_le, Int.reduceEq, Int.reduceLT, Int.reduceLE, Int.reduceNeg, Int.reduceAdd, if_true, if_false, reduceIte, reduceCtorEq, Bool.false_eq_true, ne_eq, qCmp_0, qCmp_1, qCmp_2, qCmp_3, qCmp_4, qCmp_5, ib_0, ib_1, ib_2, lb_0, lb_1, lb_2, dv_0, dv_1, wq_ic, wq_lc, wq_ld_i, wq_ld_a, wq_st_i, wq_iinc, wq_icmp, wq_if, wq_goto, wq_get, mGet_0, mGet_1, mGet_2, mGet_3, wq_putI, wq_putL, wq_ret0, wq_ret1, wq_ret2, wq_ret3, wq_ret4, ldR0, ldI1, fk_4_2, fk_4_3, fk_4_4, fk_4_5, wq_callV3_0, mrg_0_, stI2, ldI2, stI3, ldI3, wqinc3, wqinc2, mPut_s, mPut_I0, mPut_R0, mPut_L0, mPut_I1, mPut_R1, mPut_L1, mGo_n, sfxX4_solve_28, cutX4_solve_28, sfxX4_solve_42, cutX4_solve_42, sfxX4_solve_52, cutX4_solve_52, sfxX4_solve_69, cutX4_solve_69, sfxX4_solve_75, cutX4_solve_75, wq_cut, mGo_c, mMask_t, mMask_f, mMask_n, kX4_solve_75, kX4_solve_69, kX4_solve_52, kX4_solve_42, kX4_solve_28, kX4_solve_0, sk_160, al_160, SX4_solve_0, SX4_solve_1, shqRLL_, shqRII_, spX4_consider, spX4_considerCrossing, mrg, mrl, mSet_ap, ncast, Option.some.injEq, k2, e1, e2]
      (try simp only [mrg, mrl] at *) <;> repeat' (first | (with_reducible assumption) | (with_reducible apply And.intro) | intro _)
      all_goals first | omega | assumption | exact hc1 _ (by assumption) (by assumption) | exact (hc1 _ (by assumption) (by assumption)).1.1 | exact (hc1 _ (by assumption) (by assumption)).1.2 | exact (hc1 _ (by assumption) (by assumption)).2.1 | exact (hc1 _ (by assumption) (by assumption)).2.2 | exact Or.inr hT | exact ⟨20 * (8 - (h + 1)) + 10, by omega, ⟨k1, k3⟩, h + 1, by omega, rfl, rfl, by (have e : k = h := by omega); rw [hp, e]; rfl⟩ | exact ⟨20 * (8 - h) + 9 - (k + 1), by omega, ⟨k1, by rw [t3M_o _ _ (by decide)]; exact k2, fun i q => by rw [t3M_ne _ _ q]; exact k3 i q⟩, h, hh1, k + 1, rfl, by omega, khn, rfl, by rw [t3M_3, t3M_4, t3M_5]; exact hN⟩ | skip
  · show mWp _ _ _ _ _ _ kX4_solve_0 [some (mR (some 160)), some (mI nn), none, none] [] I
    by_cases z : nn = 0
    · have hQ := fun I' a b => hQ I' a b (fun w => absurd z w)
      simp only [false_and, and_false, true_or, or_true, false_or, or_false, true_and, and_true, true_implies, false_implies, implies_true, not_true_eq_false, not_false_eq_true, and_self, List.length_cons, List.length_nil, mNoCut_, mCat_n, mCat_I, mCat_L, mCat_R, mIsL_n, mIsL_I, mIsL_R, mIsL_L, Nat.reduceAdd, Nat.reduceSub, Nat.reduceLeDiff, Nat.reduceLT, Nat.reduceEqDiff, Nat.zero_le, Int.reduceEq, Int.reduceLT, Int.reduceLE, Int.reduceNeg, Int.reduceAdd, if_true, if_false, reduceIte, reduceCtorEq, Bool.false_eq_true, ne_eq, qCmp_0, qCmp_1, qCmp_2, qCmp_3, qCmp_4, qCmp_5, ib_0, ib_1, ib_2, lb_0, lb_1, lb_2, dv_0, dv_1, wq_ic, wq_lc, wq_ld_i, wq_ld_a, wq_st_i, wq_iinc, wq_icmp, wq_if, wq_goto, wq_get, mGet_0, mGet_1, mGet_2, mGet_3, wq_putI, wq_putL, wq_ret0, wq_ret1, wq_ret2, wq_ret3, wq_ret4, ldR0, ldI1, fk_4_2, fk_4_3, fk_4_4, fk_4_5, wq_callV3_0, mrg_0_, stI2, ldI2, stI3, ldI3, wqinc3, wqinc2, mPut_s, mPut_I0, mPut_R0, mPut_L0, mPut_I1, mPut_R1, mPut_L1, mGo_n, sfxX4_solve_28, cutX4_solve_28, sfxX4_solve_42, cutX4_solve_42, sfxX4_solve_52, cutX4_solve_52, sfxX4_solve_69, cutX4_solve_69, sfxX4_solve_75, cutX4_solve_75, wq_cut, mGo_c, mMask_t, mMask_f, mMask_n, kX4_solve_75, kX4_solve_69, kX4_solve_52, kX4_solve_42, kX4_solve_28, kX4_solve_0, sk_160, al_160, SX4_solve_0, SX4_solve_1, shqRLL_, shqRII_, spX4_consider, spX4_considerCrossing, mrg, mrl, mSet_ap, ncast, Option.some.injEq]
      (try simp only [mrg, mrl] at *) <;> repeat' (first | (with_reducible assumption) | (with_reducible apply And.intro) | intro _)
      all_goals first | omega | exact hQ _ (fun i q => by rw [set_ne q, set_ne q, set_ne q, set_ne q]) (fun _ => ⟨by simp [mSet], by simp [mSet], by simp [mSet]⟩) | skip
    · have pk := peakN_bd (A := I 161) (B := I 162) (a := 0) (b := 1) ⟨by omega, by omega⟩ (by omega) nn.toNat hcc
      have t0 : ∀ x y : Int, tryT (I 161) (I 162) nn.toNat (x, 0, y) 0 1 = (0, 1, peakN (I 161) (I 162) 0 1 nn.toNat) := fun x y => try0 x y
      have ne : ∀ (M : mM) (p q : Int × Int × Int) (i : Nat), i ≠ 160 → t3M (t3M (mSet (mSet (mSet (mSet I 160 2 nn) 160 3 0) 160 4 0) 160 5 0) p) q i = I i := fun M p q i w => by
        rw [t3M_ne _ _ w, t3M_ne _ _ w, set_ne w, set_ne w, set_ne w, set_ne w]
      have e2 : ∀ p q : Int × Int × Int, t3M (t3M (mSet (mSet (mSet (mSet I 160 2 nn) 160 3 0) 160 4 0) 160 5 0) p) q 160 2 = nn := fun p q => by
        rw [t3M_o _ _ (by decide), t3M_o _ _ (by decide)]
        simp [mSet]
      clear hQ
      simp only [false_and, and_false, true_or, or_true, false_or, or_false, true_and, and_true, true_implies, false_implies, implies_true, not_true_eq_false, not_false_eq_true, and_self, List.length_cons, List.length_nil, mNoCut_, mCat_n, mCat_I, mCat_L, mCat_R, mIsL_n, mIsL_I, mIsL_R, mIsL_L, Nat.reduceAdd, Nat.reduceSub, Nat.reduceLeDiff, Nat.reduceLT, Nat.reduceEqDiff, Nat.zero_le, Int.reduceEq, Int.reduceLT, Int.reduceLE, Int.reduceNeg, Int.reduceAdd, if_true, if_false, reduceIte, reduceCtorEq, Bool.false_eq_true, ne_eq, qCmp_0, qCmp_1, qCmp_2, qCmp_3, qCmp_4, qCmp_5, ib_0, ib_1, ib_2, lb_0, lb_1, lb_2, dv_0, dv_1, wq_ic, wq_lc, wq_ld_i, wq_ld_a, wq_st_i, wq_iinc, wq_icmp, wq_if, wq_goto, wq_get, mGet_0, mGet_1, mGet_2, mGet_3, wq_putI, wq_putL, wq_ret0, wq_ret1, wq_ret2, wq_ret3, wq_ret4, ldR0, ldI1, fk_4_2, fk_4_3, fk_4_4, fk_4_5, wq_callV3_0, mrg_0_, stI2, ldI2, stI3, ldI3, wqinc3, wqinc2, mPut_s, mPut_I0, mPut_R0, mPut_L0, mPut_I1, mPut_R1, mPut_L1, mGo_n, sfxX4_solve_28, cutX4_solve_28, sfxX4_solve_42, cutX4_solve_42, sfxX4_solve_52, cutX4_solve_52, sfxX4_solve_69, cutX4_solve_69, sfxX4_solve_75, cutX4_solve_75, wq_cut, mGo_c, mMask_t, mMask_f, mMask_n, kX4_solve_75, kX4_solve_69, kX4_solve_52, kX4_solve_42, kX4_solve_28, kX4_solve_0, sk_160, al_160, SX4_solve_0, SX4_solve_1, shqRLL_, shqRII_, spX4_consider, spX4_considerCrossing, mrg, mrl, mSet_ap, ncast, Option.some.injEq, set_ne, t3M_ne, t3M_3, t3M_4, t3M_5, t3M_o, t0]
      (try simp only [mrg, mrl] at *) <;> repeat' (first | (with_reducible assumption) | (with_reducible apply And.intro) | intro _)
      all_goals first | omega | exact hc1 _ (by assumption) (by assumption) | exact (hc1 _ (by assumption) (by assumption)).1.1 | exact (hc1 _ (by assumption) (by assumption)).1.2 | exact (hc1 _ (by assumption) (by assumption)).2.1 | exact (hc1 _ (by assumption) (by assumption)).2.2 | exact Or.inr ⟨⟨by simp, by simp⟩, ⟨by simp, by simp⟩, ⟨by dsimp only; omega, by dsimp only; omega⟩⟩ | (dsimp only; omega) | exact ⟨20 * 8 + 10, ⟨by omega, fun i q => ne I _ _ i q⟩, 0, by omega, rfl, rfl, rfl⟩ | skip
theorem ctrX4_solve {l : Launch} (hst : l.stackTraces = false) (hT : mTxM l) : mCtr l calX4_solve spX4_solve :=
  mMet (T := TX4_solve) (S := SX4_solve) hst hT cutX4_solve (by decide) okX4_solve ⟨_, _, rfl, rfl⟩ trivial (fun t bs h => by rcases cutsX4_solve h with ⟨-, rfl⟩ | ⟨-, rfl⟩ <;> rfl) (fun a => match a with
    | 0 => ctrX4_consider hst hT
    | 1 => ctrX4_considerCrossing hst hT
    | _ + 2 => mCtr_no) vcX4_solve

def spX9_costsInto : mSp := shRRR (fun _ i s r I Q => i = some 130 ∧ s = some 3 ∧ (r = some 161 ∨ r = some 162) ∧ stB (I 3) ∧ ∃ t b, ctxU I t b ∧ ∀ I' : mM, (∀ i, i ≠ 130 → i ≠ r.getD 0 → I' i = I i) → (∀ h : Int, 0 ≤ h → h < t (13 + b) → I' (r.getD 0) h = coS t (I 3) b h) → Q (.inl none) I')
def SX9_costsInto : Nat → mSp := fun a => match a with
  | 0 => spX9_weigh
  | _ => fun _ _ _ _ => False
theorem SX9_costsInto_0 : SX9_costsInto 0 = spX9_weigh := Eq.trans rfl rfl
theorem cutsX9_costsInto {t : Nat} {bs : List Bool} (h : cutX9_costsInto t = some bs) : (t = 2 ∧ bs = [true, true, true, true]) := by
  unfold cutX9_costsInto at h
  simp only [mLk] at h
  by_cases h0 : 2 = t
  · subst h0
    simp at h
    exact ⟨rfl, h.symm⟩
  rw [if_neg h0] at h
  cases h
set_option maxRecDepth 100000 in
set_option maxHeartbeats 1000000 in
theorem vcX9_costsInto (fl : Nat → Bool) (avs : List mV) (I : mM) (Q : mO → mM → Prop) (hsp : spX9_costsInto fl avs I Q) : mVC SX9_costsInto fl Q kX9_costsInto cutX9_costsInto 4 avs I := by
  obtain ⟨i, s, r, rfl, h0⟩ := shRRR_inv hsp
  obtain ⟨rfl, rfl, hr, hB, t, b, H, hQ⟩ := h0
  obtain ⟨a, rfl, ha⟩ : ∃ a, r = some a ∧ (a = 161 ∨ a = 162) := by
    rcases hr with rfl | rfl
    · exact ⟨_, rfl, Or.inl rfl⟩
    · exact ⟨_, rfl, Or.inr rfl⟩
  simp only [Option.getD_some] at hQ
  have k1 : sk a = 20 := by rcases ha with rfl | rfl <;> rfl
  have k2 : sn a = 8 := by rcases ha with rfl | rfl <;> rfl
  have k3 : al fl a = true := by rcases ha with rfl | rfl <;> rfl
  have hn := H.1.2.1 b H.2.1.1 H.2.1.2
  clear hr
  refine ⟨rfl, (fun m pc lv st I1 => st = [] ∧ ∃ j : Nat, lv = [some (mR (some 130)), some (mR (some 3)), some (mR (some a)), some (mI j)] ∧ j ≤ (t (13 + b)).toNat ∧ m = 8 - j ∧ (∀ i, i ≠ 130 → i ≠ a → I1 i = I i) ∧ (∀ h : Int, 0 ≤ h → h < j → I1 a h = coS t (I 3) b h)), ?_, ?_⟩
  · intro n t bs hbs lv st I1 hc
    rcases cutsX9_costsInto hbs with ⟨rfl, rfl⟩
    rw [sfxX9_costsInto_2]
    obtain ⟨rfl, j, rfl, hj, hm, f1, f2⟩ := hc
    have e120 : I1 120 0 = t (13 + b) := by
      rw [f1 120 (by decide) (by omega)]
      exact H.2.2.1.1
    have e3 : I1 3 = I 3 := f1 3 (by decide) (by omega)
    have HI : ctxU I1 t b := ctxU_of (fun i hi => f1 i (by omega) (by omega)) H
    have hB1 : stB (I1 3) := by
      rw [e3]
      exact hB
    have fin : ∀ _ : Unit, t (13 + b) ≤ j → Q (.inl none) I1 := fun _ z => hQ I1 f1 (fun h h0 h1 => f2 h h0 (by omega))
    clear hQ
    simp only [false_and, and_false, true_or, or_true, false_or, or_false, true_and, and_true, true_implies, false_implies, implies_true, not_true_eq_false, not_false_eq_true, and_self, List.length_cons, List.length_nil, mNoCut_, mCat_n, mCat_I, mCat_L, mCat_R, mIsL_n, mIsL_I, mIsL_R, mIsL_L, Nat.reduceAdd, Nat.reduceSub, Nat.reduceLeDiff, Nat.reduceLT, Nat.reduceEqDiff, Nat.zero_le, Int.reduceEq, Int.reduceLT, Int.reduceLE, Int.reduceNeg, Int.reduceAdd, if_true, if_false, reduceIte, reduceCtorEq, Bool.false_eq_true, ne_eq, qCmp_0, qCmp_1, qCmp_2, qCmp_3, qCmp_4, qCmp_5, ib_0, ib_1, ib_2, lb_0, lb_1, lb_2, dv_0, dv_1, wq_ic, wq_ld_i, wq_ld_a, wq_st_i, wq_iinc, wq_icmp, wq_goto, wq_get, mGet_0, mGet_1, mGet_2, mGet_3, wq_astI, wq_astL, wq_ret0, wq_ret1, wq_ret2, wq_ret3, wq_ret4, mrg_0_, stI3, ldI3, ldR0, fk_9_2, fk_0_0, ldR1, wq_callV3_0, ldR2, fk_9_8, wqinc3, mPut_s, mPut_I0, mPut_R0, mPut_L0, mPut_I1, mPut_R1, mPut_L1, mGo_n, sfxX9_costsInto_2, cutX9_costsInto_2, sfxX9_costsInto_32, cutX9_costsInto_32, wq_cut, mGo_c, mMask_t, mMask_f, mMask_n, kX9_costsInto_32, kX9_costsInto_2, kX9_costsInto_0, sk_120, al_120, sk_130, al_130, rf_130_2, SX9_costsInto_0, shqRIR_, spX9_weigh, mrg, mrl, mSet_ap, ncast, Option.some.injEq, k1, k2, k3, e120, fr_130, Option.getD_some]
    refine ⟨⟨⟨by omega, by omega⟩, by omega, by omega⟩, fun z => fin () z, fun z => ⟨Or.inl rfl, hB1, t, b, HI, ⟨by omega, by omega⟩, fun J q3 q4 q5 q6 q7 q8 => ⟨⟨by omega, by omega⟩, 8 - (j + 1), by omega, j + 1, rfl, by omega, rfl, fun i q1 q2 => ?_, fun h h0 h1 => ?_⟩⟩⟩
    · rw [set_ne q2, fr_ne (by omega)]
      exact f1 i q1 q2
    · by_cases q : h = j
      · rw [if_pos q, q8, e3, q]
      · rw [if_neg q, fr_ne (by omega)]
        exact f2 h h0 (by omega)
  · show mWp _ _ _ _ _ _ kX9_costsInto_0 [some (mR (some 130)), some (mR (some 3)), some (mR (some a)), none] [] I
    simp only [false_and, and_false, true_or, or_true, false_or, or_false, true_and, and_true, true_implies, false_implies, implies_true, not_true_eq_false, not_false_eq_true, and_self, List.length_cons, List.length_nil, mNoCut_, mCat_n, mCat_I, mCat_L, mCat_R, mIsL_n, mIsL_I, mIsL_R, mIsL_L, Nat.reduceAdd, Nat.reduceSub, Nat.reduceLeDiff, Nat.reduceLT, Nat.reduceEqDiff, Nat.zero_le, Int.reduceEq, Int.reduceLT, Int.reduceLE, Int.reduceNeg, Int.reduceAdd, if_true, if_false, reduceIte, reduceCtorEq, Bool.false_eq_true, ne_eq, qCmp_0, qCmp_1, qCmp_2, qCmp_3, qCmp_4, qCmp_5, ib_0, ib_1, ib_2, lb_0, lb_1, lb_2, dv_0, dv_1, wq_ic, wq_ld_i, wq_ld_a, wq_st_i, wq_iinc, wq_icmp, wq_goto, wq_get, mGet_0, mGet_1, mGet_2, mGet_3, wq_astI, wq_astL, wq_ret0, wq_ret1, wq_ret2, wq_ret3, wq_ret4, mrg_0_, stI3, ldI3, ldR0, fk_9_2, fk_0_0, ldR1, wq_callV3_0, ldR2, fk_9_8, wqinc3, mPut_s, mPut_I0, mPut_R0, mPut_L0, mPut_I1, mPut_R1, mPut_L1, mGo_n, sfxX9_costsInto_2, cutX9_costsInto_2, sfxX9_costsInto_32, cutX9_costsInto_32, wq_cut, mGo_c, mMask_t, mMask_f, mMask_n, kX9_costsInto_32, kX9_costsInto_2, kX9_costsInto_0, sk_120, al_120, sk_130, al_130, rf_130_2, SX9_costsInto_0, shqRIR_, spX9_weigh, mrg, mrl, mSet_ap, ncast, Option.some.injEq]
    exact ⟨8, 0, rfl, by omega, rfl, fun h h0 h1 => by omega⟩
theorem ctrX9_costsInto {l : Launch} (hst : l.stackTraces = false) (hT : mTxM l) : mCtr l calX9_costsInto spX9_costsInto :=
  mMet (T := TX9_costsInto) (S := SX9_costsInto) hst hT cutX9_costsInto (by decide) okX9_costsInto ⟨_, _, rfl, rfl⟩ trivial (fun t bs h => by rcases cutsX9_costsInto h with ⟨-, rfl⟩ <;> rfl) (fun a => match a with
    | 0 => ctrX9_weigh hst hT
    | _ + 1 => mCtr_no) vcX9_costsInto

theorem restIn_cong {A B A' B' : Int → Int} {n : Nat} {h : Int} (hc : ∀ g : Int, 0 ≤ g → g < n → A g = A' g ∧ B g = B' g) (h0 : 0 ≤ h ∧ h < n) (p : Int × Int × Int) : ∀ k : Nat, (k : Int) ≤ h → restIn A B n h k p = restIn A' B' n h k p
  | 0, _ => rfl
  | k + 1, hk => by
    simp only [restIn]
    rw [restIn_cong hc h0 p k (by omega), tryT_cong hc, (hc k (by omega) (by omega)).1, (hc k (by omega) (by omega)).2, (hc h h0.1 h0.2).1, (hc h h0.1 h0.2).2]
theorem restOut_cong {A B A' B' : Int → Int} {n : Nat} (hc : ∀ g : Int, 0 ≤ g → g < n → A g = A' g ∧ B g = B' g) : ∀ h : Nat, h ≤ n → restOut A B n h = restOut A' B' n h
  | 0, _ => by
    simp only [restOut]
    rw [tryT_cong hc, peakN_cong 0 1 n hc]
  | h + 1, hh => by
    simp only [restOut]
    rw [restOut_cong hc h (by omega)]
    exact restIn_cong hc ⟨by omega, by omega⟩ _ h (by omega)
end SPC12
