section SPC6
theorem sumS_eq : True := trivial
def sumS (t s : Int → Int) (b : Int) : Nat → Int
  | 0 => 0
  | n + 1 => sumS t s b n + rawT t b n 3 * coS t s b n
def mostS (t s : Int → Int) (b : Int) : Nat → Int
  | 0 => 0
  | n + 1 => if n = 0 then coS t s b n else max (mostS t s b n) (coS t s b n)
theorem sumN_S {t : Int → Int} (H : WFt t) (s : Int → Int) {b : Int} (hb : 0 ≤ b ∧ b < 6) : ∀ n : Nat, n ≤ 8 → sumN (stR t s) b n = sumS t s b n
  | 0, _ => rfl
  | n + 1, hn => by
    simp only [sumN, sumS]
    rw [sumN_S H s hb n (by omega), rawT_stR t s hb ⟨by omega, by omega⟩ (by omega), coS_eq H s hb ⟨by omega, by omega⟩]
theorem mostN_S {t : Int → Int} (H : WFt t) (s : Int → Int) {b : Int} (hb : 0 ≤ b ∧ b < 6) : ∀ n : Nat, n ≤ 8 → mostN (stR t s) b n = mostS t s b n
  | 0, _ => rfl
  | n + 1, hn => by
    simp only [mostN, mostS]
    rw [mostN_S H s hb n (by omega), coS_eq H s hb ⟨by omega, by omega⟩]
    by_cases z : n = 0
    · rw [if_pos (Or.inl z), if_pos z]
    · rw [if_neg z]
      by_cases z2 : coS t s b n > mostS t s b n
      · rw [if_pos (Or.inr z2)]
        omega
      · rw [if_neg (fun w => w.elim z z2)]
        omega
theorem meanT_S {t : Int → Int} (H : WFt t) (s : Int → Int) {b : Int} (hb : 0 ≤ b ∧ b < 6) : meanT (stR t s) b = (100 - shareT t) * sumS t s b (t (13 + b)).toNat + shareT t * mostS t s b (t (13 + b)).toNat * allT t b := by
  have hn := H.2.1 b hb.1 hb.2
  unfold meanT
  rw [hits_stR t s hb, sumN_S H s hb _ (by omega), mostN_S H s hb _ (by omega), allT_stR H s hb]
  have e : shareT (stR t s) = shareT t := by
    unfold shareT
    rw [stR_out t s (q := 6) (by omega), stR_out t s (q := 7) (by omega)]
  rw [e]
theorem coS_bd {t : Int → Int} (H : WFt t) {s : Int → Int} (hs : stB s) {b h : Int} (hb : 0 ≤ b ∧ b < 6) (hh : 0 ≤ h ∧ h < 8) : -9900 ≤ coS t s b h ∧ coS t s b h ≤ 600 := by
  rw [← coS_eq H s hb hh]
  exact costT_bd (H.sts hs) hb hh
theorem mostS_bd {t : Int → Int} (H : WFt t) {s : Int → Int} (hs : stB s) {b : Int} (hb : 0 ≤ b ∧ b < 6) (n : Nat) (hn : n ≤ 8) : -9900 ≤ mostS t s b n ∧ mostS t s b n ≤ 600 := by
  rw [← mostN_S H s hb n hn]
  exact mostN_bd (H.sts hs) hb n hn
theorem sumS_bd {t : Int → Int} (H : WFt t) {s : Int → Int} (hs : stB s) {b : Int} (hb : 0 ≤ b ∧ b < 6) (n : Nat) (hn : n ≤ 8) : -(980100 * n) ≤ sumS t s b n ∧ sumS t s b n ≤ 980100 * n := by
  rw [← sumN_S H s hb n hn]
  exact sumN_bd (H.sts hs) hb n hn
theorem fr_ne {lo hi : Nat} {J I : mM} {i : Nat} (h : ¬ (lo ≤ i ∧ i ≤ hi)) : fr lo hi J I i = I i := if_neg h
theorem fr_fr (lo hi : Nat) (J J' I : mM) : fr lo hi J' (fr lo hi J I) = fr lo hi J' I := by
  funext i
  simp only [fr]
  split <;> rfl
theorem fr_130 (J I : mM) : fr 130 130 J I 130 = J 130 := if_pos ⟨Nat.le_refl _, Nat.le_refl _⟩
theorem fr_self (lo hi : Nat) (I : mM) : fr lo hi I I = I := by
  funext i
  simp only [fr]
  split <;> rfl
theorem stA.fr {a : Nat} (h : stA a) (J I : mM) : fr 130 130 J I a = I a := fr_ne (by omega)
def spX9_meanTop : mSp := shRR (fun _ i s I Q => i = some 130 ∧ s = some (s.getD 0) ∧ stA (s.getD 0) ∧ stB (I (s.getD 0)) ∧ ∃ t b, ctxU I t b ∧ ∀ J : mM, Q (.inl (some (mL (meanT (stR t (I (s.getD 0))) b)))) (fr 130 130 J I))
def SX9_meanTop : Nat → mSp := fun a => match a with
  | 0 => spX9_weigh
  | 1 => spX0_blend
  | _ => fun _ _ _ _ => False
theorem SX9_meanTop_0 : SX9_meanTop 0 = spX9_weigh := Eq.trans rfl rfl
theorem SX9_meanTop_1 : SX9_meanTop 1 = spX0_blend := Eq.trans rfl rfl
theorem cutsX9_meanTop {t : Nat} {bs : List Bool} (h : cutX9_meanTop t = some bs) : (t = 8 ∧ bs = [true, true, true, false, true, true]) := by
  unfold cutX9_meanTop at h
  simp only [mLk] at h
  by_cases h0 : 8 = t
  · subst h0
    simp at h
    exact ⟨rfl, h.symm⟩
  rw [if_neg h0] at h
  cases h
set_option maxRecDepth 100000 in
set_option maxHeartbeats 1000000 in
theorem vcX9_meanTop (fl : Nat → Bool) (avs : List mV) (I : mM) (Q : mO → mM → Prop) (hsp : spX9_meanTop fl avs I Q) : mVC SX9_meanTop fl Q kX9_meanTop cutX9_meanTop 6 avs I := by
  obtain ⟨i, s, rfl, h0⟩ := shRR_inv hsp
  obtain ⟨rfl, hs, hA, hB, t, b, H, h⟩ := h0
  obtain ⟨a, rfl⟩ : ∃ a, s = some a := ⟨_, hs⟩
  simp only [Option.getD_some] at *
  have k1 := hA.sk
  have k2 := hA.sn
  have k3 := hA.al fl
  have k5 := hA.ro
  have k6 := hA.fr
  have hn := H.1.2.1 b H.2.1.1 H.2.1.2
  have e0 := H.2.2.1.1
  have e1 := H.2.2.1.2.1
  have e2 := H.2.2.1.2.2.1
  refine ⟨rfl, (fun m pc lv st I1 => st = [] ∧ ∃ (j : Nat) (J : mM), I1 = fr 130 130 J I ∧ lv = [some (mR (some 130)), some (mR (some a)), some (mL (sumS t (I a) b j)), none, some (mI (mostS t (I a) b j)), some (mI j)] ∧ j ≤ (t (13 + b)).toNat ∧ m = 8 - j), ?_, ?_⟩
  · intro n t bs hbs lv st I1 hc
    rcases cutsX9_meanTop hbs with ⟨rfl, rfl⟩
    rw [sfxX9_meanTop_8]
    obtain ⟨rfl, j, J, rfl, rfl, hj, hm⟩ := hc
    have e20 : fr 130 130 J I 120 = I 120 := fr_ne (by decide)
    have mb := mostS_bd H.1 hB H.2.1 j (by omega)
    have ab := allT_bd H.1 H.2.1
    have sh : 0 ≤ shareT t ∧ shareT t ≤ 100 := by
      have h7 := H.1.1.2.2.2.2.2.2.2.1
      unfold shareT
      split <;> omega
    rcases Nat.lt_or_ge j (t (13 + b)).toNat with z | z
    · have lh := H.lh (h := j) (by omega) (by omega)
      have e24 : I 124 j = rawT t b j 3 := lh.2.2.2.1
      have fb := forT_bd H.1 H.2.1 (h := j) ⟨by omega, by omega⟩
      have cb := coS_bd H.1 hB H.2.1 (h := j) ⟨by omega, by omega⟩
      have sN : sumS t (I a) b (j + 1) = sumS t (I a) b j + rawT t b j 3 * coS t (I a) b j := rfl
      have mN : mostS t (I a) b (j + 1) = if j = 0 then coS t (I a) b j else max (mostS t (I a) b j) (coS t (I a) b j) := rfl
      have f24 : ∀ J' : mM, fr 130 130 J' (fr 130 130 J I) 124 = I 124 := fun J' => by rw [fr_ne (by decide), fr_ne (by decide)]
      clear h
      simp only [false_and, and_false, true_or, or_true, false_or, or_false, true_and, and_true, true_implies, false_implies, implies_true, not_true_eq_false, not_false_eq_true, and_self, List.length_cons, List.length_nil, mNoCut_, mCat_n, mCat_I, mCat_L, mCat_R, mIsL_n, mIsL_I, mIsL_R, mIsL_L, Nat.reduceAdd, Nat.reduceSub, Nat.reduceLeDiff, Nat.reduceLT, Nat.reduceEqDiff, Nat.zero_le, Int.reduceEq, Int.reduceLT, Int.reduceLE, Int.reduceNeg, Int.reduceAdd, if_true, if_false, reduceIte, reduceCtorEq, Bool.false_eq_true, ne_eq, qCmp_0, qCmp_1, qCmp_2, qCmp_3, qCmp_4, qCmp_5, ib_0, ib_1, ib_2, lb_0, lb_1, lb_2, dv_0, dv_1, wq_ic, wq_lc, wq_ld_i, wq_ld_l, wq_ld_a, wq_st_i, wq_st_l, wq_iinc, wq_lb, wq_i2l, wq_icmp, wq_if, wq_goto, wq_get, mGet_0, mGet_1, mGet_2, mGet_3, wq_ald, wq_ret0, wq_ret1, wq_ret2, wq_ret3, wq_ret4, wq_max, wq_min, wq_abs, wq_lmax, stL2, mrg_0_, stI4, stI5, ldI5, ldR0, fk_9_2, fk_0_0, ldR1, wq_callV3_0, ldL2, fk_0_6, fk_9_8, ldI4, wqinc5, mPut_s, mPut_I0, mPut_R0, mPut_L0, mPut_I1, mPut_R1, mPut_L1, mGo_n, sfxX9_meanTop_8, cutX9_meanTop_8, sfxX9_meanTop_59, cutX9_meanTop_59, sfxX9_meanTop_68, cutX9_meanTop_68, sfxX9_meanTop_76, cutX9_meanTop_76, wq_cut, mGo_c, mMask_t, mMask_f, mMask_n, kX9_meanTop_76, kX9_meanTop_68, kX9_meanTop_59, kX9_meanTop_8, kX9_meanTop_0, sk_120, al_120, rf_120_6, sk_124, al_124, sn_124, sk_130, al_130, rf_130_2, ald_n, ro0_n, al_ro, SX9_meanTop_0, SX9_meanTop_1, shqRIR_, shqRLL_, spX9_weigh, spX0_blend, mrg, mrl, mSet_ap, ncast, Option.some.injEq, k1, k2, k3, k5, k6, Option.getD_some, e20, e0, ctxU_fr, fr_fr, fr_130, fr_ne]
      (try simp only [mrg, mrl] at *) <;> repeat' (first | (with_reducible assumption) | (with_reducible apply And.intro) | intro _ | (refine Exists.intro t (Exists.intro b ?_)) | (refine Exists.intro t ?_) | fail)
      all_goals (try simp only [e24] at *)
      all_goals first | omega | assumption | exact hB _ (by assumption) (by assumption) | exact (hB _ (by assumption) (by assumption)).1 | exact (hB _ (by assumption) (by assumption)).2 | (rename_i J2 q3 q4 q5 q6 q7 q8 z0; exact ⟨8 - (j + 1), by omega, j + 1, J2, rfl, by rw [q8, sN, mN, if_neg (by omega)]; rfl, by omega, rfl⟩) | (rename_i J2 q3 q4 q5 q6 q7 q8 z0; exact ⟨8 - (j + 1), by omega, j + 1, J2, rfl, by rw [q8, sN, mN, if_pos (by omega)]; rfl, by omega, rfl⟩) | skip
    · have ej : j = (t (13 + b)).toNat := by omega
      have hm2 := meanT_S H.1 (I a) H.2.1
      rw [← ej] at hm2
      have h2 := h J
      rw [hm2] at h2
      clear h
      simp only [false_and, and_false, true_or, or_true, false_or, or_false, true_and, and_true, true_implies, false_implies, implies_true, not_true_eq_false, not_false_eq_true, and_self, List.length_cons, List.length_nil, mNoCut_, mCat_n, mCat_I, mCat_L, mCat_R, mIsL_n, mIsL_I, mIsL_R, mIsL_L, Nat.reduceAdd, Nat.reduceSub, Nat.reduceLeDiff, Nat.reduceLT, Nat.reduceEqDiff, Nat.zero_le, Int.reduceEq, Int.reduceLT, Int.reduceLE, Int.reduceNeg, Int.reduceAdd, if_true, if_false, reduceIte, reduceCtorEq, Bool.false_eq_true, ne_eq, qCmp_0, qCmp_1, qCmp_2, qCmp_3, qCmp_4, qCmp_5, ib_0, ib_1, ib_2, lb_0, lb_1, lb_2, dv_0, dv_1, wq_ic, wq_lc, wq_ld_i, wq_ld_l, wq_ld_a, wq_st_i, wq_st_l, wq_iinc, wq_lb, wq_i2l, wq_icmp, wq_if, wq_goto, wq_get, mGet_0, mGet_1, mGet_2, mGet_3, wq_ald, wq_ret0, wq_ret1, wq_ret2, wq_ret3, wq_ret4, wq_max, wq_min, wq_abs, wq_lmax, stL2, mrg_0_, stI4, stI5, ldI5, ldR0, fk_9_2, fk_0_0, ldR1, wq_callV3_0, ldL2, fk_0_6, fk_9_8, ldI4, wqinc5, mPut_s, mPut_I0, mPut_R0, mPut_L0, mPut_I1, mPut_R1, mPut_L1, mGo_n, sfxX9_meanTop_8, cutX9_meanTop_8, sfxX9_meanTop_59, cutX9_meanTop_59, sfxX9_meanTop_68, cutX9_meanTop_68, sfxX9_meanTop_76, cutX9_meanTop_76, wq_cut, mGo_c, mMask_t, mMask_f, mMask_n, kX9_meanTop_76, kX9_meanTop_68, kX9_meanTop_59, kX9_meanTop_8, kX9_meanTop_0, sk_120, al_120, rf_120_6, sk_124, al_124, sn_124, sk_130, al_130, rf_130_2, ald_n, ro0_n, al_ro, SX9_meanTop_0, SX9_meanTop_1, shqRIR_, shqRLL_, spX9_weigh, spX0_blend, mrg, mrl, mSet_ap, ncast, Option.some.injEq, k1, k2, k3, k5, k6, Option.getD_some, e20, e0, e1, e2, fr_ne]
      (try simp only [mrg, mrl] at *) <;> repeat' (first | (with_reducible assumption) | (with_reducible apply And.intro) | intro _ | (refine Exists.intro t (Exists.intro b ?_)) | (refine Exists.intro t ?_) | fail)
      all_goals first | omega | assumption | exact h2 | skip
  · show mWp _ _ _ _ _ _ kX9_meanTop_0 [some (mR (some 130)), some (mR (some a)), none, none, none, none] [] I
    simp only [false_and, and_false, true_or, or_true, false_or, or_false, true_and, and_true, true_implies, false_implies, implies_true, not_true_eq_false, not_false_eq_true, and_self, List.length_cons, List.length_nil, mNoCut_, mCat_n, mCat_I, mCat_L, mCat_R, mIsL_n, mIsL_I, mIsL_R, mIsL_L, Nat.reduceAdd, Nat.reduceSub, Nat.reduceLeDiff, Nat.reduceLT, Nat.reduceEqDiff, Nat.zero_le, Int.reduceEq, Int.reduceLT, Int.reduceLE, Int.reduceNeg, Int.reduceAdd, if_true, if_false, reduceIte, reduceCtorEq, Bool.false_eq_true, ne_eq, qCmp_0, qCmp_1, qCmp_2, qCmp_3, qCmp_4, qCmp_5, ib_0, ib_1, ib_2, lb_0, lb_1, lb_2, dv_0, dv_1, wq_ic, wq_lc, wq_ld_i, wq_ld_l, wq_ld_a, wq_st_i, wq_st_l, wq_iinc, wq_lb, wq_i2l, wq_icmp, wq_if, wq_goto, wq_get, mGet_0, mGet_1, mGet_2, mGet_3, wq_ald, wq_ret0, wq_ret1, wq_ret2, wq_ret3, wq_ret4, wq_max, wq_min, wq_abs, wq_lmax, stL2, mrg_0_, stI4, stI5, ldI5, ldR0, fk_9_2, fk_0_0, ldR1, wq_callV3_0, ldL2, fk_0_6, fk_9_8, ldI4, wqinc5, mPut_s, mPut_I0, mPut_R0, mPut_L0, mPut_I1, mPut_R1, mPut_L1, mGo_n, sfxX9_meanTop_8, cutX9_meanTop_8, sfxX9_meanTop_59, cutX9_meanTop_59, sfxX9_meanTop_68, cutX9_meanTop_68, sfxX9_meanTop_76, cutX9_meanTop_76, wq_cut, mGo_c, mMask_t, mMask_f, mMask_n, kX9_meanTop_76, kX9_meanTop_68, kX9_meanTop_59, kX9_meanTop_8, kX9_meanTop_0, sk_120, al_120, rf_120_6, sk_124, al_124, sn_124, sk_130, al_130, rf_130_2, ald_n, ro0_n, al_ro, SX9_meanTop_0, SX9_meanTop_1, shqRIR_, shqRLL_, spX9_weigh, spX0_blend, mrg, mrl, mSet_ap, ncast, Option.some.injEq]
    exact ⟨8, 0, I, (fr_self _ _ _).symm, rfl, by omega, rfl⟩
theorem ctrX9_meanTop {l : Launch} (hst : l.stackTraces = false) (hT : mTxM l) : mCtr l calX9_meanTop spX9_meanTop :=
  mMet (T := TX9_meanTop) (S := SX9_meanTop) hst hT cutX9_meanTop (by decide) okX9_meanTop ⟨_, _, rfl, rfl⟩ trivial (fun t bs h => by rcases cutsX9_meanTop h with ⟨-, rfl⟩ <;> rfl) (fun a => match a with
    | 0 => ctrX9_weigh hst hT
    | 1 => ctrX0_blend hst hT
    | _ + 2 => mCtr_no) vcX9_meanTop

end SPC6
