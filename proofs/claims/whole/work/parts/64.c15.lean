section SPC15
theorem nearN_cong {s s' : Int → Int} (c : Int) : ∀ n : Nat, (∀ f : Int, 0 ≤ f → f < n → s f = s' f) → nearN s c n = nearN s' c n
  | 0, _ => rfl
  | n + 1, h => by
    have ih := nearN_cong c n (fun f f0 f1 => h f f0 (by omega))
    have nb := nearN_bd s' c n
    simp only [nearN]
    rw [ih, h n (by omega) (by omega)]
    by_cases z : nearN s' c n = -1
    · rw [z]
      simp
    · rw [h (nearN s' c n) (by omega) (by omega)]
theorem stT_put (t : Int → Int) (f c : Int) : ∀ g : Int, stT (putT t f c) g = if g = f then c else stT t g := fun g => by
  unfold stT putT
  by_cases q : g = f
  · rw [if_pos (by omega), if_pos q]
  · rw [if_neg (by omega), if_neg q]
def spX10_chaseAfter : mSp := shRI (fun _ i h I Q => i = some 0 ∧ ∃ t b, ctxU I t b ∧ (∀ f : Int, 0 ≤ f → f < 9 → I 20 f = stT t f) ∧ hitB t b h ∧ ∀ I' : mM, (∀ i, i ≠ 20 → I' i = I i) → (∀ f : Int, 0 ≤ f → f < 9 → I' 20 f = stT (chaseT t b h) f) → Q (.inl none) I')
def SX10_chaseAfter : Nat → mSp := fun a => match a with
  | 0 => spX0_cellAt
  | 1 => spX6_nearestTo
  | 2 => spX9_verdict
  | _ => fun _ _ _ _ => False
theorem SX10_chaseAfter_0 : SX10_chaseAfter 0 = spX0_cellAt := Eq.trans rfl rfl
theorem SX10_chaseAfter_1 : SX10_chaseAfter 1 = spX6_nearestTo := Eq.trans rfl rfl
theorem SX10_chaseAfter_2 : SX10_chaseAfter 2 = spX9_verdict := Eq.trans rfl rfl
set_option maxRecDepth 100000 in
set_option maxHeartbeats 1000000 in
theorem vcX10_chaseAfter (fl : Nat → Bool) (avs : List mV) (I : mM) (Q : mO → mM → Prop) (hsp : spX10_chaseAfter fl avs I Q) : mVC0 SX10_chaseAfter fl Q kX10_chaseAfter 7 avs I := by
  obtain ⟨i, hh, rfl, h0⟩ := shRI_inv hsp
  refine ⟨rfl, ?_⟩
  show mWp _ _ _ _ _ _ kX10_chaseAfter_0 [some (mR i), some (mI hh), none, none, none, none, none] [] I
  obtain ⟨rfl, t, b, H, h20, hh1, h⟩ := h0
  have hB : stB (I 20) := fun g g0 g1 => by
    rw [h20 g g0 g1]
    exact H.1.st g g0 g1
  have h8 := H.h8 hh1.1 hh1.2
  have lh := H.lh hh1.1 hh1.2
  have e5 := lh.2.2.2.2.1
  have st8 := (steps_spec H.1 H.2.1 h8).1
  have cl := cell_in H.1 H.2.1 h8 (k := stepsT t b hh) ⟨by omega, by omega⟩
  have eN : nearN (I 20) (cellT t b hh (stepsT t b hh)) 9 = nearN (stT t) (cellT t b hh (stepsT t b hh)) 9 := nearN_cong _ 9 h20
  have nb := nearN_bd (stT t) (cellT t b hh (stepsT t b hh)) 9
  by_cases s0 : stepsT t b hh = 0
  · have ec : chaseT t b hh = t := by
      unfold chaseT
      rw [if_pos (Or.inl s0)]
    rw [ec] at h
    have h2 := h I (fun _ _ => rfl) h20
    clear h
    simp only [false_and, and_false, true_or, or_true, false_or, or_false, true_and, and_true, true_implies, false_implies, implies_true, not_true_eq_false, not_false_eq_true, and_self, List.length_cons, List.length_nil, mNoCut_, mCat_n, mCat_I, mCat_L, mCat_R, mIsL_n, mIsL_I, mIsL_R, mIsL_L, Nat.reduceAdd, Nat.reduceSub, Nat.reduceLeDiff, Nat.reduceLT, Nat.reduceEqDiff, Nat.zero_le, Int.reduceEq, Int.reduceLT, Int.reduceLE, Int.reduceNeg, Int.reduceAdd, if_true, if_false, reduceIte, reduceCtorEq, Bool.false_eq_true, ne_eq, qCmp_0, qCmp_1, qCmp_2, qCmp_3, qCmp_4, qCmp_5, ib_0, ib_1, ib_2, lb_0, lb_1, lb_2, dv_0, dv_1, wq_ic, wq_ld_i, wq_ld_a, wq_st_i, wq_st_a, wq_icmp, wq_if, wq_get, mGet_0, mGet_1, mGet_2, mGet_3, wq_ald, wq_astI, wq_astL, wq_ret0, wq_ret1, wq_ret2, wq_ret3, wq_ret4, ldR0, fk_10_4, fk_0_7, ldI1, stI2, ldI2, fk_10_0, fk_7_1, fk_6_0, stR3, wq_callV3_0, stI4, ldI4, wq_callV2_0, stI5, ldI5, mrg_m1_, ldR3, stI6, fk_10_5, ldI6, mPut_s, mPut_I0, mPut_R0, mPut_L0, mPut_I1, mPut_R1, mPut_L1, mrg_0_, mGo_n, sfxX10_chaseAfter_15, cutX10_chaseAfter_15, sfxX10_chaseAfter_58, cutX10_chaseAfter_58, sfxX10_chaseAfter_88, cutX10_chaseAfter_88, kX10_chaseAfter_88, kX10_chaseAfter_58, kX10_chaseAfter_15, kX10_chaseAfter_0, sk_120, al_120, rf_120_7, sk_125, al_125, sn_125, sk_0, al_0, rf_0_4, rf_0_0, sk_10, al_10, rf_0_5, sk_130, al_130, sk_12, al_12, rf_12_0, sk_20, al_20, sn_20, rf_10_1, ald_n, ro0_n, al_ro, SX10_chaseAfter_0, SX10_chaseAfter_1, SX10_chaseAfter_2, shqRII_, shqRI_, shqRR_, spX0_cellAt, spX6_nearestTo, spX9_verdict, mrg, mrl, mSet_ap, ncast, Option.some.injEq, e5]
    (try simp only [mrg, mrl] at *) <;> repeat' (first | (with_reducible assumption) | (with_reducible apply And.intro) | intro _)
    all_goals first | omega | exact h2 | skip
  · have e6 := (lh.2.2.2.2.2 (stepsT t b hh) (by omega) (by omega)).1
    generalize hC : cellT t b hh (stepsT t b hh) = C at *
    generalize hY : nearN (stT t) C 9 = Y at *
    by_cases y0 : Y = -1
    · have ec : chaseT t b hh = t := by
        unfold chaseT
        rw [hC, hY, if_pos (Or.inr y0)]
      rw [ec] at h
      have h2 := h I (fun _ _ => rfl) h20
      clear h
      simp only [false_and, and_false, true_or, or_true, false_or, or_false, true_and, and_true, true_implies, false_implies, implies_true, not_true_eq_false, not_false_eq_true, and_self, List.length_cons, List.length_nil, mNoCut_, mCat_n, mCat_I, mCat_L, mCat_R, mIsL_n, mIsL_I, mIsL_R, mIsL_L, Nat.reduceAdd, Nat.reduceSub, Nat.reduceLeDiff, Nat.reduceLT, Nat.reduceEqDiff, Nat.zero_le, Int.reduceEq, Int.reduceLT, Int.reduceLE, Int.reduceNeg, Int.reduceAdd, if_true, if_false, reduceIte, reduceCtorEq, Bool.false_eq_true, ne_eq, qCmp_0, qCmp_1, qCmp_2, qCmp_3, qCmp_4, qCmp_5, ib_0, ib_1, ib_2, lb_0, lb_1, lb_2, dv_0, dv_1, wq_ic, wq_ld_i, wq_ld_a, wq_st_i, wq_st_a, wq_icmp, wq_if, wq_get, mGet_0, mGet_1, mGet_2, mGet_3, wq_ald, wq_astI, wq_astL, wq_ret0, wq_ret1, wq_ret2, wq_ret3, wq_ret4, ldR0, fk_10_4, fk_0_7, ldI1, stI2, ldI2, fk_10_0, fk_7_1, fk_6_0, stR3, wq_callV3_0, stI4, ldI4, wq_callV2_0, stI5, ldI5, mrg_m1_, ldR3, stI6, fk_10_5, ldI6, mPut_s, mPut_I0, mPut_R0, mPut_L0, mPut_I1, mPut_R1, mPut_L1, mrg_0_, mGo_n, sfxX10_chaseAfter_15, cutX10_chaseAfter_15, sfxX10_chaseAfter_58, cutX10_chaseAfter_58, sfxX10_chaseAfter_88, cutX10_chaseAfter_88, kX10_chaseAfter_88, kX10_chaseAfter_58, kX10_chaseAfter_15, kX10_chaseAfter_0, sk_120, al_120, rf_120_7, sk_125, al_125, sn_125, sk_0, al_0, rf_0_4, rf_0_0, sk_10, al_10, rf_0_5, sk_130, al_130, sk_12, al_12, rf_12_0, sk_20, al_20, sn_20, rf_10_1, ald_n, ro0_n, al_ro, SX10_chaseAfter_0, SX10_chaseAfter_1, SX10_chaseAfter_2, shqRII_, shqRI_, shqRR_, spX0_cellAt, spX6_nearestTo, spX9_verdict, mrg, mrl, mSet_ap, ncast, Option.some.injEq, e5, e6, eN]
      (try simp only [mrg, mrl] at *) <;> repeat' (first | (with_reducible assumption) | (with_reducible apply And.intro) | intro _)
      all_goals first | omega | exact hB _ (by assumption) (by assumption) | exact (hB _ (by assumption) (by assumption)).1 | exact (hB _ (by assumption) (by assumption)).2 | exact h2 | skip
    · have eu : ∀ f : Int, 0 ≤ f → f < 9 → mSet I 20 Y C 20 f = stT (putT t Y C) f := fun f f0 f1 => by
        rw [stT_put]
        by_cases q : f = Y
        · rw [q, set_eq, if_pos rfl]
        · rw [set_nq q, if_neg q]
          exact h20 f f0 f1
      have rP : stR t (mSet I 20 Y C 20) = putT t Y C := by
        rw [put_as t C ⟨by omega, by omega⟩]
        refine stR_cong _ (fun f f0 f1 => ?_)
        rw [eu f f0 f1, stT_put]
        rfl
      have hB2 : stB (mSet I 20 Y C 20) := fun f f0 f1 => by
        rw [eu f f0 f1, stT_put]
        have := H.1.st f f0 f1
        split <;> omega
      have v := verd_eq (st := mSet I 20 Y C 20) H.1 H.2.2.2.2
      rw [rP] at v
      have g1 := H.2.2.2.2 1 (by omega) (by omega)
      have g4 := H.2.2.2.2 4 (by omega) (by omega)
      have g5 := H.2.2.2.2 5 (by omega) (by omega)
      have h0 := H.1.1
      have n11 : mSet I 20 Y C 11 = I 11 := set_ne (by decide)
      have em : mSet I 20 Y (I 20 Y) = I := set_self I 20 Y
      have hA : ∀ _ : Unit, judgeT (putT t Y C) = -1 → Q (.inl none) (mSet I 20 Y C) := fun _ w => by
        refine h _ (fun i q => set_ne q) (fun f f0 f1 => ?_)
        rw [eu f f0 f1]
        unfold chaseT
        rw [hC, hY, if_neg (fun q => q.elim s0 y0), if_pos w]
      have hN : ∀ _ : Unit, ¬ judgeT (putT t Y C) = -1 → Q (.inl none) I := fun _ w => by
        refine h _ (fun i q => rfl) (fun f f0 f1 => ?_)
        rw [h20 f f0 f1]
        unfold chaseT
        rw [hC, hY, if_neg (fun q => q.elim s0 y0), if_neg w]
      have jb := judgeT_bd (putT t Y C)
      clear h
      simp only [false_and, and_false, true_or, or_true, false_or, or_false, true_and, and_true, true_implies, false_implies, implies_true, not_true_eq_false, not_false_eq_true, and_self, List.length_cons, List.length_nil, mNoCut_, mCat_n, mCat_I, mCat_L, mCat_R, mIsL_n, mIsL_I, mIsL_R, mIsL_L, Nat.reduceAdd, Nat.reduceSub, Nat.reduceLeDiff, Nat.reduceLT, Nat.reduceEqDiff, Nat.zero_le, Int.reduceEq, Int.reduceLT, Int.reduceLE, Int.reduceNeg, Int.reduceAdd, if_true, if_false, reduceIte, reduceCtorEq, Bool.false_eq_true, ne_eq, qCmp_0, qCmp_1, qCmp_2, qCmp_3, qCmp_4, qCmp_5, ib_0, ib_1, ib_2, lb_0, lb_1, lb_2, dv_0, dv_1, wq_ic, wq_ld_i, wq_ld_a, wq_st_i, wq_st_a, wq_icmp, wq_if, wq_get, mGet_0, mGet_1, mGet_2, mGet_3, wq_ald, wq_astI, wq_astL, wq_ret0, wq_ret1, wq_ret2, wq_ret3, wq_ret4, ldR0, fk_10_4, fk_0_7, ldI1, stI2, ldI2, fk_10_0, fk_7_1, fk_6_0, stR3, wq_callV3_0, stI4, ldI4, wq_callV2_0, stI5, ldI5, mrg_m1_, ldR3, stI6, fk_10_5, ldI6, mPut_s, mPut_I0, mPut_R0, mPut_L0, mPut_I1, mPut_R1, mPut_L1, mrg_0_, mGo_n, sfxX10_chaseAfter_15, cutX10_chaseAfter_15, sfxX10_chaseAfter_58, cutX10_chaseAfter_58, sfxX10_chaseAfter_88, cutX10_chaseAfter_88, kX10_chaseAfter_88, kX10_chaseAfter_58, kX10_chaseAfter_15, kX10_chaseAfter_0, sk_120, al_120, rf_120_7, sk_125, al_125, sn_125, sk_0, al_0, rf_0_4, rf_0_0, sk_10, al_10, rf_0_5, sk_130, al_130, sk_12, al_12, rf_12_0, sk_20, al_20, sn_20, rf_10_1, ald_n, ro0_n, al_ro, SX10_chaseAfter_0, SX10_chaseAfter_1, SX10_chaseAfter_2, shqRII_, shqRI_, shqRR_, spX0_cellAt, spX6_nearestTo, spX9_verdict, mrg, mrl, mSet_ap, ncast, Option.some.injEq, e5, e6, eN, set_over1, em, n11, v, Option.getD_some]
      (try simp only [mrg, mrl] at *) <;> repeat' (first | (with_reducible assumption) | (with_reducible apply And.intro) | intro _)
      all_goals first | omega | exact Or.inr (Or.inl rfl) | exact hB _ (by assumption) (by assumption) | exact (hB _ (by assumption) (by assumption)).1 | exact (hB _ (by assumption) (by assumption)).2 | exact hB2 _ (by assumption) (by assumption) | exact (hB2 _ (by assumption) (by assumption)).1 | exact (hB2 _ (by assumption) (by assumption)).2 | exact hA () (by omega) | exact hN () (by omega) | skip
theorem ctrX10_chaseAfter {l : Launch} (hst : l.stackTraces = false) (hT : mTxM l) : mCtr l calX10_chaseAfter spX10_chaseAfter :=
  mMet0 (T := TX10_chaseAfter) (S := SX10_chaseAfter) hst hT (by decide) okX10_chaseAfter ⟨_, _, rfl, rfl⟩ (fun a => match a with
    | 0 => ctrX0_cellAt hst hT
    | 1 => ctrX6_nearestTo hst hT
    | 2 => ctrX9_verdict hst hT
    | _ + 3 => mCtr_no) vcX10_chaseAfter

/-- what becomes of the row, of the drawn number and of the sum by one HIT -/
def hitS (b h : Int) (t : Int → Int) (x a : Int) : (Int → Int) × Int × Int :=
  if 0 < caughtT (addR t 12 1) b h ∧ ib 8 (nx x) 16 % 100 < caughtT (addR t 12 1) b h then (addR (addR t 12 1) 10 1, nx x, a)
  else if runsT (addR t 12 1) b h < 4 then (addR (addR t 12 1) 9 (runsT (addR t 12 1) b h), if 0 < caughtT (addR t 12 1) b h then nx x else x, a + runsT (addR t 12 1) b h)
  else (if t 8 = 1 then chaseT (addR (addR (addR t 12 1) 9 (runsT (addR t 12 1) b h)) 11 1) b h else addR (addR (addR t 12 1) 9 (runsT (addR t 12 1) b h)) 11 1, if 0 < caughtT (addR t 12 1) b h then nx x else x, a + runsT (addR t 12 1) b h)
theorem playS_hit (b : Int) (t : Int → Int) (x a : Int) : playS b (t, x, a) = hitS b (bowledT t b x).1 t (bowledT t b x).2 a := rfl
theorem agr_add (t : Int → Int) {q : Int} (hq : 9 ≤ q ∧ q ≤ 12) (v : Int) : agr t (addR t q v) := fun p h1 _ => if_neg (by omega)
theorem agr_trans {t u w : Int → Int} (A : agr t u) (B : agr u w) : agr t w := fun q h1 h2 => (B q h1 h2).trans (A q h1 h2)
theorem stT_add (t : Int → Int) {q : Int} (hq : 9 ≤ q ∧ q ≤ 12) (v : Int) : ∀ f : Int, 0 ≤ f → f < 9 → stT (addR t q v) f = stT t f := fun f f0 f1 => if_neg (by omega)
theorem chase_agr {t : Int → Int} {b h : Int} : agr t (chaseT t b h) := fun q h1 h2 => by
  have nb := nearN_bd (stT t) (cellT t b h (stepsT t b h)) 9
  unfold chaseT
  split
  · rfl
  · split
    · unfold putT
      rw [if_neg (by omega)]
    · rfl
theorem hitS_agr (b h : Int) (t : Int → Int) (x a : Int) : agr t (hitS b h t x a).1 := by
  have A1 := agr_add t (q := 12) (by omega) 1
  unfold hitS
  split
  · exact agr_trans A1 (agr_add _ (by omega) _)
  · split
    · exact agr_trans A1 (agr_add _ (by omega) _)
    · split
      · exact agr_trans (agr_trans (agr_trans A1 (agr_add _ (by omega) _)) (agr_add _ (by omega) _)) chase_agr
      · exact agr_trans (agr_trans A1 (agr_add _ (by omega) _)) (agr_add _ (by omega) _)
theorem hitS_sum (b h : Int) (t : Int → Int) (x a : Int) : (hitS b h t x a).1 = (hitS b h t x 0).1 ∧ (hitS b h t x a).2.1 = (hitS b h t x 0).2.1 ∧ (hitS b h t x a).2.2 = a + (hitS b h t x 0).2.2 := by
  unfold hitS
  split
  · exact ⟨rfl, rfl, by dsimp only; omega⟩
  · split
    · exact ⟨rfl, rfl, by dsimp only; omega⟩
    · exact ⟨rfl, rfl, by dsimp only; omega⟩
def nt (M : mM) (m o : Int) : mM := mSet (mSet (mSet (mSet M 27 0 (M 27 0 + m)) 27 1 (M 27 1 + o)) 27 2 (M 27 2 + if 4 ≤ m then 1 else 0)) 27 3 (M 27 3 + 1)
theorem nt_ne (M : mM) (m o : Int) {i : Nat} (h : i ≠ 27) : nt M m o i = M i := by
  unfold nt
  rw [set_ne h, set_ne h, set_ne h, set_ne h]
theorem nt_27 (M : mM) (m o : Int) : nt M m o 27 0 = M 27 0 + m ∧ nt M m o 27 1 = M 27 1 + o ∧ nt M m o 27 2 = M 27 2 + (if 4 ≤ m then 1 else 0) ∧ nt M m o 27 3 = M 27 3 + 1 := by
  simp [nt, mSet]
def spX10_playHit : mSp := shRI (fun _ i h I Q => i = some 0 ∧ ∃ t b, ctxU I t b ∧ (∀ f : Int, 0 ≤ f → f < 9 → I 20 f = stT t f) ∧ I 13 2 = t 8 ∧ (∀ k : Int, 0 ≤ k → k < 4 → I 27 k = t (9 + k)) ∧ hitB t b h ∧ ∀ I' : mM, (∀ i, i ≠ 0 → i ≠ 20 → i ≠ 27 → i ≠ 130 → I' i = I i) → (∀ p : Int, p ≠ 15 → I' 0 p = I 0 p) → I' 0 15 = (hitS b h t (I 0 15) 0).2.1 → (∀ f : Int, 0 ≤ f → f < 9 → I' 20 f = stT (hitS b h t (I 0 15) 0).1 f) → (∀ k : Int, 0 ≤ k → k < 4 → I' 27 k = (hitS b h t (I 0 15) 0).1 (9 + k)) → Q (.inl (some (mI (hitS b h t (I 0 15) 0).2.2))) I')
def SX10_playHit : Nat → mSp := fun a => match a with
  | 0 => spX9_weigh
  | 1 => spX10_draw
  | 2 => spX1_note
  | 3 => spX10_chaseAfter
  | _ => fun _ _ _ _ => False
theorem SX10_playHit_0 : SX10_playHit 0 = spX9_weigh := Eq.trans rfl rfl
theorem SX10_playHit_1 : SX10_playHit 1 = spX10_draw := Eq.trans rfl rfl
theorem SX10_playHit_2 : SX10_playHit 2 = spX1_note := Eq.trans rfl rfl
theorem SX10_playHit_3 : SX10_playHit 3 = spX10_chaseAfter := Eq.trans rfl rfl
set_option maxRecDepth 100000 in
set_option maxHeartbeats 1000000 in
theorem vcX10_playHit (fl : Nat → Bool) (avs : List mV) (I : mM) (Q : mO → mM → Prop) (hsp : spX10_playHit fl avs I Q) : mVC0 SX10_playHit fl Q kX10_playHit 4 avs I := by
  obtain ⟨i, hh, rfl, h0⟩ := shRI_inv hsp
  refine ⟨rfl, ?_⟩
  show mWp _ _ _ _ _ _ kX10_playHit_0 [some (mR i), some (mI hh), none, none] [] I
  obtain ⟨rfl, t, b, H, h20, e13, h27, hh1, h⟩ := h0
  have hB : stB (I 20) := fun g g0 g1 => by
    rw [h20 g g0 g1]
    exact H.1.st g g0 g1
  have h8 := H.h8 hh1.1 hh1.2
  have H12 := H.1.add (q := 12) (by omega) 1
  have A12 := agr_add t (q := 12) (by omega) 1
  have hc := hit_agr H.1 A12 (stT_add t (by omega) 1) H.2.1 h8 H12
  have r20 : stR t (I 20) = t := (stR_cong _ h20).trans (stR_self _)
  have a1 := chS_eq H.1 (I 20) H.2.1 h8
  have a2 := runsS_eq H.1 (I 20) H.2.1 h8
  rw [r20] at a1 a2
  have cb := caughtT_bd H.1 H.2.1 h8
  have rb := runsT_bd H.1 H.2.1 h8
  have hS : ∀ x : Int, hitS b hh t x 0 = if 0 < caughtT t b hh ∧ ib 8 (nx x) 16 % 100 < caughtT t b hh then (addR (addR t 12 1) 10 1, nx x, 0)
      else if runsT t b hh < 4 then (addR (addR t 12 1) 9 (runsT t b hh), if 0 < caughtT t b hh then nx x else x, 0 + runsT t b hh)
      else (if t 8 = 1 then chaseT (addR (addR (addR t 12 1) 9 (runsT t b hh)) 11 1) b hh else addR (addR (addR t 12 1) 9 (runsT t b hh)) 11 1, if 0 < caughtT t b hh then nx x else x, 0 + runsT t b hh) := fun x => by
    unfold hitS
    rw [hc.1, hc.2]
  have u1 := ush16 (nx (I 0 15))
  have t1 : (ib 8 (nx (I 0 15)) 16).tmod 100 = ib 8 (nx (I 0 15)) 16 % 100 := Int.tmod_eq_emod_of_nonneg u1.1
  have m1 := Int.emod_nonneg (ib 8 (nx (I 0 15)) 16) (b := 100) (by omega)
  have m2 := Int.emod_lt_of_pos (ib 8 (nx (I 0 15)) 16) (b := 100) (by omega)
  have hS := hS (I 0 15)
  have k0 := h27 0 (by omega) (by omega)
  have k1 := h27 1 (by omega) (by omega)
  have k2 := h27 2 (by omega) (by omega)
  have k3 := h27 3 (by omega) (by omega)
  have h8b := H.1.1.2.2.2.2.2.2.2.2
  simp only [false_and, and_false, true_or, or_true, false_or, or_false, true_and, and_true, true_implies, false_implies, implies_true, not_true_eq_false, not_false_eq_true, and_self, List.length_cons, List.length_nil, mNoCut_, mCat_n, mCat_I, mCat_L, mCat_R, mIsL_n, mIsL_I, mIsL_R, mIsL_L, Nat.reduceAdd, Nat.reduceSub, Nat.reduceLeDiff, Nat.reduceLT, Nat.reduceEqDiff, Nat.zero_le, Int.reduceEq, Int.reduceLT, Int.reduceLE, Int.reduceNeg, Int.reduceAdd, if_true, if_false, reduceIte, reduceCtorEq, Bool.false_eq_true, ne_eq, qCmp_0, qCmp_1, qCmp_2, qCmp_3, qCmp_4, qCmp_5, ib_0, ib_1, ib_2, lb_0, lb_1, lb_2, dv_0, dv_1, wq_ic, wq_ld_i, wq_ld_a, wq_st_i, wq_idv, wq_icmp, wq_if, wq_goto, wq_get, mGet_0, mGet_1, mGet_2, mGet_3, wq_ret0, wq_ret1, wq_ret2, wq_ret3, wq_ret4, ldR0, fk_10_5, ldI1, fk_10_0, fk_7_1, fk_6_0, wq_callV3_0, fk_9_4, wq_callV1_0, mrg_100_, mrg_1_, mrg_0_, stI2, ldI2, fk_9_7, stI3, fk_7_2, ldI3, mrg_4_, fk_1_2, wq_callV2_0, mPut_s, mPut_I0, mPut_R0, mPut_L0, mPut_I1, mPut_R1, mPut_L1, mGo_n, sfxX10_playHit_49, cutX10_playHit_49, sfxX10_playHit_50, cutX10_playHit_50, sfxX10_playHit_59, cutX10_playHit_59, sfxX10_playHit_66, cutX10_playHit_66, sfxX10_playHit_102, cutX10_playHit_102, kX10_playHit_102, kX10_playHit_66, kX10_playHit_59, kX10_playHit_50, kX10_playHit_49, kX10_playHit_0, sk_13, al_13, sk_12, al_12, rf_12_0, sk_20, al_20, sn_20, sk_10, al_10, rf_10_1, rf_10_2, sk_130, al_130, sk_0, al_0, rf_0_5, rf_0_0, SX10_playHit_0, SX10_playHit_1, SX10_playHit_2, SX10_playHit_3, shqRIR_, shqR_, shqRII_, shqRI_, spX9_weigh, spX10_draw, spX1_note, spX10_chaseAfter, mrg, mrl, mSet_ap, ncast, Option.some.injEq, Option.getD_some]
  refine ⟨Or.inr (Or.inl rfl), hB, t, b, H, hh1, fun J q3 q4 q5 q6 q7 q8 => ?_⟩
  have m4 : fr 130 130 J I 130 4 = caughtT t b hh := by
    rw [fr_130, q4, a1]
  have m7 : fr 130 130 J I 130 7 = runsT t b hh := by
    rw [fr_130, q7, a2]
  have m15 : fr 130 130 J I 0 15 = I 0 15 := by rw [fr_ne (by decide)]
  have m13 : fr 130 130 J I 13 2 = t 8 := by
    rw [fr_ne (by decide)]
    exact e13
  have key : ∀ (_ : Unit) (M : mM) (m o x' : Int) (t' : Int → Int), (∀ i, i ≠ 0 → i ≠ 130 → M i = I i) → (∀ p : Int, p ≠ 15 → M 0 p = I 0 p) → M 0 15 = x' → hitS b hh t (I 0 15) 0 = (t', x', m) → (∀ f : Int, 0 ≤ f → f < 9 → stT t' f = stT t f) → (t' 9 = t 9 + m ∧ t' 10 = t 10 + o ∧ t' 11 = t 11 + (if 4 ≤ m then 1 else 0) ∧ t' 12 = t 12 + 1) → Q (.inl (some (mI m))) (nt M m o) := fun _ M m o x' t' f1 f2 f3 eP f4 f5 => by
    have n := nt_27 M m o
    rw [f1 27 (by decide) (by decide)] at n
    have q := h (nt M m o) (fun i i0 _ i27 i130 => by rw [nt_ne _ _ _ i27]; exact f1 i i0 i130) (fun p hp => by rw [nt_ne _ _ _ (by decide)]; exact f2 p hp)
    rw [eP] at q
    refine q (by rw [nt_ne _ _ _ (by decide)]; exact f3) (fun f f0 f9 => ?_) (fun k k0' k4 => ?_)
    · rw [nt_ne _ _ _ (by decide), f1 20 (by decide) (by decide), h20 f f0 f9]
      exact (f4 f f0 f9).symm
    · have e : k = 0 ∨ k = 1 ∨ k = 2 ∨ k = 3 := by omega
      rcases e with rfl | rfl | rfl | rfl
      · rw [n.1, k0]
        exact f5.1.symm
      · rw [n.2.1, k1]
        exact f5.2.1.symm
      · rw [n.2.2.1, k2]
        exact f5.2.2.1.symm
      · rw [n.2.2.2, k3]
        exact f5.2.2.2.symm
  have A3 := agr_trans (agr_trans A12 (agr_add _ (q := 9) (by omega) (runsT t b hh))) (agr_add _ (q := 11) (by omega) 1)
  have W3 := (H12.add (q := 9) (by omega) (runsT t b hh)).add (q := 11) (by omega) 1
  have hh3 : hitB (addR (addR (addR t 12 1) 9 (runsT t b hh)) 11 1) b hh := ⟨hh1.1, by have e : addR (addR (addR t 12 1) 9 (runsT t b hh)) 11 1 (13 + b) = t (13 + b) := A3 _ (by have := H.2.1; omega) (by have := H.2.1; omega); rw [e]; exact hh1.2⟩
  have s3 : ∀ f : Int, 0 ≤ f → f < 9 → stT (addR (addR (addR t 12 1) 9 (runsT t b hh)) 11 1) f = stT t f := fun f f0 f1 => by
    rw [stT_add _ (by omega) _ f f0 f1, stT_add _ (by omega) _ f f0 f1, stT_add _ (by omega) _ f f0 f1]
  have e9 : addR (addR (addR t 12 1) 9 (runsT t b hh)) 11 1 9 = t 9 + runsT t b hh ∧ addR (addR (addR t 12 1) 9 (runsT t b hh)) 11 1 10 = t 10 + 0 ∧ addR (addR (addR t 12 1) 9 (runsT t b hh)) 11 1 11 = t 11 + 1 ∧ addR (addR (addR t 12 1) 9 (runsT t b hh)) 11 1 12 = t 12 + 1 := by
    simp [addR]
  have f9 : addR (addR t 12 1) 9 (runsT t b hh) 9 = t 9 + runsT t b hh ∧ addR (addR t 12 1) 9 (runsT t b hh) 10 = t 10 + 0 ∧ addR (addR t 12 1) 9 (runsT t b hh) 11 = t 11 + 0 ∧ addR (addR t 12 1) 9 (runsT t b hh) 12 = t 12 + 1 := by
    simp [addR]
  have g9 : addR (addR t 12 1) 10 1 9 = t 9 + 0 ∧ addR (addR t 12 1) 10 1 10 = t 10 + 1 ∧ addR (addR t 12 1) 10 1 11 = t 11 + 0 ∧ addR (addR t 12 1) 10 1 12 = t 12 + 1 := by
    simp [addR]
  have fS : ∀ f : Int, 0 ≤ f → f < 9 → stT (addR (addR t 12 1) 9 (runsT t b hh)) f = stT t f := fun f f0 f1 => by
    rw [stT_add _ (by omega) _ f f0 f1, stT_add _ (by omega) _ f f0 f1]
  have gS : ∀ f : Int, 0 ≤ f → f < 9 → stT (addR (addR t 12 1) 10 1) f = stT t f := fun f f0 f1 => by
    rw [stT_add _ (by omega) _ f f0 f1, stT_add _ (by omega) _ f f0 f1]
  have keyC : ∀ (_ : Unit) (M : mM) (x' : Int), (∀ i, i ≠ 0 → i ≠ 130 → M i = I i) → (∀ p : Int, p ≠ 15 → M 0 p = I 0 p) → M 0 15 = x' → 4 ≤ runsT t b hh → hitS b hh t (I 0 15) 0 = (chaseT (addR (addR (addR t 12 1) 9 (runsT t b hh)) 11 1) b hh, x', runsT t b hh) → ∃ t' b', ctxU (nt M (runsT t b hh) 0) t' b' ∧ (∀ f : Int, 0 ≤ f → f < 9 → M 20 f = stT t' f) ∧ hitB t' b' hh ∧ ∀ I' : mM, (∀ i : Nat, ¬ i = 20 → I' i = nt M (runsT t b hh) 0 i) → (∀ f : Int, 0 ≤ f → f < 9 → I' 20 f = stT (chaseT t' b' hh) f) → Q (.inl (some (mI (runsT t b hh)))) I' := fun _ M x' f1 f2 f3 r4 eP => by
    have n := nt_27 M (runsT t b hh) 0
    rw [f1 27 (by decide) (by decide), if_pos r4, k0, k1, k2, k3] at n
    refine ⟨_, b, ctxU_agr A3 W3 (ctxU_of (fun i hi => by rw [nt_ne _ _ _ (by omega)]; exact f1 i (by omega) (by omega)) H), fun f f0 f1' => ?_, hh3, fun I' c1 c2 => ?_⟩
    · rw [f1 20 (by decide) (by decide), h20 f f0 f1', s3 f f0 f1']
    · have q := h I' (fun i i0 i20 i27 i130 => by rw [c1 i i20, nt_ne _ _ _ i27]; exact f1 i i0 i130) (fun p hp => by rw [c1 0 (by decide), nt_ne _ _ _ (by decide)]; exact f2 p hp)
      rw [eP] at q
      refine q (by rw [c1 0 (by decide), nt_ne _ _ _ (by decide)]; exact f3) c2 (fun k k0' k4 => ?_)
      show I' 27 k = chaseT _ b hh (9 + k)
      rw [c1 27 (by decide), chase_at _ _ _ (by omega)]
      have e : k = 0 ∨ k = 1 ∨ k = 2 ∨ k = 3 := by omega
      rcases e with rfl | rfl | rfl | rfl
      · exact n.1.trans e9.1.symm
      · exact n.2.1.trans e9.2.1.symm
      · exact n.2.2.1.trans e9.2.2.1.symm
      · exact n.2.2.2.trans e9.2.2.2.symm
  have M0 : ∀ i, i ≠ 0 → i ≠ 130 → fr 130 130 J I i = I i := fun i _ q => fr_ne (by omega)
  have M1 : ∀ (v : Int) (i : Nat), i ≠ 0 → i ≠ 130 → mSet (fr 130 130 J I) 0 15 v i = I i := fun v i q0 q => by
    rw [set_ne q0]
    exact fr_ne (by omega)
  have N0 : ∀ p : Int, p ≠ 15 → fr 130 130 J I 0 p = I 0 p := fun p _ => by rw [fr_ne (by decide)]
  have N1 : ∀ (v p : Int), p ≠ 15 → mSet (fr 130 130 J I) 0 15 v 0 p = I 0 p := fun v p q => by
    rw [set_nq q]
    exact N0 p q
  simp only [m4, m7, m15, m13, t1]
  generalize hC : caughtT t b hh = C at *
  generalize hR : runsT t b hh = R at *
  generalize hU : ib 8 (nx (I 0 15)) 16 % 100 = U at *
  have z1 : ∀ _ : Unit, C ≤ 0 → R < 4 → Q (.inl (some (mI R))) (nt (fr 130 130 J I) R 0) := fun _ c1 c2 => key () _ R 0 _ _ M0 N0 m15 (by rw [hS, if_neg (by omega), if_pos c2, if_neg (by omega), Int.zero_add]) fS (by rw [if_neg (by omega)]; exact f9)
  have z2 : ∀ _ : Unit, C ≤ 0 → ¬ R < 4 → ¬ t 8 = 1 → Q (.inl (some (mI R))) (nt (fr 130 130 J I) R 0) := fun _ c1 c2 c3 => key () _ R 0 _ _ M0 N0 m15 (by rw [hS, if_neg (by omega), if_neg c2, if_neg c3, if_neg (by omega), Int.zero_add]) s3 (by rw [if_pos (by omega)]; exact e9)
  have z3 := fun (_ : Unit) (c1 : C ≤ 0) (c2 : ¬ R < 4) (c3 : t 8 = 1) => keyC () (fr 130 130 J I) _ M0 N0 m15 (by omega) (by rw [hS, if_neg (by omega), if_neg c2, if_pos c3, if_neg (by omega), Int.zero_add])
  have z4 : ∀ _ : Unit, 0 < C → U < C → Q (.inl (some (mI 0))) (nt (mSet (fr 130 130 J I) 0 15 (nx (I 0 15))) 0 1) := fun _ c1 c2 => key () _ 0 1 _ _ (M1 _) (N1 _) set_eq (by rw [hS, if_pos ⟨c1, c2⟩]) gS (by rw [if_neg (by omega)]; exact g9)
  have z5 : ∀ _ : Unit, 0 < C → ¬ U < C → R < 4 → Q (.inl (some (mI R))) (nt (mSet (fr 130 130 J I) 0 15 (nx (I 0 15))) R 0) := fun _ c1 c0 c2 => key () _ R 0 _ _ (M1 _) (N1 _) set_eq (by rw [hS, if_neg (fun w => c0 w.2), if_pos c2, if_pos c1, Int.zero_add]) fS (by rw [if_neg (by omega)]; exact f9)
  have z6 : ∀ _ : Unit, 0 < C → ¬ U < C → ¬ R < 4 → ¬ t 8 = 1 → Q (.inl (some (mI R))) (nt (mSet (fr 130 130 J I) 0 15 (nx (I 0 15))) R 0) := fun _ c1 c0 c2 c3 => key () _ R 0 _ _ (M1 _) (N1 _) set_eq (by rw [hS, if_neg (fun w => c0 w.2), if_neg c2, if_neg c3, if_pos c1, Int.zero_add]) s3 (by rw [if_pos (by omega)]; exact e9)
  have z7 := fun (_ : Unit) (c1 : 0 < C) (c0 : ¬ U < C) (c2 : ¬ R < 4) (c3 : t 8 = 1) => keyC () (mSet (fr 130 130 J I) 0 15 (nx (I 0 15))) _ (M1 _) (N1 _) set_eq (by omega) (by rw [hS, if_neg (fun w => c0 w.2), if_neg c2, if_pos c3, if_pos c1, Int.zero_add])
  clear h key keyC hS e9 f9 g9
  (try simp only [mrg, mrl] at *) <;> repeat' (first | (with_reducible assumption) | (with_reducible apply And.intro) | intro _)
  all_goals first | omega | exact z1 () (by omega) (by omega) | exact z2 () (by omega) (by omega) (by omega) | exact z3 () (by omega) (by omega) (by omega) | exact z4 () (by omega) (by omega) | exact z5 () (by omega) (by omega) (by omega) | exact z6 () (by omega) (by omega) (by omega) (by omega) | exact z7 () (by omega) (by omega) (by omega) (by omega) | skip
theorem ctrX10_playHit {l : Launch} (hst : l.stackTraces = false) (hT : mTxM l) : mCtr l calX10_playHit spX10_playHit :=
  mMet0 (T := TX10_playHit) (S := SX10_playHit) hst hT (by decide) okX10_playHit ⟨_, _, rfl, rfl⟩ (fun a => match a with
    | 0 => ctrX9_weigh hst hT
    | 1 => ctrX10_draw hst hT
    | 2 => ctrX1_note hst hT
    | 3 => ctrX10_chaseAfter hst hT
    | _ + 4 => mCtr_no) vcX10_playHit

end SPC15
