section SPM20
def addR (t : Int → Int) (q v : Int) : Int → Int := fun p => if p = q then t q + v else t p
theorem WFt.sc {t t' : Int → Int} (H : WFt t) (ne : ∀ q, ¬ (9 ≤ q ∧ q ≤ 12) → t' q = t q) : WFt t' := by
  obtain ⟨h1, h2, h3, h4, h5, h6, h7⟩ := H
  refine ⟨?_, fun b b0 b1 => ?_, fun k k0 k1 => ?_, fun k k0 k1 => ?_, fun b h b0 b1 i0 i1 => ?_, fun g g0 g1 => ?_, fun i i0 i1 => ⟨?_, fun g g0 g1 => ?_⟩⟩
  · rw [ne 0 (by omega), ne 1 (by omega), ne 2 (by omega), ne 3 (by omega), ne 4 (by omega), ne 5 (by omega), ne 6 (by omega), ne 7 (by omega), ne 8 (by omega)]
    exact h1
  · rw [ne _ (by omega)]
    exact h2 b b0 b1
  · rw [ne _ (by omega)]
    exact h3 k k0 k1
  · rw [ne _ (by omega), ne _ (by omega), ne _ (by omega), ne _ (by omega), ne _ (by omega)]
    exact h4 k k0 k1
  · rw [ne (13 + b) (by omega)] at i1
    have := h2 b b0 b1
    rw [ne _ (by omega)]
    exact h5 b h b0 b1 i0 i1
  · rw [ne _ (by omega), ne _ (by omega), ne _ (by omega), ne _ (by omega), ne _ (by omega)]
    exact h6 g g0 g1
  · rw [ne _ (by omega)]
    exact (h7 i i0 i1).1
  · rw [ne _ (by omega)]
    exact (h7 i i0 i1).2 g g0 g1
theorem WFt.add {t : Int → Int} (H : WFt t) {q : Int} (hq : 9 ≤ q ∧ q ≤ 12) (v : Int) : WFt (addR t q v) := H.sc (fun p hp => if_neg (by omega))
theorem chase_wf {t : Int → Int} (H : WFt t) {b h : Int} (hb : 0 ≤ b ∧ b < 6) (hh : 0 ≤ h ∧ h < 8) : WFt (chaseT t b h) := by
  have st8 := (steps_spec H hb hh).1
  have cl := cell_in H hb hh (k := stepsT t b h) ⟨by omega, by omega⟩
  have nb := nearN_bd (stT t) (cellT t b h (stepsT t b h)) 9
  unfold chaseT
  split
  · exact H
  · split
    · exact H.put ⟨by omega, by omega⟩ ⟨by omega, by omega⟩
    · exact H
theorem chase_at (t : Int → Int) (b h : Int) {q : Int} (hq : q < 550 ∨ 595 ≤ q) : chaseT t b h q = t q := by
  have nb := nearN_bd (stT t) (cellT t b h (stepsT t b h)) 9
  unfold chaseT
  split
  · rfl
  · split
    · unfold putT
      rw [if_neg (by omega)]
    · rfl
def playS (b : Int) (p : (Int → Int) × Int × Int) : (Int → Int) × Int × Int :=
  if 0 < caughtT (addR p.1 12 1) b (bowledT p.1 b p.2.1).1 ∧ ib 8 (nx (bowledT p.1 b p.2.1).2) 16 % 100 < caughtT (addR p.1 12 1) b (bowledT p.1 b p.2.1).1 then (addR (addR p.1 12 1) 10 1, nx (bowledT p.1 b p.2.1).2, p.2.2)
  else if runsT (addR p.1 12 1) b (bowledT p.1 b p.2.1).1 < 4 then (addR (addR p.1 12 1) 9 (runsT (addR p.1 12 1) b (bowledT p.1 b p.2.1).1), if 0 < caughtT (addR p.1 12 1) b (bowledT p.1 b p.2.1).1 then nx (bowledT p.1 b p.2.1).2 else (bowledT p.1 b p.2.1).2, p.2.2 + runsT (addR p.1 12 1) b (bowledT p.1 b p.2.1).1)
  else (if p.1 8 = 1 then chaseT (addR (addR (addR p.1 12 1) 9 (runsT (addR p.1 12 1) b (bowledT p.1 b p.2.1).1)) 11 1) b (bowledT p.1 b p.2.1).1 else addR (addR (addR p.1 12 1) 9 (runsT (addR p.1 12 1) b (bowledT p.1 b p.2.1).1)) 11 1, if 0 < caughtT (addR p.1 12 1) b (bowledT p.1 b p.2.1).1 then nx (bowledT p.1 b p.2.1).2 else (bowledT p.1 b p.2.1).2, p.2.2 + runsT (addR p.1 12 1) b (bowledT p.1 b p.2.1).1)
def playN (b : Int) (p : (Int → Int) × Int × Int) : Nat → (Int → Int) × Int × Int
  | 0 => p
  | n + 1 => playS b (playN b p n)
def xM (J : mM) (t : Int → Int) (x : Int) : mM := mSet (rowM J t) 200 32 x
theorem xM_201 (J : mM) (t : Int → Int) (x : Int) : xM J t x 201 = t := by
  unfold xM
  rw [set_201, rowM_201]
theorem xM_32 (J : mM) (t : Int → Int) (x : Int) : xM J t x 200 32 = x := set_eq
theorem xM_set (J : mM) (t : Int → Int) (x y : Int) : mSet (xM J t x) 200 32 y = xM J t y := set_over1 _ _ _ _ _
theorem xM_add (J : mM) (t : Int → Int) (x q v : Int) : mSet (xM J t x) 201 q (t q + v) = xM J (addR t q v) x := by
  funext k p
  simp only [xM, mSet, rowM, addR]
  by_cases h : k = 201
  · simp [h]
  · simp [h]
theorem xM_row (J : mM) (t t' : Int → Int) (x : Int) : rowM (xM J t x) t' = xM J t' x := by
  funext k p
  simp only [xM, mSet, rowM]
  by_cases h : k = 201
  · simp [h]
  · simp [h]
theorem xM_self (J : mM) : xM J (J 201) (J 200 32) = J := by
  unfold xM
  rw [rowM_self]
  exact set_self J 200 32
theorem xM_in (J : mM) (x : Int) : mSet J 200 32 x = xM J (J 201) x := by
  unfold xM
  rw [rowM_self]
def spX11_play : mSp := shRIII (fun _ i b n s I Q => i = some 200 ∧ WFt (I 201) ∧ mrg b ∧ mrg n ∧ mrg s ∧ (¬ ballP b → Q (.inl (some (mI 0))) (mSet I 200 3 1)) ∧ (ballP b → ¬ (1 ≤ n ∧ n ≤ 60) → Q (.inl (some (mI 0))) (mSet I 200 3 2)) ∧ (ballP b → (1 ≤ n ∧ n ≤ 60) → I 201 (13 + b) = 0 → Q (.inl (some (mI (-1)))) (mSet I 200 3 0)) ∧ (ballP b → (1 ≤ n ∧ n ≤ 60) → ¬ I 201 (13 + b) = 0 → Q (.inl (some (mI (playN b (I 201, s, 0) n.toNat).2.2))) (xM (mSet I 200 3 0) (playN b (I 201, s, 0) n.toNat).1 (playN b (I 201, s, 0) n.toNat).2.1)))
def SX11_play : Nat → mSp := fun a => match a with
  | 0 => spX11_isBall
  | 1 => spX11_fails
  | 2 => spX11_within
  | 3 => spX11_bowled
  | 4 => spX11_catchOf
  | 5 => spX11_draw
  | 6 => spX11_runsOf
  | 7 => spX11_chases
  | _ => fun _ _ _ _ => False
theorem SX11_play_0 : SX11_play 0 = spX11_isBall := Eq.trans rfl rfl
theorem SX11_play_1 : SX11_play 1 = spX11_fails := Eq.trans rfl rfl
theorem SX11_play_2 : SX11_play 2 = spX11_within := Eq.trans rfl rfl
theorem SX11_play_3 : SX11_play 3 = spX11_bowled := Eq.trans rfl rfl
theorem SX11_play_4 : SX11_play 4 = spX11_catchOf := Eq.trans rfl rfl
theorem SX11_play_5 : SX11_play 5 = spX11_draw := Eq.trans rfl rfl
theorem SX11_play_6 : SX11_play 6 = spX11_runsOf := Eq.trans rfl rfl
theorem SX11_play_7 : SX11_play 7 = spX11_chases := Eq.trans rfl rfl
theorem cutsX11_play {t : Nat} {bs : List Bool} (h : cutX11_play t = some bs) : (t = 61 ∧ bs = [true, true, true, false, true, true, false, false, false]) := by
  unfold cutX11_play at h
  simp only [mLk] at h
  by_cases h0 : 61 = t
  · subst h0
    simp at h
    exact ⟨rfl, h.symm⟩
  rw [if_neg h0] at h
  cases h
set_option maxRecDepth 100000 in
set_option maxHeartbeats 8000000 in
theorem vcX11_play (fl : Nat → Bool) (avs : List mV) (I : mM) (Q : mO → mM → Prop) (hsp : spX11_play fl avs I Q) : mVC SX11_play fl Q kX11_play cutX11_play 9 avs I := by
  obtain ⟨i, b, nn, s, rfl, h0⟩ := shRIII_inv hsp
  obtain ⟨rfl, H, rb, rn, rs, h1, h2, h3, h4⟩ := h0
  refine ⟨rfl, (fun m t lv st I1 => st = [] ∧ ∃ (t : Int → Int) (x a : Int) (j : Nat), I1 = xM (mSet I 200 3 0) t x ∧ lv = [some (mR (some 200)), some (mI b), some (mI nn), none, some (mI a), some (mI j), none, none, none] ∧ WFt t ∧ (ballP b ∧ 1 ≤ nn ∧ nn ≤ 60 ∧ 1 ≤ t (13 + b) ∧ ¬ I 201 (13 + b) = 0) ∧ (t, x, a) = playN b (I 201, s, 0) j ∧ j ≤ nn.toNat ∧ m = 60 - j), ?_, ?_⟩
  · intro n t bs hbs lv st I1 hc
    rcases cutsX11_play hbs with ⟨rfl, rfl⟩
    rw [sfxX11_play_61]
    obtain ⟨rfl, t, x, a, j, rfl, rfl, Ht, ⟨kb, k1, k2, k3, k4⟩, he, hj, hm⟩ := hc
    have hn := Ht.2.1 b kb.1 kb.2
    have bb := bowledT_bd Ht x kb k3
    have H12 := Ht.add (q := 12) (by omega) 1
    have cb := caughtT_bd H12 kb (h := (bowledT t b x).1) ⟨by omega, by omega⟩
    have rb := runsT_bd H12 kb (h := (bowledT t b x).1) ⟨by omega, by omega⟩
    have m3 := Int.emod_nonneg (ib 8 (nx (bowledT t b x).2) 16) (b := 100) (by omega)
    have m4 := Int.emod_lt_of_pos (ib 8 (nx (bowledT t b x).2) 16) (b := 100) (by omega)
    have e13 : ∀ q v, 9 ≤ q → q ≤ 12 → addR t q v (13 + b) = t (13 + b) := fun q v q1 q2 => if_neg (by omega)
    have h8 := Ht.1.2.2.2.2.2.2.2.2
    have hs : playN b (I 201, s, 0) (j + 1) = playS b (t, x, a) := by
      show playS b (playN b (I 201, s, 0) j) = _
      rw [← he]
    simp only [playS] at hs
    generalize hB : bowledT t b x = B at *
    generalize hC : caughtT (addR t 12 1) b B.1 = C at *
    generalize hR : runsT (addR t 12 1) b B.1 = R at *
    have a8 : addR (addR (addR t 12 1) 9 R) 11 1 8 = t 8 := by simp [addR]
    have b13 : 1 ≤ addR (addR t 12 1) 10 1 (13 + b) ∧ 1 ≤ addR (addR t 12 1) 9 R (13 + b) ∧ 1 ≤ addR (addR (addR t 12 1) 9 R) 11 1 (13 + b) ∧ 1 ≤ chaseT (addR (addR (addR t 12 1) 9 R) 11 1) b B.1 (13 + b) := by
      rw [chase_at _ _ _ (by omega)]
      simp only [addR]
      rw [if_neg (by omega), if_neg (by omega), if_neg (by omega), if_neg (by omega)]
      exact ⟨k3, k3, k3, k3⟩
    generalize hU : ib 8 (nx B.2) 16 % 100 = U at *
    have H9 := H12.add (q := 9) (by omega) R
    have H10 := H12.add (q := 10) (by omega) 1
    have H11 := H9.add (q := 11) (by omega) 1
    have Hch := chase_wf H11 kb (h := B.1) ⟨by omega, by omega⟩
    have g1 : ∀ _ : Unit, 0 < C → U < C → playN b (I 201, s, 0) (j + 1) = (addR (addR t 12 1) 10 1, nx B.2, a) := fun _ z1 z2 => by rw [hs, if_pos ⟨z1, z2⟩]
    have g2 : ∀ _ : Unit, 0 < C → ¬ U < C → R < 4 → playN b (I 201, s, 0) (j + 1) = (addR (addR t 12 1) 9 R, nx B.2, a + R) := fun _ z1 z2 z3 => by rw [hs, if_neg (fun w => z2 w.2), if_pos z3, if_pos z1]
    have g3 : ∀ _ : Unit, ¬ 0 < C → R < 4 → playN b (I 201, s, 0) (j + 1) = (addR (addR t 12 1) 9 R, B.2, a + R) := fun _ z1 z3 => by rw [hs, if_neg (fun w => z1 w.1), if_pos z3, if_neg z1]
    have g4 : ∀ _ : Unit, 0 < C → ¬ U < C → ¬ R < 4 → t 8 = 1 → playN b (I 201, s, 0) (j + 1) = (chaseT (addR (addR (addR t 12 1) 9 R) 11 1) b B.1, nx B.2, a + R) := fun _ z1 z2 z3 z4 => by rw [hs, if_neg (fun w => z2 w.2), if_neg z3, if_pos z1, if_pos z4]
    have g5 : ∀ _ : Unit, 0 < C → ¬ U < C → ¬ R < 4 → ¬ t 8 = 1 → playN b (I 201, s, 0) (j + 1) = (addR (addR (addR t 12 1) 9 R) 11 1, nx B.2, a + R) := fun _ z1 z2 z3 z4 => by rw [hs, if_neg (fun w => z2 w.2), if_neg z3, if_pos z1, if_neg z4]
    have g6 : ∀ _ : Unit, ¬ 0 < C → ¬ R < 4 → t 8 = 1 → playN b (I 201, s, 0) (j + 1) = (chaseT (addR (addR (addR t 12 1) 9 R) 11 1) b B.1, B.2, a + R) := fun _ z1 z3 z4 => by rw [hs, if_neg (fun w => z1 w.1), if_neg z3, if_neg z1, if_pos z4]
    have g7 : ∀ _ : Unit, ¬ 0 < C → ¬ R < 4 → ¬ t 8 = 1 → playN b (I 201, s, 0) (j + 1) = (addR (addR (addR t 12 1) 9 R) 11 1, B.2, a + R) := fun _ z1 z3 z4 => by rw [hs, if_neg (fun w => z1 w.1), if_neg z3, if_neg z1, if_neg z4]
    have fin : ∀ _ : Unit, nn ≤ j → Q (.inl (some (mI a))) (xM (mSet I 200 3 0) t x) := fun _ z => by
      have e : nn.toNat = j := by omega
      have e2 := h4 kb ⟨k1, k2⟩ k4
      rw [e, ← he] at e2
      exact e2
    clear hs h1 h2 h3 h4
    simp only [false_and, and_false, true_or, or_true, false_or, or_false, true_and, and_true, true_implies, false_implies, implies_true, not_true_eq_false, not_false_eq_true, and_self, List.length_cons, List.length_nil, mNoCut_, mCat_n, mCat_I, mCat_L, mCat_R, mIsL_n, mIsL_I, mIsL_R, mIsL_L, Nat.reduceAdd, Nat.reduceSub, Nat.reduceLeDiff, Nat.reduceLT, Nat.reduceEqDiff, Nat.zero_le, Int.reduceEq, Int.reduceLT, Int.reduceLE, Int.reduceNeg, Int.reduceAdd, if_true, if_false, reduceIte, reduceCtorEq, Bool.false_eq_true, ne_eq, qCmp_0, qCmp_1, qCmp_2, qCmp_3, qCmp_4, qCmp_5, ib_0, ib_1, ib_2, lb_0, lb_1, lb_2, dv_0, dv_1, wq_ic, wq_lc, wq_ld_i, wq_ld_a, wq_st_i, wq_iinc, wq_ib, wq_i2l, wq_icmp, wq_if, wq_goto, wq_get, mGet_0, mGet_1, mGet_2, mGet_3, wq_putI, wq_putL, wq_ald, wq_astI, wq_astL, wq_dup2, dup2_IR, wq_ret0, wq_ret1, wq_ret2, wq_ret3, wq_ret4, ldR0, mrg_0_, fk_11_3, ldI1, wq_callS1_1, mrg_1_, wq_callV2_0, ldI2, wq_callS3_1, mrg_2_, fk_11_0, mrg_13_, mrg_m1_, ldI3, fk_11_32, stI4, stI5, ldI5, stI6, mrg_12_, ldI6, wq_callV3_0, stI7, ldI7, mrg_100_, mrg_10_, stI8, ldI4, ldI8, mrg_9_, mrg_4_, mrg_11_, mrg_8_, wqinc5, mPut_s, mPut_I0, mPut_R0, mPut_L0, mPut_I1, mPut_R1, mPut_L1, mGo_n, sfxX11_play_18, cutX11_play_18, sfxX11_play_36, cutX11_play_36, sfxX11_play_50, cutX11_play_50, sfxX11_play_61, cutX11_play_61, sfxX11_play_124, cutX11_play_124, sfxX11_play_161, cutX11_play_161, sfxX11_play_190, cutX11_play_190, sfxX11_play_196, cutX11_play_196, wq_cut, mGo_c, mMask_t, mMask_f, mMask_n, kX11_play_196, kX11_play_190, kX11_play_161, kX11_play_124, kX11_play_61, kX11_play_50, kX11_play_36, kX11_play_18, kX11_play_0, sk_200, al_200, rf_200_0, sk_201, al_201, sn_201, ald_n, ro0_n, al_ro, SX11_play_0, SX11_play_1, SX11_play_2, SX11_play_3, SX11_play_4, SX11_play_5, SX11_play_6, SX11_play_7, shqI_, shqRI_, shqLLL_, shqRII_, spX11_isBall, spX11_fails, spX11_within, spX11_bowled, spX11_catchOf, spX11_draw, spX11_runsOf, spX11_chases, mrg, mrl, mSet_ap, ncast, Option.some.injEq, xM_201, xM_32, xM_set, xM_add, xM_row, hB, hC, hR, a8, hU]
    (try simp only [mrg, mrl] at *) <;> repeat' (first | (with_reducible assumption) | (with_reducible apply And.intro) | intro _)
    all_goals first | omega | exact fin () (by omega) | exact ⟨60 - (j + 1), by omega, _, _, _, j + 1, rfl, rfl, H10, ⟨kb, k1, k2, b13.1, k4⟩, (g1 () (by omega) (by omega)).symm, by omega, rfl⟩ | exact ⟨60 - (j + 1), by omega, _, _, _, j + 1, rfl, rfl, H9, ⟨kb, k1, k2, b13.2.1, k4⟩, (g2 () (by omega) (by omega) (by omega)).symm, by omega, rfl⟩ | exact ⟨60 - (j + 1), by omega, _, _, _, j + 1, rfl, rfl, H9, ⟨kb, k1, k2, b13.2.1, k4⟩, (g3 () (by omega) (by omega)).symm, by omega, rfl⟩ | exact ⟨60 - (j + 1), by omega, _, _, _, j + 1, rfl, rfl, Hch, ⟨kb, k1, k2, b13.2.2.2, k4⟩, (g4 () (by omega) (by omega) (by omega) (by omega)).symm, by omega, rfl⟩ | exact ⟨60 - (j + 1), by omega, _, _, _, j + 1, rfl, rfl, H11, ⟨kb, k1, k2, b13.2.2.1, k4⟩, (g5 () (by omega) (by omega) (by omega) (by omega)).symm, by omega, rfl⟩ | exact ⟨60 - (j + 1), by omega, _, _, _, j + 1, rfl, rfl, Hch, ⟨kb, k1, k2, b13.2.2.2, k4⟩, (g6 () (by omega) (by omega) (by omega)).symm, by omega, rfl⟩ | exact ⟨60 - (j + 1), by omega, _, _, _, j + 1, rfl, rfl, H11, ⟨kb, k1, k2, b13.2.2.1, k4⟩, (g7 () (by omega) (by omega) (by omega)).symm, by omega, rfl⟩ | skip
  · show mWp _ _ _ _ _ _ kX11_play_0 [some (mR (some 200)), some (mI b), some (mI nn), some (mI s), none, none, none, none, none] [] I
    have hn := fun hb : 0 ≤ b ∧ b < 6 => H.2.1 b hb.1 hb.2
    simp only [false_and, and_false, true_or, or_true, false_or, or_false, true_and, and_true, true_implies, false_implies, implies_true, not_true_eq_false, not_false_eq_true, and_self, List.length_cons, List.length_nil, mNoCut_, mCat_n, mCat_I, mCat_L, mCat_R, mIsL_n, mIsL_I, mIsL_R, mIsL_L, Nat.reduceAdd, Nat.reduceSub, Nat.reduceLeDiff, Nat.reduceLT, Nat.reduceEqDiff, Nat.zero_le, Int.reduceEq, Int.reduceLT, Int.reduceLE, Int.reduceNeg, Int.reduceAdd, if_true, if_false, reduceIte, reduceCtorEq, Bool.false_eq_true, ne_eq, qCmp_0, qCmp_1, qCmp_2, qCmp_3, qCmp_4, qCmp_5, ib_0, ib_1, ib_2, lb_0, lb_1, lb_2, dv_0, dv_1, wq_ic, wq_lc, wq_ld_i, wq_ld_a, wq_st_i, wq_iinc, wq_ib, wq_i2l, wq_icmp, wq_if, wq_goto, wq_get, mGet_0, mGet_1, mGet_2, mGet_3, wq_putI, wq_putL, wq_ald, wq_astI, wq_astL, wq_dup2, dup2_IR, wq_ret0, wq_ret1, wq_ret2, wq_ret3, wq_ret4, ldR0, mrg_0_, fk_11_3, ldI1, wq_callS1_1, mrg_1_, wq_callV2_0, ldI2, wq_callS3_1, mrg_2_, fk_11_0, mrg_13_, mrg_m1_, ldI3, fk_11_32, stI4, stI5, ldI5, stI6, mrg_12_, ldI6, wq_callV3_0, stI7, ldI7, mrg_100_, mrg_10_, stI8, ldI4, ldI8, mrg_9_, mrg_4_, mrg_11_, mrg_8_, wqinc5, mPut_s, mPut_I0, mPut_R0, mPut_L0, mPut_I1, mPut_R1, mPut_L1, mGo_n, sfxX11_play_18, cutX11_play_18, sfxX11_play_36, cutX11_play_36, sfxX11_play_50, cutX11_play_50, sfxX11_play_61, cutX11_play_61, sfxX11_play_124, cutX11_play_124, sfxX11_play_161, cutX11_play_161, sfxX11_play_190, cutX11_play_190, sfxX11_play_196, cutX11_play_196, wq_cut, mGo_c, mMask_t, mMask_f, mMask_n, kX11_play_196, kX11_play_190, kX11_play_161, kX11_play_124, kX11_play_61, kX11_play_50, kX11_play_36, kX11_play_18, kX11_play_0, sk_200, al_200, rf_200_0, sk_201, al_201, sn_201, ald_n, ro0_n, al_ro, SX11_play_0, SX11_play_1, SX11_play_2, SX11_play_3, SX11_play_4, SX11_play_5, SX11_play_6, SX11_play_7, shqI_, shqRI_, shqLLL_, shqRII_, spX11_isBall, spX11_fails, spX11_within, spX11_bowled, spX11_catchOf, spX11_draw, spX11_runsOf, spX11_chases, mrg, mrl, mSet_ap, ncast, Option.some.injEq, set_201, set_over1]
    (try simp only [mrg, mrl] at *) <;> repeat' (first | (with_reducible assumption) | (with_reducible apply And.intro) | intro _)
    all_goals first | omega | assumption | exact h1 (by omega) | exact h2 (by omega) (by omega) | exact h3 (by omega) (by omega) (by omega) | exact ⟨60, I 201, s, 0, 0, by (have e := xM_in (mSet I 200 3 0) s; rw [set_201] at e; exact e), rfl, H, ⟨by omega, by omega, by omega, by omega, by omega⟩, rfl, by omega, rfl⟩ | skip
theorem ctrX11_play {l : Launch} (hst : l.stackTraces = false) (hT : mTxM l) : mCtr l calX11_play spX11_play :=
  mMet (T := TX11_play) (S := SX11_play) hst hT cutX11_play (by decide) okX11_play ⟨_, _, rfl, rfl⟩ trivial (fun t bs h => by rcases cutsX11_play h with ⟨-, rfl⟩ <;> rfl) (fun a => match a with
    | 0 => ctrX11_isBall hst hT
    | 1 => ctrX11_fails hst hT
    | 2 => ctrX11_within hst hT
    | 3 => ctrX11_bowled hst hT
    | 4 => ctrX11_catchOf hst hT
    | 5 => ctrX11_draw hst hT
    | 6 => ctrX11_runsOf hst hT
    | 7 => ctrX11_chases hst hT
    | _ + 8 => mCtr_no) vcX11_play

abbrev trayP (k : Int) : Prop := 0 ≤ k ∧ k < 4
/-- the reference's TRAYS, within bounds -/
def trW (I : mM) : Prop := (∀ k : Int, 0 ≤ k → k < 4 → (-1 ≤ I 216 k ∧ I 216 k ≤ 3) ∧ (0 ≤ I 217 k ∧ I 217 k ≤ 40)) ∧ (∀ q : Int, 0 ≤ q → q < 160 → mrl (I 218 q))
/-- n numbers of the row a, from lo on, come from g -/
def copyM (I : mM) (a : Nat) (lo : Int) (g : Int → Int) (n : Int) : mM := fun k q => if k = a ∧ lo ≤ q ∧ q < lo + n then g (q - lo) else I k q
theorem copyM_0 (I : mM) (a : Nat) (lo : Int) (g : Int → Int) : copyM I a lo g 0 = I := by
  funext k q
  simp only [copyM]
  exact if_neg (by omega)
theorem copyM_s (I : mM) (a : Nat) (lo : Int) (g : Int → Int) {n v : Int} (hn : 0 ≤ n) (hv : v = g n) : mSet (copyM I a lo g n) a (lo + n) v = copyM I a lo g (n + 1) := by
  funext k q
  simp only [copyM, mSet]
  by_cases h1 : k = a ∧ q = lo + n
  · rw [if_pos h1, if_pos ⟨h1.1, by omega, by omega⟩, hv]
    congr 1
    omega
  · rw [if_neg h1]
    by_cases h2 : k = a ∧ lo ≤ q ∧ q < lo + n
    · rw [if_pos h2, if_pos ⟨h2.1, by omega, by omega⟩]
    · rw [if_neg h2, if_neg (fun z => h2 ⟨z.1, by omega, by omega⟩)]
theorem copyM_ne (I : mM) {a k : Nat} (lo : Int) (g : Int → Int) (n : Int) (h : k ≠ a) : copyM I a lo g n k = I k := by
  funext q
  exact if_neg (fun z => h z.1)
def spX11_tray : mSp := shRIII (fun _ i t s n I Q => i = some 200 ∧ mrg t ∧ mrg s ∧ mrg n ∧ (¬ trayP t → Q (.inl none) (mSet I 200 3 1)) ∧ (trayP t → ¬ ((0 ≤ s ∧ s ≤ 3) ∧ (0 ≤ n ∧ n ≤ 40)) → Q (.inl none) (mSet I 200 3 2)) ∧ (trayP t → ((0 ≤ s ∧ s ≤ 3) ∧ (0 ≤ n ∧ n ≤ 40)) → Q (.inl none) (copyM (mSet (mSet (mSet I 200 3 0) 216 t s) 217 t n) 218 (40 * t) (fun _ => 0) 40)))
def SX11_tray : Nat → mSp := fun a => match a with
  | 0 => spX11_isTray
  | 1 => spX11_within
  | _ => fun _ _ _ _ => False
theorem SX11_tray_0 : SX11_tray 0 = spX11_isTray := Eq.trans rfl rfl
theorem SX11_tray_1 : SX11_tray 1 = spX11_within := Eq.trans rfl rfl
theorem cutsX11_tray {t : Nat} {bs : List Bool} (h : cutX11_tray t = some bs) : (t = 69 ∧ bs = [true, true, false, false, true]) := by
  unfold cutX11_tray at h
  simp only [mLk] at h
  by_cases h0 : 69 = t
  · subst h0
    simp at h
    exact ⟨rfl, h.symm⟩
  rw [if_neg h0] at h
  cases h
set_option maxRecDepth 100000 in
set_option maxHeartbeats 1000000 in
theorem vcX11_tray (fl : Nat → Bool) (avs : List mV) (I : mM) (Q : mO → mM → Prop) (hsp : spX11_tray fl avs I Q) : mVC SX11_tray fl Q kX11_tray cutX11_tray 5 avs I := by
  obtain ⟨i, tt, s, nn, rfl, h0⟩ := shRIII_inv hsp
  obtain ⟨rfl, rt, rs, rn, h1, h2, h3⟩ := h0
  refine ⟨rfl, (fun m pc lv st I1 => st = [] ∧ trayP tt ∧ ((0 ≤ s ∧ s ≤ 3) ∧ (0 ≤ nn ∧ nn ≤ 40)) ∧ ∃ j : Nat, I1 = copyM (mSet (mSet (mSet I 200 3 0) 216 tt s) 217 tt nn) 218 (40 * tt) (fun _ => 0) j ∧ lv = [some (mR (some 200)), some (mI tt), none, none, some (mI j)] ∧ j ≤ 40 ∧ m = 40 - j), ?_, ?_⟩
  · intro n t bs hbs lv st I1 hc
    rcases cutsX11_tray hbs with ⟨rfl, rfl⟩
    rw [sfxX11_tray_69]
    obtain ⟨rfl, kt, ks, j, rfl, rfl, hj, hm⟩ := hc
    have em := copyM_s (mSet (mSet (mSet I 200 3 0) 216 tt s) 217 tt nn) 218 (40 * tt) (fun _ => 0) (n := j) (v := 0) (by omega) rfl
    simp only [false_and, and_false, true_or, or_true, false_or, or_false, true_and, and_true, true_implies, false_implies, implies_true, not_true_eq_false, not_false_eq_true, and_self, List.length_cons, List.length_nil, mNoCut_, mCat_n, mCat_I, mCat_L, mCat_R, mIsL_n, mIsL_I, mIsL_R, mIsL_L, Nat.reduceAdd, Nat.reduceSub, Nat.reduceLeDiff, Nat.reduceLT, Nat.reduceEqDiff, Nat.zero_le, Int.reduceEq, Int.reduceLT, Int.reduceLE, Int.reduceNeg, Int.reduceAdd, if_true, if_false, reduceIte, reduceCtorEq, Bool.false_eq_true, ne_eq, qCmp_0, qCmp_1, qCmp_2, qCmp_3, qCmp_4, qCmp_5, ib_0, ib_1, ib_2, lb_0, lb_1, lb_2, dv_0, dv_1, wq_ic, wq_lc, wq_ld_i, wq_ld_a, wq_st_i, wq_iinc, wq_ib, wq_i2l, wq_icmp, wq_if, wq_goto, wq_get, mGet_0, mGet_1, mGet_2, mGet_3, wq_putI, wq_putL, wq_astI, wq_astL, wq_ret0, wq_ret1, wq_ret2, wq_ret3, wq_ret4, ldR0, ldI1, wq_callS1_1, mrg_1_, ldI2, wq_callS3_1, ldI3, mrg_2_, mrg_0_, fk_11_3, fk_11_33, fk_11_34, stI4, ldI4, mrg_40_, fk_11_35, wqinc4, mPut_s, mPut_I0, mPut_R0, mPut_L0, mPut_I1, mPut_R1, mPut_L1, mGo_n, sfxX11_tray_12, cutX11_tray_12, sfxX11_tray_36, cutX11_tray_36, sfxX11_tray_40, cutX11_tray_40, sfxX11_tray_41, cutX11_tray_41, sfxX11_tray_52, cutX11_tray_52, sfxX11_tray_69, cutX11_tray_69, sfxX11_tray_95, cutX11_tray_95, wq_cut, mGo_c, mMask_t, mMask_f, mMask_n, kX11_tray_95, kX11_tray_69, kX11_tray_52, kX11_tray_41, kX11_tray_40, kX11_tray_36, kX11_tray_12, kX11_tray_0, sk_200, al_200, rf_200_33, sk_216, al_216, sn_216, rf_200_34, sk_217, al_217, sn_217, rf_200_35, sk_218, al_218, sn_218, SX11_tray_0, SX11_tray_1, shqI_, shqLLL_, spX11_isTray, spX11_within, mrg, mrl, mSet_ap, ncast, Option.some.injEq, em]
    (try simp only [mrg, mrl] at *) <;> repeat' (first | (with_reducible assumption) | (with_reducible apply And.intro) | intro _)
    all_goals first | omega | (have e : j = 40 := by omega); subst e; exact h3 kt ks | exact ⟨40 - (j + 1), by omega, kt, ks, j + 1, rfl, rfl, by omega, rfl⟩ | skip
  · show mWp _ _ _ _ _ _ kX11_tray_0 [some (mR (some 200)), some (mI tt), some (mI s), some (mI nn), none] [] I
    simp only [false_and, and_false, true_or, or_true, false_or, or_false, true_and, and_true, true_implies, false_implies, implies_true, not_true_eq_false, not_false_eq_true, and_self, List.length_cons, List.length_nil, mNoCut_, mCat_n, mCat_I, mCat_L, mCat_R, mIsL_n, mIsL_I, mIsL_R, mIsL_L, Nat.reduceAdd, Nat.reduceSub, Nat.reduceLeDiff, Nat.reduceLT, Nat.reduceEqDiff, Nat.zero_le, Int.reduceEq, Int.reduceLT, Int.reduceLE, Int.reduceNeg, Int.reduceAdd, if_true, if_false, reduceIte, reduceCtorEq, Bool.false_eq_true, ne_eq, qCmp_0, qCmp_1, qCmp_2, qCmp_3, qCmp_4, qCmp_5, ib_0, ib_1, ib_2, lb_0, lb_1, lb_2, dv_0, dv_1, wq_ic, wq_lc, wq_ld_i, wq_ld_a, wq_st_i, wq_iinc, wq_ib, wq_i2l, wq_icmp, wq_if, wq_goto, wq_get, mGet_0, mGet_1, mGet_2, mGet_3, wq_putI, wq_putL, wq_astI, wq_astL, wq_ret0, wq_ret1, wq_ret2, wq_ret3, wq_ret4, ldR0, ldI1, wq_callS1_1, mrg_1_, ldI2, wq_callS3_1, ldI3, mrg_2_, mrg_0_, fk_11_3, fk_11_33, fk_11_34, stI4, ldI4, mrg_40_, fk_11_35, wqinc4, mPut_s, mPut_I0, mPut_R0, mPut_L0, mPut_I1, mPut_R1, mPut_L1, mGo_n, sfxX11_tray_12, cutX11_tray_12, sfxX11_tray_36, cutX11_tray_36, sfxX11_tray_40, cutX11_tray_40, sfxX11_tray_41, cutX11_tray_41, sfxX11_tray_52, cutX11_tray_52, sfxX11_tray_69, cutX11_tray_69, sfxX11_tray_95, cutX11_tray_95, wq_cut, mGo_c, mMask_t, mMask_f, mMask_n, kX11_tray_95, kX11_tray_69, kX11_tray_52, kX11_tray_41, kX11_tray_40, kX11_tray_36, kX11_tray_12, kX11_tray_0, sk_200, al_200, rf_200_33, sk_216, al_216, sn_216, rf_200_34, sk_217, al_217, sn_217, rf_200_35, sk_218, al_218, sn_218, SX11_tray_0, SX11_tray_1, shqI_, shqLLL_, spX11_isTray, spX11_within, mrg, mrl, mSet_ap, ncast, Option.some.injEq, set_201, set_over1]
    (try simp only [mrg, mrl] at *) <;> repeat' (first | (with_reducible assumption) | (with_reducible apply And.intro) | intro _)
    all_goals first | omega | assumption | exact h1 (by omega) | exact h2 (by omega) (by omega) | exact ⟨40, by omega, by omega, 0, (copyM_0 _ _ _ _).symm, rfl, by omega, rfl⟩ | skip
theorem ctrX11_tray {l : Launch} (hst : l.stackTraces = false) (hT : mTxM l) : mCtr l calX11_tray spX11_tray :=
  mMet (T := TX11_tray) (S := SX11_tray) hst hT cutX11_tray (by decide) okX11_tray ⟨_, _, rfl, rfl⟩ trivial (fun t bs h => by rcases cutsX11_tray h with ⟨-, rfl⟩ <;> rfl) (fun a => match a with
    | 0 => ctrX11_isTray hst hT
    | 1 => ctrX11_within hst hT
    | _ + 2 => mCtr_no) vcX11_tray

def cutT (s v : Int) : Int := lsh 1 (lsh 0 v (64 - ib 6 8 s)) (64 - ib 6 8 s)
def spX11_write : mSp := shRIIL (fun _ i t p v I Q => i = some 200 ∧ trW I ∧ mrg t ∧ mrg p ∧ mrl v ∧ (¬ trayP t → Q (.inl (some (mL 0))) (mSet I 200 3 1)) ∧ (trayP t → I 216 t = -1 → Q (.inl (some (mL 0))) (mSet I 200 3 2)) ∧ (trayP t → ¬ I 216 t = -1 → ¬ (0 ≤ p ∧ p < I 217 t) → Q (.inl (some (mL 0))) (mSet I 200 3 3)) ∧ (trayP t → ¬ I 216 t = -1 → (0 ≤ p ∧ p < I 217 t) → Q (.inl (some (mL (cutT (I 216 t) v)))) (mSet (mSet I 200 3 0) 218 (40 * t + p) (cutT (I 216 t) v))))
def SX11_write : Nat → mSp := fun a => match a with
  | 0 => spX11_isTray
  | 1 => spX11_fails
  | 2 => spX11_within
  | _ => fun _ _ _ _ => False
theorem SX11_write_0 : SX11_write 0 = spX11_isTray := Eq.trans rfl rfl
theorem SX11_write_1 : SX11_write 1 = spX11_fails := Eq.trans rfl rfl
theorem SX11_write_2 : SX11_write 2 = spX11_within := Eq.trans rfl rfl
set_option maxRecDepth 100000 in
set_option maxHeartbeats 1000000 in
theorem vcX11_write (fl : Nat → Bool) (avs : List mV) (I : mM) (Q : mO → mM → Prop) (hsp : spX11_write fl avs I Q) : mVC0 SX11_write fl Q kX11_write 6 avs I := by
  obtain ⟨i, t, p, v, rfl, h0⟩ := shRIIL_inv hsp
  refine ⟨rfl, ?_⟩
  show mWp _ _ _ _ _ _ kX11_write_0 [some (mR i), some (mI t), some (mI p), some (mL v), none, none] [] I
  obtain ⟨rfl, hT, rt, rp, rv, h1, h2, h3, h4⟩ := h0
  have kt := fun z : trayP t => hT.1 t z.1 z.2
  unfold cutT at h4
  simp only [false_and, and_false, true_or, or_true, false_or, or_false, true_and, and_true, true_implies, false_implies, implies_true, not_true_eq_false, not_false_eq_true, and_self, List.length_cons, List.length_nil, mNoCut_, mCat_n, mCat_I, mCat_L, mCat_R, mIsL_n, mIsL_I, mIsL_R, mIsL_L, Nat.reduceAdd, Nat.reduceSub, Nat.reduceLeDiff, Nat.reduceLT, Nat.reduceEqDiff, Nat.zero_le, Int.reduceEq, Int.reduceLT, Int.reduceLE, Int.reduceNeg, Int.reduceAdd, if_true, if_false, reduceIte, reduceCtorEq, Bool.false_eq_true, ne_eq, qCmp_0, qCmp_1, qCmp_2, qCmp_3, qCmp_4, qCmp_5, ib_0, ib_1, ib_2, lb_0, lb_1, lb_2, dv_0, dv_1, wq_ic, wq_lc, wq_ld_i, wq_ld_l, wq_ld_a, wq_st_i, wq_ib, wq_i2l, wq_lsh, wq_icmp, wq_if, wq_get, mGet_0, mGet_1, mGet_2, mGet_3, wq_putI, wq_putL, wq_ald, wq_astI, wq_astL, wq_ret0, wq_ret1, wq_ret2, wq_ret3, wq_ret4, ldR0, mrg_0_, fk_11_3, ldI1, wq_callS1_1, mrg_1_, wq_callV2_0, fk_11_33, mrg_m1_, mrg_2_, ldI2, fk_11_34, wq_callS3_1, mrg_3_, mrg_64_, mrg_8_, stI5, fk_11_35, mrg_40_, ldL3, ldI5, mPut_s, mPut_I0, mPut_R0, mPut_L0, mPut_I1, mPut_R1, mPut_L1, mGo_n, sfxX11_write_19, cutX11_write_19, sfxX11_write_36, cutX11_write_36, sfxX11_write_61, cutX11_write_61, kX11_write_61, kX11_write_36, kX11_write_19, kX11_write_0, sk_200, al_200, rf_200_33, sk_216, al_216, sn_216, rf_200_34, sk_217, al_217, sn_217, rf_200_35, sk_218, al_218, sn_218, ald_n, ro0_n, al_ro, SX11_write_0, SX11_write_1, SX11_write_2, shqI_, shqRI_, shqLLL_, spX11_isTray, spX11_fails, spX11_within, mrg, mrl, mSet_ap, ncast, Option.some.injEq, set_201, set_over1]
  (try simp only [mrg, mrl] at *) <;> repeat' (first | (with_reducible assumption) | (with_reducible apply And.intro) | intro _)
  all_goals first | omega | assumption | exact h1 (by omega) | exact h2 (by omega) (by omega) | exact h3 (by omega) (by omega) (by omega) | exact h4 (by omega) (by omega) (by omega) | skip
theorem ctrX11_write {l : Launch} (hst : l.stackTraces = false) (hT : mTxM l) : mCtr l calX11_write spX11_write :=
  mMet0 (T := TX11_write) (S := SX11_write) hst hT (by decide) okX11_write ⟨_, _, rfl, rfl⟩ (fun a => match a with
    | 0 => ctrX11_isTray hst hT
    | 1 => ctrX11_fails hst hT
    | 2 => ctrX11_within hst hT
    | _ + 3 => mCtr_no) vcX11_write

def pourS (I : mM) (t n : Int) : Int → Int := fun f => if f < n then I 218 (40 * t + f) else stT (I 201) f
abbrev pourP (I : mM) (t : Int) : Prop := I 217 t ≤ 9 ∧ ∀ k : Int, 0 ≤ k → k < I 217 t → -1 ≤ I 218 (40 * t + k) ∧ I 218 (40 * t + k) ≤ 288
def spX11_pour : mSp := shRI (fun _ i t I Q => i = some 200 ∧ trW I ∧ mrg t ∧ (¬ trayP t → Q (.inl (some (mI 0))) (mSet I 200 3 1)) ∧ (trayP t → I 216 t = -1 → Q (.inl (some (mI 0))) (mSet I 200 3 2)) ∧ (trayP t → ¬ I 216 t = -1 → ¬ pourP I t → Q (.inl (some (mI 0))) (mSet I 200 3 3)) ∧ (trayP t → ¬ I 216 t = -1 → pourP I t → Q (.inl (some (mI (I 217 t)))) (rowM (mSet I 200 3 0) (stR (I 201) (pourS I t (I 217 t))))))
def SX11_pour : Nat → mSp := fun a => match a with
  | 0 => spX11_isTray
  | 1 => spX11_fails
  | 2 => spX11_isCell
  | 3 => spX11_puts
  | _ => fun _ _ _ _ => False
theorem SX11_pour_0 : SX11_pour 0 = spX11_isTray := Eq.trans rfl rfl
theorem SX11_pour_1 : SX11_pour 1 = spX11_fails := Eq.trans rfl rfl
theorem SX11_pour_2 : SX11_pour 2 = spX11_isCell := Eq.trans rfl rfl
theorem SX11_pour_3 : SX11_pour 3 = spX11_puts := Eq.trans rfl rfl
theorem cutsX11_pour {t : Nat} {bs : List Bool} (h : cutX11_pour t = some bs) : (t = 55 ∧ bs = [true, true, true, true]) ∨ (t = 109 ∧ bs = [true, true, true, true]) := by
  unfold cutX11_pour at h
  simp only [mLk] at h
  by_cases h0 : 55 = t
  · subst h0
    simp at h
    exact Or.inl ⟨rfl, h.symm⟩
  rw [if_neg h0] at h
  by_cases h1 : 109 = t
  · subst h1
    simp at h
    exact Or.inr (⟨rfl, h.symm⟩)
  rw [if_neg h1] at h
  cases h
set_option maxRecDepth 100000 in
set_option maxHeartbeats 1000000 in
theorem vcX11_pour (fl : Nat → Bool) (avs : List mV) (I : mM) (Q : mO → mM → Prop) (hsp : spX11_pour fl avs I Q) : mVC SX11_pour fl Q kX11_pour cutX11_pour 4 avs I := by
  obtain ⟨i, tt, rfl, h0⟩ := shRI_inv hsp
  obtain ⟨rfl, hT, rt, h1, h2, h3, h4⟩ := h0
  refine ⟨rfl, (fun m pc lv st I1 => st = [] ∧ trayP tt ∧ ¬ I 216 tt = -1 ∧ I 217 tt ≤ 9 ∧ ∃ j : Nat, lv = [some (mR (some 200)), some (mI tt), some (mI (I 217 tt)), some (mI j)] ∧ j ≤ (I 217 tt).toNat ∧ (if pc = 55 then I1 = mSet I 200 3 0 ∧ (∀ k : Int, 0 ≤ k → k < j → -1 ≤ I 218 (40 * tt + k) ∧ I 218 (40 * tt + k) ≤ 288) ∧ m = 20 + (9 - j) else pourP I tt ∧ I1 = rowM (mSet I 200 3 0) (stR (I 201) (pourS I tt j)) ∧ m = 9 - j)), ?_, ?_⟩
  · intro n t bs hbs lv st I1 hc
    rcases cutsX11_pour hbs with ⟨rfl, rfl⟩ | ⟨rfl, rfl⟩
    · skip
      rw [sfxX11_pour_55]
      obtain ⟨rfl, kt, ks, k9, j, rfl, hj, rfl, hp, hm⟩ := hc
      have hq := hT.1 tt kt.1 kt.2
      have hr := fun z : (j : Int) < I 217 tt => hT.2 (40 * tt + j) (by omega) (by omega)
      simp only [false_and, and_false, true_or, or_true, false_or, or_false, true_and, and_true, true_implies, false_implies, implies_true, not_true_eq_false, not_false_eq_true, and_self, List.length_cons, List.length_nil, mNoCut_, mCat_n, mCat_I, mCat_L, mCat_R, mIsL_n, mIsL_I, mIsL_R, mIsL_L, Nat.reduceAdd, Nat.reduceSub, Nat.reduceLeDiff, Nat.reduceLT, Nat.reduceEqDiff, Nat.zero_le, Int.reduceEq, Int.reduceLT, Int.reduceLE, Int.reduceNeg, Int.reduceAdd, if_true, if_false, reduceIte, reduceCtorEq, Bool.false_eq_true, ne_eq, qCmp_0, qCmp_1, qCmp_2, qCmp_3, qCmp_4, qCmp_5, ib_0, ib_1, ib_2, lb_0, lb_1, lb_2, dv_0, dv_1, wq_ic, wq_lc, wq_ld_i, wq_ld_a, wq_st_i, wq_iinc, wq_ib, wq_l2i, wq_icmp, wq_if, wq_lcmp, wq_goto, wq_get, mGet_0, mGet_1, mGet_2, mGet_3, wq_putI, wq_putL, wq_ald, wq_ret0, wq_ret1, wq_ret2, wq_ret3, wq_ret4, ldR0, mrg_0_, fk_11_3, ldI1, wq_callS1_1, mrg_1_, wq_callV2_0, fk_11_33, mrg_m1_, mrg_2_, fk_11_34, stI2, ldI2, mrg_9_, mrg_3_, stI3, ldI3, fk_11_35, mrg_40_, wqinc3, wq_callV3_0, mPut_s, mPut_I0, mPut_R0, mPut_L0, mPut_I1, mPut_R1, mPut_L1, mGo_n, sfxX11_pour_18, cutX11_pour_18, sfxX11_pour_34, cutX11_pour_34, sfxX11_pour_53, cutX11_pour_53, sfxX11_pour_55, cutX11_pour_55, sfxX11_pour_101, cutX11_pour_101, sfxX11_pour_107, cutX11_pour_107, sfxX11_pour_109, cutX11_pour_109, sfxX11_pour_137, cutX11_pour_137, wq_cut, mGo_c, mMask_t, mMask_f, mMask_n, kX11_pour_137, kX11_pour_109, kX11_pour_107, kX11_pour_101, kX11_pour_55, kX11_pour_53, kX11_pour_34, kX11_pour_18, kX11_pour_0, sk_200, al_200, rf_200_33, sk_216, al_216, sn_216, rf_200_34, sk_217, al_217, sn_217, rf_200_35, sk_218, al_218, sn_218, ald_n, ro0_n, al_ro, SX11_pour_0, SX11_pour_1, SX11_pour_2, SX11_pour_3, shqI_, shqRI_, shqL_, shqRII_, spX11_isTray, spX11_fails, spX11_isCell, spX11_puts, mrg, mrl, mSet_ap, ncast, Option.some.injEq, set_over1]
      (try simp only [mrg, mrl] at *) <;> repeat' (first | (with_reducible assumption) | (with_reducible apply And.intro) | intro _)
      all_goals first | omega | assumption | exact (hr (by omega)).1 | exact (hr (by omega)).2 | exact h3 kt ks (fun z => by have := z.2 j (by omega) (by omega); omega) | exact ⟨20 + (9 - (j + 1)), by omega, kt, ks, k9, j + 1, rfl, by omega, fun k k0 k1 => (Decidable.em (k = (j : Int))).elim (fun q => by rw [q]; omega) (fun q => hp k k0 (by omega)), rfl⟩ | exact ⟨9, by omega, kt, ks, k9, 0, rfl, by omega, ⟨k9, fun k k0 k1 => hp k k0 (by omega)⟩, by (have e := rowM_self (mSet I 200 3 0)); rw [set_201] at e; refine e.symm.trans ?_; congr 1; refine (stR_self _).symm.trans (stR_cong _ (fun f f0 f1 => ?_)); unfold pourS; rw [if_neg (by omega)], rfl⟩ | skip
    · skip
      rw [sfxX11_pour_109]
      obtain ⟨rfl, kt, ks, k9, j, rfl, hj, hp, rfl, hm⟩ := hc
      have hq := hT.1 tt kt.1 kt.2
      have eu : ∀ f : Int, 0 ≤ f → f < 9 → updS (pourS I tt j) j (I 218 (40 * tt + j)) f = pourS I tt ((j + 1 : Nat) : Int) f := fun f f0 f1 => by
        simp only [updS, pourS]
        by_cases q : f = j
        · rw [if_pos q, if_pos (by omega), q]
        · rw [if_neg q]
          by_cases q2 : f < (j : Int)
          · rw [if_pos q2, if_pos (by omega)]
          · rw [if_neg q2, if_neg (by omega)]
      have em : (j : Int) < 9 → mSet (rowM (mSet I 200 3 0) (stR (I 201) (pourS I tt j))) 201 (550 + 5 * (j : Int)) (I 218 (40 * tt + j)) = rowM (mSet I 200 3 0) (stR (I 201) (pourS I tt ((j + 1 : Nat) : Int))) := fun z => by
        rw [rowM_put, putT_stR _ _ _ ⟨by omega, z⟩, stR_cong _ eu]
      simp only [false_and, and_false, true_or, or_true, false_or, or_false, true_and, and_true, true_implies, false_implies, implies_true, not_true_eq_false, not_false_eq_true, and_self, List.length_cons, List.length_nil, mNoCut_, mCat_n, mCat_I, mCat_L, mCat_R, mIsL_n, mIsL_I, mIsL_R, mIsL_L, Nat.reduceAdd, Nat.reduceSub, Nat.reduceLeDiff, Nat.reduceLT, Nat.reduceEqDiff, Nat.zero_le, Int.reduceEq, Int.reduceLT, Int.reduceLE, Int.reduceNeg, Int.reduceAdd, if_true, if_false, reduceIte, reduceCtorEq, Bool.false_eq_true, ne_eq, qCmp_0, qCmp_1, qCmp_2, qCmp_3, qCmp_4, qCmp_5, ib_0, ib_1, ib_2, lb_0, lb_1, lb_2, dv_0, dv_1, wq_ic, wq_lc, wq_ld_i, wq_ld_a, wq_st_i, wq_iinc, wq_ib, wq_l2i, wq_icmp, wq_if, wq_lcmp, wq_goto, wq_get, mGet_0, mGet_1, mGet_2, mGet_3, wq_putI, wq_putL, wq_ald, wq_ret0, wq_ret1, wq_ret2, wq_ret3, wq_ret4, ldR0, mrg_0_, fk_11_3, ldI1, wq_callS1_1, mrg_1_, wq_callV2_0, fk_11_33, mrg_m1_, mrg_2_, fk_11_34, stI2, ldI2, mrg_9_, mrg_3_, stI3, ldI3, fk_11_35, mrg_40_, wqinc3, wq_callV3_0, mPut_s, mPut_I0, mPut_R0, mPut_L0, mPut_I1, mPut_R1, mPut_L1, mGo_n, sfxX11_pour_18, cutX11_pour_18, sfxX11_pour_34, cutX11_pour_34, sfxX11_pour_53, cutX11_pour_53, sfxX11_pour_55, cutX11_pour_55, sfxX11_pour_101, cutX11_pour_101, sfxX11_pour_107, cutX11_pour_107, sfxX11_pour_109, cutX11_pour_109, sfxX11_pour_137, cutX11_pour_137, wq_cut, mGo_c, mMask_t, mMask_f, mMask_n, kX11_pour_137, kX11_pour_109, kX11_pour_107, kX11_pour_101, kX11_pour_55, kX11_pour_53, kX11_pour_34, kX11_pour_18, kX11_pour_0, sk_200, al_200, rf_200_33, sk_216, al_216, sn_216, rf_200_34, sk_217, al_217, sn_217, rf_200_35, sk_218, al_218, sn_218, ald_n, ro0_n, al_ro, SX11_pour_0, SX11_pour_1, SX11_pour_2, SX11_pour_3, shqI_, shqRI_, shqL_, shqRII_, spX11_isTray, spX11_fails, spX11_isCell, spX11_puts, mrg, mrl, mSet_ap, ncast, Option.some.injEq, rowM_ne, set_ne]
      (try simp only [mrg, mrl] at *) <;> repeat' (first | (with_reducible assumption) | (with_reducible apply And.intro) | intro _)
      all_goals first | omega | assumption | (have e : (j : Int) = I 217 tt := by omega); rw [e]; exact h4 kt ks hp | exact ⟨9 - (j + 1), by omega, kt, ks, k9, j + 1, rfl, by omega, hp, em (by omega), rfl⟩ | skip
  · show mWp _ _ _ _ _ _ kX11_pour_0 [some (mR (some 200)), some (mI tt), none, none] [] I
    have hq := fun kt : trayP tt => hT.1 tt kt.1 kt.2
    simp only [false_and, and_false, true_or, or_true, false_or, or_false, true_and, and_true, true_implies, false_implies, implies_true, not_true_eq_false, not_false_eq_true, and_self, List.length_cons, List.length_nil, mNoCut_, mCat_n, mCat_I, mCat_L, mCat_R, mIsL_n, mIsL_I, mIsL_R, mIsL_L, Nat.reduceAdd, Nat.reduceSub, Nat.reduceLeDiff, Nat.reduceLT, Nat.reduceEqDiff, Nat.zero_le, Int.reduceEq, Int.reduceLT, Int.reduceLE, Int.reduceNeg, Int.reduceAdd, if_true, if_false, reduceIte, reduceCtorEq, Bool.false_eq_true, ne_eq, qCmp_0, qCmp_1, qCmp_2, qCmp_3, qCmp_4, qCmp_5, ib_0, ib_1, ib_2, lb_0, lb_1, lb_2, dv_0, dv_1, wq_ic, wq_lc, wq_ld_i, wq_ld_a, wq_st_i, wq_iinc, wq_ib, wq_l2i, wq_icmp, wq_if, wq_lcmp, wq_goto, wq_get, mGet_0, mGet_1, mGet_2, mGet_3, wq_putI, wq_putL, wq_ald, wq_ret0, wq_ret1, wq_ret2, wq_ret3, wq_ret4, ldR0, mrg_0_, fk_11_3, ldI1, wq_callS1_1, mrg_1_, wq_callV2_0, fk_11_33, mrg_m1_, mrg_2_, fk_11_34, stI2, ldI2, mrg_9_, mrg_3_, stI3, ldI3, fk_11_35, mrg_40_, wqinc3, wq_callV3_0, mPut_s, mPut_I0, mPut_R0, mPut_L0, mPut_I1, mPut_R1, mPut_L1, mGo_n, sfxX11_pour_18, cutX11_pour_18, sfxX11_pour_34, cutX11_pour_34, sfxX11_pour_53, cutX11_pour_53, sfxX11_pour_55, cutX11_pour_55, sfxX11_pour_101, cutX11_pour_101, sfxX11_pour_107, cutX11_pour_107, sfxX11_pour_109, cutX11_pour_109, sfxX11_pour_137, cutX11_pour_137, wq_cut, mGo_c, mMask_t, mMask_f, mMask_n, kX11_pour_137, kX11_pour_109, kX11_pour_107, kX11_pour_101, kX11_pour_55, kX11_pour_53, kX11_pour_34, kX11_pour_18, kX11_pour_0, sk_200, al_200, rf_200_33, sk_216, al_216, sn_216, rf_200_34, sk_217, al_217, sn_217, rf_200_35, sk_218, al_218, sn_218, ald_n, ro0_n, al_ro, SX11_pour_0, SX11_pour_1, SX11_pour_2, SX11_pour_3, shqI_, shqRI_, shqL_, shqRII_, spX11_isTray, spX11_fails, spX11_isCell, spX11_puts, mrg, mrl, mSet_ap, ncast, Option.some.injEq, set_201, set_over1]
    (try simp only [mrg, mrl] at *) <;> repeat' (first | (with_reducible assumption) | (with_reducible apply And.intro) | intro _)
    all_goals first | omega | assumption | exact h1 (by omega) | exact h2 (by omega) (by omega) | exact h3 (by omega) (by omega) (fun z => by have := z.1; omega) | exact ⟨29, by omega, by omega, by omega, 0, rfl, by omega, fun k k0 k1 => by omega, rfl⟩ | skip
theorem ctrX11_pour {l : Launch} (hst : l.stackTraces = false) (hT : mTxM l) : mCtr l calX11_pour spX11_pour :=
  mMet (T := TX11_pour) (S := SX11_pour) hst hT cutX11_pour (by decide) okX11_pour ⟨_, _, rfl, rfl⟩ trivial (fun t bs h => by rcases cutsX11_pour h with ⟨-, rfl⟩ | ⟨-, rfl⟩ <;> rfl) (fun a => match a with
    | 0 => ctrX11_isTray hst hT
    | 1 => ctrX11_fails hst hT
    | 2 => ctrX11_isCell hst hT
    | 3 => ctrX11_puts hst hT
    | _ + 4 => mCtr_no) vcX11_pour

def spX11_image : mSp := shRI (fun _ i k I Q => i = some 200 ∧ mrg k ∧ (¬ (0 ≤ k ∧ k ≤ 2) → Q (.inl none) (mSet I 200 3 1)) ∧ ((0 ≤ k ∧ k ≤ 2) → Q (.inl none) (copyM (mSet (mSet I 200 3 0) 203 k 1) 202 (635 * k) (I 201) 635)))
def SX11_image : Nat → mSp := fun a => match a with
  | 0 => spX11_within
  | _ => fun _ _ _ _ => False
theorem SX11_image_0 : SX11_image 0 = spX11_within := Eq.trans rfl rfl
theorem cutsX11_image {t : Nat} {bs : List Bool} (h : cutX11_image t = some bs) : (t = 38 ∧ bs = [true, true, true]) := by
  unfold cutX11_image at h
  simp only [mLk] at h
  by_cases h0 : 38 = t
  · subst h0
    simp at h
    exact ⟨rfl, h.symm⟩
  rw [if_neg h0] at h
  cases h
set_option maxRecDepth 100000 in
set_option maxHeartbeats 1000000 in
theorem vcX11_image (fl : Nat → Bool) (avs : List mV) (I : mM) (Q : mO → mM → Prop) (hsp : spX11_image fl avs I Q) : mVC SX11_image fl Q kX11_image cutX11_image 3 avs I := by
  obtain ⟨i, k, rfl, h0⟩ := shRI_inv hsp
  obtain ⟨rfl, rk, h1, h2⟩ := h0
  refine ⟨rfl, (fun m pc lv st I1 => st = [] ∧ (0 ≤ k ∧ k ≤ 2) ∧ ∃ j : Nat, I1 = copyM (mSet (mSet I 200 3 0) 203 k 1) 202 (635 * k) (I 201) j ∧ lv = [some (mR (some 200)), some (mI k), some (mI j)] ∧ j ≤ 635 ∧ m = 635 - j), ?_, ?_⟩
  · intro n t bs hbs lv st I1 hc
    rcases cutsX11_image hbs with ⟨rfl, rfl⟩
    rw [sfxX11_image_38]
    obtain ⟨rfl, kk, j, rfl, rfl, hj, hm⟩ := hc
    have em := copyM_s (mSet (mSet I 200 3 0) 203 k 1) 202 (635 * k) (I 201) (n := j) (v := I 201 j) (by omega) rfl
    have er : copyM (mSet (mSet I 200 3 0) 203 k 1) 202 (635 * k) (I 201) j 201 = I 201 := by rw [copyM_ne _ _ _ _ (by decide), set_ne (by decide), set_ne (by decide)]
    simp only [false_and, and_false, true_or, or_true, false_or, or_false, true_and, and_true, true_implies, false_implies, implies_true, not_true_eq_false, not_false_eq_true, and_self, List.length_cons, List.length_nil, mNoCut_, mCat_n, mCat_I, mCat_L, mCat_R, mIsL_n, mIsL_I, mIsL_R, mIsL_L, Nat.reduceAdd, Nat.reduceSub, Nat.reduceLeDiff, Nat.reduceLT, Nat.reduceEqDiff, Nat.zero_le, Int.reduceEq, Int.reduceLT, Int.reduceLE, Int.reduceNeg, Int.reduceAdd, if_true, if_false, reduceIte, reduceCtorEq, Bool.false_eq_true, ne_eq, qCmp_0, qCmp_1, qCmp_2, qCmp_3, qCmp_4, qCmp_5, ib_0, ib_1, ib_2, lb_0, lb_1, lb_2, dv_0, dv_1, wq_ic, wq_lc, wq_ld_i, wq_ld_a, wq_st_i, wq_iinc, wq_ib, wq_i2l, wq_icmp, wq_if, wq_goto, wq_get, mGet_0, mGet_1, mGet_2, mGet_3, wq_putI, wq_putL, wq_ald, wq_astI, wq_astL, wq_ret0, wq_ret1, wq_ret2, wq_ret3, wq_ret4, ldR0, ldI1, wq_callS3_1, mrg_0_, mrg_1_, fk_11_3, fk_11_2, stI2, ldI2, mrg_635_, fk_11_1, fk_11_0, wqinc2, mPut_s, mPut_I0, mPut_R0, mPut_L0, mPut_I1, mPut_R1, mPut_L1, mGo_n, sfxX11_image_17, cutX11_image_17, sfxX11_image_18, cutX11_image_18, sfxX11_image_29, cutX11_image_29, sfxX11_image_38, cutX11_image_38, sfxX11_image_69, cutX11_image_69, wq_cut, mGo_c, mMask_t, mMask_f, mMask_n, kX11_image_69, kX11_image_38, kX11_image_29, kX11_image_18, kX11_image_17, kX11_image_0, sk_200, al_200, rf_200_2, sk_203, al_203, sn_203, rf_200_1, sk_202, al_202, sn_202, rf_200_0, sk_201, al_201, sn_201, ald_n, ro0_n, al_ro, SX11_image_0, shqLLL_, spX11_within, mrg, mrl, mSet_ap, ncast, Option.some.injEq, er, em]
    (try simp only [mrg, mrl] at *) <;> repeat' (first | (with_reducible assumption) | (with_reducible apply And.intro) | intro _)
    all_goals first | omega | (have e : j = 635 := by omega); subst e; exact h2 kk | exact ⟨635 - (j + 1), by omega, kk, j + 1, rfl, rfl, by omega, rfl⟩ | skip
  · show mWp _ _ _ _ _ _ kX11_image_0 [some (mR (some 200)), some (mI k), none] [] I
    simp only [false_and, and_false, true_or, or_true, false_or, or_false, true_and, and_true, true_implies, false_implies, implies_true, not_true_eq_false, not_false_eq_true, and_self, List.length_cons, List.length_nil, mNoCut_, mCat_n, mCat_I, mCat_L, mCat_R, mIsL_n, mIsL_I, mIsL_R, mIsL_L, Nat.reduceAdd, Nat.reduceSub, Nat.reduceLeDiff, Nat.reduceLT, Nat.reduceEqDiff, Nat.zero_le, Int.reduceEq, Int.reduceLT, Int.reduceLE, Int.reduceNeg, Int.reduceAdd, if_true, if_false, reduceIte, reduceCtorEq, Bool.false_eq_true, ne_eq, qCmp_0, qCmp_1, qCmp_2, qCmp_3, qCmp_4, qCmp_5, ib_0, ib_1, ib_2, lb_0, lb_1, lb_2, dv_0, dv_1, wq_ic, wq_lc, wq_ld_i, wq_ld_a, wq_st_i, wq_iinc, wq_ib, wq_i2l, wq_icmp, wq_if, wq_goto, wq_get, mGet_0, mGet_1, mGet_2, mGet_3, wq_putI, wq_putL, wq_ald, wq_astI, wq_astL, wq_ret0, wq_ret1, wq_ret2, wq_ret3, wq_ret4, ldR0, ldI1, wq_callS3_1, mrg_0_, mrg_1_, fk_11_3, fk_11_2, stI2, ldI2, mrg_635_, fk_11_1, fk_11_0, wqinc2, mPut_s, mPut_I0, mPut_R0, mPut_L0, mPut_I1, mPut_R1, mPut_L1, mGo_n, sfxX11_image_17, cutX11_image_17, sfxX11_image_18, cutX11_image_18, sfxX11_image_29, cutX11_image_29, sfxX11_image_38, cutX11_image_38, sfxX11_image_69, cutX11_image_69, wq_cut, mGo_c, mMask_t, mMask_f, mMask_n, kX11_image_69, kX11_image_38, kX11_image_29, kX11_image_18, kX11_image_17, kX11_image_0, sk_200, al_200, rf_200_2, sk_203, al_203, sn_203, rf_200_1, sk_202, al_202, sn_202, rf_200_0, sk_201, al_201, sn_201, ald_n, ro0_n, al_ro, SX11_image_0, shqLLL_, spX11_within, mrg, mrl, mSet_ap, ncast, Option.some.injEq, set_201, set_over1]
    (try simp only [mrg, mrl] at *) <;> repeat' (first | (with_reducible assumption) | (with_reducible apply And.intro) | intro _)
    all_goals first | omega | assumption | exact h1 (by omega) | exact ⟨635, by omega, 0, (copyM_0 _ _ _ _).symm, rfl, by omega, rfl⟩ | skip
theorem ctrX11_image {l : Launch} (hst : l.stackTraces = false) (hT : mTxM l) : mCtr l calX11_image spX11_image :=
  mMet (T := TX11_image) (S := SX11_image) hst hT cutX11_image (by decide) okX11_image ⟨_, _, rfl, rfl⟩ trivial (fun t bs h => by rcases cutsX11_image h with ⟨-, rfl⟩ <;> rfl) (fun a => match a with
    | 0 => ctrX11_within hst hT
    | _ + 1 => mCtr_no) vcX11_image

def spX11_restore : mSp := shRI (fun _ i k I Q => i = some 200 ∧ mrg k ∧ ((0 ≤ k ∧ k ≤ 2) → I 203 k = 0 ∨ I 203 k = 1) ∧ (¬ (0 ≤ k ∧ k ≤ 2) → Q (.inl none) (mSet I 200 3 1)) ∧ ((0 ≤ k ∧ k ≤ 2) → I 203 k = 0 → Q (.inl none) (mSet I 200 3 2)) ∧ ((0 ≤ k ∧ k ≤ 2) → I 203 k = 1 → Q (.inl none) (copyM (mSet I 200 3 0) 201 0 (fun q => I 202 (635 * k + q)) 635)))
def SX11_restore : Nat → mSp := fun a => match a with
  | 0 => spX11_within
  | _ => fun _ _ _ _ => False
theorem SX11_restore_0 : SX11_restore 0 = spX11_within := Eq.trans rfl rfl
theorem cutsX11_restore {t : Nat} {bs : List Bool} (h : cutX11_restore t = some bs) : (t = 44 ∧ bs = [true, true, true]) := by
  unfold cutX11_restore at h
  simp only [mLk] at h
  by_cases h0 : 44 = t
  · subst h0
    simp at h
    exact ⟨rfl, h.symm⟩
  rw [if_neg h0] at h
  cases h
set_option maxRecDepth 100000 in
set_option maxHeartbeats 1000000 in
theorem vcX11_restore (fl : Nat → Bool) (avs : List mV) (I : mM) (Q : mO → mM → Prop) (hsp : spX11_restore fl avs I Q) : mVC SX11_restore fl Q kX11_restore cutX11_restore 3 avs I := by
  obtain ⟨i, k, rfl, h0⟩ := shRI_inv hsp
  obtain ⟨rfl, rk, r3, h1, h2, h3⟩ := h0
  refine ⟨rfl, (fun m pc lv st I1 => st = [] ∧ (0 ≤ k ∧ k ≤ 2) ∧ I 203 k = 1 ∧ ∃ j : Nat, I1 = copyM (mSet I 200 3 0) 201 0 (fun q => I 202 (635 * k + q)) j ∧ lv = [some (mR (some 200)), some (mI k), some (mI j)] ∧ j ≤ 635 ∧ m = 635 - j), ?_, ?_⟩
  · intro n t bs hbs lv st I1 hc
    rcases cutsX11_restore hbs with ⟨rfl, rfl⟩
    rw [sfxX11_restore_44]
    obtain ⟨rfl, kk, k3, j, rfl, rfl, hj, hm⟩ := hc
    have em := copyM_s (mSet I 200 3 0) 201 0 (fun q => I 202 (635 * k + q)) (n := j) (v := I 202 (635 * k + j)) (by omega) rfl
    rw [Int.zero_add] at em
    have er : copyM (mSet I 200 3 0) 201 0 (fun q => I 202 (635 * k + q)) j 202 = I 202 := by rw [copyM_ne _ _ _ _ (by decide), set_ne (by decide)]
    simp only [false_and, and_false, true_or, or_true, false_or, or_false, true_and, and_true, true_implies, false_implies, implies_true, not_true_eq_false, not_false_eq_true, and_self, List.length_cons, List.length_nil, mNoCut_, mCat_n, mCat_I, mCat_L, mCat_R, mIsL_n, mIsL_I, mIsL_R, mIsL_L, Nat.reduceAdd, Nat.reduceSub, Nat.reduceLeDiff, Nat.reduceLT, Nat.reduceEqDiff, Nat.zero_le, Int.reduceEq, Int.reduceLT, Int.reduceLE, Int.reduceNeg, Int.reduceAdd, if_true, if_false, reduceIte, reduceCtorEq, Bool.false_eq_true, ne_eq, qCmp_0, qCmp_1, qCmp_2, qCmp_3, qCmp_4, qCmp_5, ib_0, ib_1, ib_2, lb_0, lb_1, lb_2, dv_0, dv_1, wq_ic, wq_lc, wq_ld_i, wq_ld_a, wq_st_i, wq_iinc, wq_ib, wq_i2l, wq_icmp, wq_if, wq_goto, wq_get, mGet_0, mGet_1, mGet_2, mGet_3, wq_putI, wq_putL, wq_ald, wq_astI, wq_astL, wq_ret0, wq_ret1, wq_ret2, wq_ret3, wq_ret4, ldR0, ldI1, wq_callS3_1, mrg_1_, fk_11_2, mrg_2_, mrg_0_, fk_11_3, stI2, ldI2, mrg_635_, fk_11_0, fk_11_1, wqinc2, mPut_s, mPut_I0, mPut_R0, mPut_L0, mPut_I1, mPut_R1, mPut_L1, mGo_n, sfxX11_restore_17, cutX11_restore_17, sfxX11_restore_30, cutX11_restore_30, sfxX11_restore_31, cutX11_restore_31, sfxX11_restore_42, cutX11_restore_42, sfxX11_restore_44, cutX11_restore_44, sfxX11_restore_75, cutX11_restore_75, wq_cut, mGo_c, mMask_t, mMask_f, mMask_n, kX11_restore_75, kX11_restore_44, kX11_restore_42, kX11_restore_31, kX11_restore_30, kX11_restore_17, kX11_restore_0, sk_200, al_200, rf_200_2, sk_203, al_203, sn_203, rf_200_0, sk_201, al_201, sn_201, rf_200_1, sk_202, al_202, sn_202, ald_n, ro0_n, al_ro, SX11_restore_0, shqLLL_, spX11_within, mrg, mrl, mSet_ap, ncast, Option.some.injEq, er, em]
    (try simp only [mrg, mrl] at *) <;> repeat' (first | (with_reducible assumption) | (with_reducible apply And.intro) | intro _)
    all_goals first | omega | (have e : j = 635 := by omega); subst e; exact h3 kk k3 | exact ⟨635 - (j + 1), by omega, kk, k3, j + 1, rfl, rfl, by omega, rfl⟩ | skip
  · show mWp _ _ _ _ _ _ kX11_restore_0 [some (mR (some 200)), some (mI k), none] [] I
    simp only [false_and, and_false, true_or, or_true, false_or, or_false, true_and, and_true, true_implies, false_implies, implies_true, not_true_eq_false, not_false_eq_true, and_self, List.length_cons, List.length_nil, mNoCut_, mCat_n, mCat_I, mCat_L, mCat_R, mIsL_n, mIsL_I, mIsL_R, mIsL_L, Nat.reduceAdd, Nat.reduceSub, Nat.reduceLeDiff, Nat.reduceLT, Nat.reduceEqDiff, Nat.zero_le, Int.reduceEq, Int.reduceLT, Int.reduceLE, Int.reduceNeg, Int.reduceAdd, if_true, if_false, reduceIte, reduceCtorEq, Bool.false_eq_true, ne_eq, qCmp_0, qCmp_1, qCmp_2, qCmp_3, qCmp_4, qCmp_5, ib_0, ib_1, ib_2, lb_0, lb_1, lb_2, dv_0, dv_1, wq_ic, wq_lc, wq_ld_i, wq_ld_a, wq_st_i, wq_iinc, wq_ib, wq_i2l, wq_icmp, wq_if, wq_goto, wq_get, mGet_0, mGet_1, mGet_2, mGet_3, wq_putI, wq_putL, wq_ald, wq_astI, wq_astL, wq_ret0, wq_ret1, wq_ret2, wq_ret3, wq_ret4, ldR0, ldI1, wq_callS3_1, mrg_1_, fk_11_2, mrg_2_, mrg_0_, fk_11_3, stI2, ldI2, mrg_635_, fk_11_0, fk_11_1, wqinc2, mPut_s, mPut_I0, mPut_R0, mPut_L0, mPut_I1, mPut_R1, mPut_L1, mGo_n, sfxX11_restore_17, cutX11_restore_17, sfxX11_restore_30, cutX11_restore_30, sfxX11_restore_31, cutX11_restore_31, sfxX11_restore_42, cutX11_restore_42, sfxX11_restore_44, cutX11_restore_44, sfxX11_restore_75, cutX11_restore_75, wq_cut, mGo_c, mMask_t, mMask_f, mMask_n, kX11_restore_75, kX11_restore_44, kX11_restore_42, kX11_restore_31, kX11_restore_30, kX11_restore_17, kX11_restore_0, sk_200, al_200, rf_200_2, sk_203, al_203, sn_203, rf_200_0, sk_201, al_201, sn_201, rf_200_1, sk_202, al_202, sn_202, ald_n, ro0_n, al_ro, SX11_restore_0, shqLLL_, spX11_within, mrg, mrl, mSet_ap, ncast, Option.some.injEq, set_201, set_over1]
    (try simp only [mrg, mrl] at *) <;> repeat' (first | (with_reducible assumption) | (with_reducible apply And.intro) | intro _)
    all_goals first | omega | assumption | exact h1 (by omega) | exact h2 (by omega) (by omega) | exact ⟨635, by omega, by omega, 0, (copyM_0 _ _ _ _).symm, rfl, by omega, rfl⟩ | skip
theorem ctrX11_restore {l : Launch} (hst : l.stackTraces = false) (hT : mTxM l) : mCtr l calX11_restore spX11_restore :=
  mMet (T := TX11_restore) (S := SX11_restore) hst hT cutX11_restore (by decide) okX11_restore ⟨_, _, rfl, rfl⟩ trivial (fun t bs h => by rcases cutsX11_restore h with ⟨-, rfl⟩ <;> rfl) (fun a => match a with
    | 0 => ctrX11_within hst hT
    | _ + 1 => mCtr_no) vcX11_restore

def cntN (t : Int → Int) : Nat → Int
  | 0 => 0
  | n + 1 => cntN t n + if stT t n = -1 then 0 else 1
def bitN (t : Int → Int) : Nat → Int
  | 0 => 0
  | n + 1 => bitN t n + 2 ^ n * t (595 + 10 * (n : Int))
theorem bitN_bd {t : Int → Int} (H : WFt t) : ∀ n : Nat, n ≤ 4 → 0 ≤ bitN t n ∧ bitN t n < 2 ^ n
  | 0, _ => by simp [bitN]
  | n + 1, hn => by
    have ih := bitN_bd H n (by omega)
    have hk := (H.2.2.2.2.2.2 n (by omega) (by omega)).1
    simp only [bitN, Int.pow_succ]
    rcases (show t (595 + 10 * (n : Int)) = 0 ∨ t (595 + 10 * (n : Int)) = 1 by omega) with e | e <;> rw [e] <;> omega
theorem bit_or : ∀ n : Nat, n < 4 → ∀ x : Nat, x < 2 ^ n → ∀ y : Nat, y < 2 → ib 4 (x : Int) (ib 6 (y : Int) (n : Int)) = (x : Int) + 2 ^ n * (y : Int) := by decide +kernel
def spX11_count : mSp := shRI (fun _ i w I Q => i = some 200 ∧ WFt (I 201) ∧ mrg w ∧ (0 ≤ w ∧ w ≤ 5 → Q (.inl (some (mI (I 201 w)))) (mSet I 200 3 0)) ∧ (100 ≤ w ∧ w < 389 → Q (.inl (some (mI (I 201 (20 + w - 100))))) (mSet I 200 3 0)) ∧ (w = 6 → Q (.inl (some (mI (cntN (I 201) 9)))) (mSet I 200 3 0)) ∧ (w = 7 → Q (.inl (some (mI (I 200 6)))) (mSet I 200 3 0)) ∧ (w = 8 → Q (.inl (some (mI (I 201 6)))) (mSet I 200 3 0)) ∧ (w = 9 → Q (.inl (some (mI (I 201 7)))) (mSet I 200 3 0)) ∧ (w = 10 → Q (.inl (some (mI (I 201 8)))) (mSet I 200 3 0)) ∧ (w = 11 → Q (.inl (some (mI (bitN (I 201) 4)))) (mSet I 200 3 0)) ∧ (¬ (0 ≤ w ∧ w ≤ 11) ∧ ¬ (100 ≤ w ∧ w < 389) → Q (.inl (some (mI (-1)))) (mSet I 200 3 0)))
def SX11_count : Nat → mSp := fun a => match a with
  | 0 => spX11_within
  | 1 => spX11_standOf
  | _ => fun _ _ _ _ => False
theorem SX11_count_0 : SX11_count 0 = spX11_within := Eq.trans rfl rfl
theorem SX11_count_1 : SX11_count 1 = spX11_standOf := Eq.trans rfl rfl
theorem cutsX11_count {t : Nat} {bs : List Bool} (h : cutX11_count t = some bs) : (t = 98 ∧ bs = [true, false, true, true]) ∨ (t = 160 ∧ bs = [true, false, true, true]) := by
  unfold cutX11_count at h
  simp only [mLk] at h
  by_cases h0 : 98 = t
  · subst h0
    simp at h
    exact Or.inl ⟨rfl, h.symm⟩
  rw [if_neg h0] at h
  by_cases h1 : 160 = t
  · subst h1
    simp at h
    exact Or.inr (⟨rfl, h.symm⟩)
  rw [if_neg h1] at h
  cases h
set_option maxRecDepth 100000 in
set_option maxHeartbeats 8000000 in
theorem vcX11_count (fl : Nat → Bool) (avs : List mV) (I : mM) (Q : mO → mM → Prop) (hsp : spX11_count fl avs I Q) : mVC SX11_count fl Q kX11_count cutX11_count 4 avs I := by
  obtain ⟨i, w, rfl, h0⟩ := shRI_inv hsp
  obtain ⟨rfl, H, rw', h1, h2, h3, h4, h5, h6, h7, h8, h9⟩ := h0
  refine ⟨rfl, (fun m pc lv st I1 => st = [] ∧ I1 = mSet I 200 3 0 ∧ ∃ j : Nat, (if pc = 98 then lv = [some (mR (some 200)), none, some (mI (cntN (I 201) j)), some (mI j)] ∧ w = 6 ∧ j ≤ 9 ∧ m = 9 - j else lv = [some (mR (some 200)), none, some (mI (bitN (I 201) j)), some (mI j)] ∧ w = 11 ∧ j ≤ 4 ∧ m = 4 - j)), ?_, ?_⟩
  · intro n t bs hbs lv st I1 hc
    rcases cutsX11_count hbs with ⟨rfl, rfl⟩ | ⟨rfl, rfl⟩
    · skip
      rw [sfxX11_count_98]
      obtain ⟨rfl, rfl, j, rfl, hw, hj, hm⟩ := hc
      have s1 := fun z : (j : Int) < 9 => H.st j (by omega) z
      have cs : cntN (I 201) (j + 1) = cntN (I 201) j + if stT (I 201) j = -1 then 0 else 1 := rfl
      simp only [false_and, and_false, true_or, or_true, false_or, or_false, true_and, and_true, true_implies, false_implies, implies_true, not_true_eq_false, not_false_eq_true, and_self, List.length_cons, List.length_nil, mNoCut_, mCat_n, mCat_I, mCat_L, mCat_R, mIsL_n, mIsL_I, mIsL_R, mIsL_L, Nat.reduceAdd, Nat.reduceSub, Nat.reduceLeDiff, Nat.reduceLT, Nat.reduceEqDiff, Nat.zero_le, Int.reduceEq, Int.reduceLT, Int.reduceLE, Int.reduceNeg, Int.reduceAdd, if_true, if_false, reduceIte, reduceCtorEq, Bool.false_eq_true, ne_eq, qCmp_0, qCmp_1, qCmp_2, qCmp_3, qCmp_4, qCmp_5, ib_0, ib_1, ib_2, lb_0, lb_1, lb_2, dv_0, dv_1, wq_ic, wq_lc, wq_ld_i, wq_ld_a, wq_st_i, wq_iinc, wq_ib, wq_i2l, wq_icmp, wq_if, wq_goto, wq_get, mGet_0, mGet_1, mGet_2, mGet_3, wq_putI, wq_putL, wq_ald, wq_ret0, wq_ret1, wq_ret2, wq_ret3, wq_ret4, wq_sw, wqsw_n, wqsw_c, ldR0, mrg_0_, fk_11_3, stI2, ldI1, wq_callS3_1, fk_11_0, mrg_20_, mrg_100_, stI3, ldI3, mrg_9_, ldI2, wq_callV2_0, mrg_m1_, mrg_1_, wqinc3, fk_11_6, mrg_6_, mrg_7_, mrg_8_, mrg_4_, mrg_595_, mrg_10_, mPut_s, mPut_I0, mPut_R0, mPut_L0, mPut_I1, mPut_R1, mPut_L1, mGo_n, sfxX11_count_28, cutX11_count_28, sfxX11_count_55, cutX11_count_55, sfxX11_count_96, cutX11_count_96, sfxX11_count_98, cutX11_count_98, sfxX11_count_118, cutX11_count_118, sfxX11_count_119, cutX11_count_119, sfxX11_count_127, cutX11_count_127, sfxX11_count_129, cutX11_count_129, sfxX11_count_134, cutX11_count_134, sfxX11_count_142, cutX11_count_142, sfxX11_count_150, cutX11_count_150, sfxX11_count_158, cutX11_count_158, sfxX11_count_160, cutX11_count_160, sfxX11_count_189, cutX11_count_189, sfxX11_count_191, cutX11_count_191, wq_cut, mGo_c, mMask_t, mMask_f, mMask_n, kX11_count_191, kX11_count_189, kX11_count_160, kX11_count_158, kX11_count_150, kX11_count_142, kX11_count_134, kX11_count_129, kX11_count_127, kX11_count_119, kX11_count_118, kX11_count_98, kX11_count_96, kX11_count_55, kX11_count_28, kX11_count_0, sk_200, al_200, rf_200_0, sk_201, al_201, sn_201, ald_n, ro0_n, al_ro, SX11_count_0, SX11_count_1, shqLLL_, shqRI_, spX11_within, spX11_standOf, mrg, mrl, mSet_ap, ncast, Option.some.injEq, set_201]
      (try simp only [mrg, mrl] at *) <;> repeat' (first | (with_reducible assumption) | (with_reducible apply And.intro) | intro _)
      all_goals first | omega | (have e : j = 9 := by omega); subst e; exact h3 hw | exact ⟨9 - (j + 1), by omega, j + 1, by rw [cs, if_pos (by omega)]; rfl, hw, by omega, rfl⟩ | exact ⟨9 - (j + 1), by omega, j + 1, by rw [cs, if_neg (by omega)]; rfl, hw, by omega, rfl⟩ | skip
    · skip
      rw [sfxX11_count_160]
      obtain ⟨rfl, rfl, j, rfl, hw, hj, hm⟩ := hc
      have bb := bitN_bd H j hj
      have eo : j < 4 → ib 4 (bitN (I 201) j) (ib 6 (I 201 (595 + 10 * (j : Int))) (j : Int)) = bitN (I 201) (j + 1) := fun z => by
        have hk := (H.2.2.2.2.2.2 j (by omega) (by omega)).1
        have q : ∀ m : Nat, m = j → ib 4 (bitN (I 201) m) (ib 6 (I 201 (595 + 10 * (m : Int))) (m : Int)) = bitN (I 201) (m + 1) := fun m em => by
          subst em
          have bq : (bitN (I 201) m).toNat < 2 ^ m := by
            have e0 : m = 0 ∨ m = 1 ∨ m = 2 ∨ m = 3 := by omega
            rcases e0 with rfl | rfl | rfl | rfl
            · have b2 : bitN (I 201) 0 < 1 := bb.2
              show _ < 1
              omega
            · have b2 : bitN (I 201) 1 < 2 := bb.2
              show _ < 2
              omega
            · have b2 : bitN (I 201) 2 < 4 := bb.2
              show _ < 4
              omega
            · have b2 : bitN (I 201) 3 < 8 := bb.2
              show _ < 8
              omega
          have e := bit_or m z (bitN (I 201) m).toNat bq (I 201 (595 + 10 * (m : Int))).toNat (by omega)
          rw [Int.toNat_of_nonneg bb.1, Int.toNat_of_nonneg hk.1] at e
          exact e
        exact q j rfl
      simp only [false_and, and_false, true_or, or_true, false_or, or_false, true_and, and_true, true_implies, false_implies, implies_true, not_true_eq_false, not_false_eq_true, and_self, List.length_cons, List.length_nil, mNoCut_, mCat_n, mCat_I, mCat_L, mCat_R, mIsL_n, mIsL_I, mIsL_R, mIsL_L, Nat.reduceAdd, Nat.reduceSub, Nat.reduceLeDiff, Nat.reduceLT, Nat.reduceEqDiff, Nat.zero_le, Int.reduceEq, Int.reduceLT, Int.reduceLE, Int.reduceNeg, Int.reduceAdd, if_true, if_false, reduceIte, reduceCtorEq, Bool.false_eq_true, ne_eq, qCmp_0, qCmp_1, qCmp_2, qCmp_3, qCmp_4, qCmp_5, ib_0, ib_1, ib_2, lb_0, lb_1, lb_2, dv_0, dv_1, wq_ic, wq_lc, wq_ld_i, wq_ld_a, wq_st_i, wq_iinc, wq_ib, wq_i2l, wq_icmp, wq_if, wq_goto, wq_get, mGet_0, mGet_1, mGet_2, mGet_3, wq_putI, wq_putL, wq_ald, wq_ret0, wq_ret1, wq_ret2, wq_ret3, wq_ret4, wq_sw, wqsw_n, wqsw_c, ldR0, mrg_0_, fk_11_3, stI2, ldI1, wq_callS3_1, fk_11_0, mrg_20_, mrg_100_, stI3, ldI3, mrg_9_, ldI2, wq_callV2_0, mrg_m1_, mrg_1_, wqinc3, fk_11_6, mrg_6_, mrg_7_, mrg_8_, mrg_4_, mrg_595_, mrg_10_, mPut_s, mPut_I0, mPut_R0, mPut_L0, mPut_I1, mPut_R1, mPut_L1, mGo_n, sfxX11_count_28, cutX11_count_28, sfxX11_count_55, cutX11_count_55, sfxX11_count_96, cutX11_count_96, sfxX11_count_98, cutX11_count_98, sfxX11_count_118, cutX11_count_118, sfxX11_count_119, cutX11_count_119, sfxX11_count_127, cutX11_count_127, sfxX11_count_129, cutX11_count_129, sfxX11_count_134, cutX11_count_134, sfxX11_count_142, cutX11_count_142, sfxX11_count_150, cutX11_count_150, sfxX11_count_158, cutX11_count_158, sfxX11_count_160, cutX11_count_160, sfxX11_count_189, cutX11_count_189, sfxX11_count_191, cutX11_count_191, wq_cut, mGo_c, mMask_t, mMask_f, mMask_n, kX11_count_191, kX11_count_189, kX11_count_160, kX11_count_158, kX11_count_150, kX11_count_142, kX11_count_134, kX11_count_129, kX11_count_127, kX11_count_119, kX11_count_118, kX11_count_98, kX11_count_96, kX11_count_55, kX11_count_28, kX11_count_0, sk_200, al_200, rf_200_0, sk_201, al_201, sn_201, ald_n, ro0_n, al_ro, SX11_count_0, SX11_count_1, shqLLL_, shqRI_, spX11_within, spX11_standOf, mrg, mrl, mSet_ap, ncast, Option.some.injEq, set_201]
      (try simp only [mrg, mrl] at *) <;> repeat' (first | (with_reducible assumption) | (with_reducible apply And.intro) | intro _)
      all_goals first | omega | (have e : j = 4 := by omega); subst e; exact h8 hw | exact ⟨4 - (j + 1), by omega, j + 1, by rw [eo (by omega)]; rfl, hw, by omega, rfl⟩ | skip
  · show mWp _ _ _ _ _ _ kX11_count_0 [some (mR (some 200)), some (mI w), none, none] [] I
    simp only [false_and, and_false, true_or, or_true, false_or, or_false, true_and, and_true, true_implies, false_implies, implies_true, not_true_eq_false, not_false_eq_true, and_self, List.length_cons, List.length_nil, mNoCut_, mCat_n, mCat_I, mCat_L, mCat_R, mIsL_n, mIsL_I, mIsL_R, mIsL_L, Nat.reduceAdd, Nat.reduceSub, Nat.reduceLeDiff, Nat.reduceLT, Nat.reduceEqDiff, Nat.zero_le, Int.reduceEq, Int.reduceLT, Int.reduceLE, Int.reduceNeg, Int.reduceAdd, if_true, if_false, reduceIte, reduceCtorEq, Bool.false_eq_true, ne_eq, qCmp_0, qCmp_1, qCmp_2, qCmp_3, qCmp_4, qCmp_5, ib_0, ib_1, ib_2, lb_0, lb_1, lb_2, dv_0, dv_1, wq_ic, wq_lc, wq_ld_i, wq_ld_a, wq_st_i, wq_iinc, wq_ib, wq_i2l, wq_icmp, wq_if, wq_goto, wq_get, mGet_0, mGet_1, mGet_2, mGet_3, wq_putI, wq_putL, wq_ald, wq_ret0, wq_ret1, wq_ret2, wq_ret3, wq_ret4, wq_sw, wqsw_n, wqsw_c, ldR0, mrg_0_, fk_11_3, stI2, ldI1, wq_callS3_1, fk_11_0, mrg_20_, mrg_100_, stI3, ldI3, mrg_9_, ldI2, wq_callV2_0, mrg_m1_, mrg_1_, wqinc3, fk_11_6, mrg_6_, mrg_7_, mrg_8_, mrg_4_, mrg_595_, mrg_10_, mPut_s, mPut_I0, mPut_R0, mPut_L0, mPut_I1, mPut_R1, mPut_L1, mGo_n, sfxX11_count_28, cutX11_count_28, sfxX11_count_55, cutX11_count_55, sfxX11_count_96, cutX11_count_96, sfxX11_count_98, cutX11_count_98, sfxX11_count_118, cutX11_count_118, sfxX11_count_119, cutX11_count_119, sfxX11_count_127, cutX11_count_127, sfxX11_count_129, cutX11_count_129, sfxX11_count_134, cutX11_count_134, sfxX11_count_142, cutX11_count_142, sfxX11_count_150, cutX11_count_150, sfxX11_count_158, cutX11_count_158, sfxX11_count_160, cutX11_count_160, sfxX11_count_189, cutX11_count_189, sfxX11_count_191, cutX11_count_191, wq_cut, mGo_c, mMask_t, mMask_f, mMask_n, kX11_count_191, kX11_count_189, kX11_count_160, kX11_count_158, kX11_count_150, kX11_count_142, kX11_count_134, kX11_count_129, kX11_count_127, kX11_count_119, kX11_count_118, kX11_count_98, kX11_count_96, kX11_count_55, kX11_count_28, kX11_count_0, sk_200, al_200, rf_200_0, sk_201, al_201, sn_201, ald_n, ro0_n, al_ro, SX11_count_0, SX11_count_1, shqLLL_, shqRI_, spX11_within, spX11_standOf, mrg, mrl, mSet_ap, ncast, Option.some.injEq, set_201, set_over1, Int.zero_add]
    (try simp only [mrg, mrl] at *) <;> repeat' (first | (with_reducible assumption) | (with_reducible apply And.intro) | intro _)
    all_goals first | omega | assumption | exact h1 (by omega) | exact h2 (by omega) | exact h4 (by omega) | exact h5 (by omega) | exact h6 (by omega) | exact h7 (by omega) | exact h9 (by omega) | exact ⟨9, 0, rfl, by omega, by omega, rfl⟩ | exact ⟨4, 0, rfl, by omega, by omega, rfl⟩ | skip
theorem ctrX11_count {l : Launch} (hst : l.stackTraces = false) (hT : mTxM l) : mCtr l calX11_count spX11_count :=
  mMet (T := TX11_count) (S := SX11_count) hst hT cutX11_count (by decide) okX11_count ⟨_, _, rfl, rfl⟩ trivial (fun t bs h => by rcases cutsX11_count h with ⟨-, rfl⟩ | ⟨-, rfl⟩ <;> rfl) (fun a => match a with
    | 0 => ctrX11_within hst hT
    | 1 => ctrX11_standOf hst hT
    | _ + 2 => mCtr_no) vcX11_count

end SPM20
