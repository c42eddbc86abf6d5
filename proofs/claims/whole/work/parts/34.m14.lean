section SPM14
/-- the row with one FIELDER alone on the grass -/
def soloR (t : Int → Int) (f c : Int) : Int → Int := stR t (updS (fun _ => -1) f c)
abbrev mayT (t : Int → Int) (c : Int) : Prop := insT t (c % 17) (c / 17) ∧ ¬ far c 144 < t 5
/-- RUNS of a HIT as if nobody were CATCHER -/
def noCat (t : Int → Int) (b h : Int) : Int := runsButT (amT t) (stT t) (pcT t) (cellT t b h) (tickT t b h) (t 2) (airT t b h) (stepsT t b h) (-1)
def bestIn (t : Int → Int) (b h f : Int) : Nat → Int × Int → Int × Int
  | 0, p => p
  | n + 1, p => if mayT t n then (max (bestIn t b h f n p).1 (caughtT (soloR t f n) b h), min (bestIn t b h f n p).2 (noCat (soloR t f n) b h)) else bestIn t b h f n p
def bestOut (t : Int → Int) (b h : Int) : Nat → Int × Int
  | 0 => (0, if stepsT t b h < airT t b h then 6 else 4)
  | n + 1 => if stT t n = -1 then bestOut t b h n else bestIn t b h n 289 (bestOut t b h n)
def bestT (t : Int → Int) (b h : Int) : Int × Int := bestOut t b h 9
theorem solo_wf {t : Int → Int} (H : WFt t) {f c : Int} (hc : -1 ≤ c ∧ c ≤ 288) : WFt (soloR t f c) := H.sts (fun g _ _ => by
  simp only [updS]
  split <;> omega)
theorem bestIn_bd {t : Int → Int} (H : WFt t) {b h : Int} (f : Int) (hb : 0 ≤ b ∧ b < 6) (hh : 0 ≤ h ∧ h < 8) {p : Int × Int} (hp : (0 ≤ p.1 ∧ p.1 ≤ 100) ∧ (0 ≤ p.2 ∧ p.2 ≤ 6)) : ∀ n : Nat, n ≤ 289 → (0 ≤ (bestIn t b h f n p).1 ∧ (bestIn t b h f n p).1 ≤ 100) ∧ (0 ≤ (bestIn t b h f n p).2 ∧ (bestIn t b h f n p).2 ≤ 6)
  | 0, _ => hp
  | n + 1, hn => by
    have ih := bestIn_bd H f hb hh hp n (by omega)
    have Hs := solo_wf H (f := f) (c := n) ⟨by omega, by omega⟩
    have c1 := caughtT_bd Hs hb hh
    have c2 := runsBut_bd Hs (but := -1) hb hh
    have e : noCat (soloR t f n) b h = runsButT (amT (soloR t f n)) (stT (soloR t f n)) (pcT (soloR t f n)) (cellT (soloR t f n) b h) (tickT (soloR t f n) b h) (soloR t f n 2) (airT (soloR t f n) b h) (stepsT (soloR t f n) b h) (-1) := rfl
    rw [← e] at c2
    simp only [bestIn]
    split
    · dsimp only
      omega
    · exact ih
theorem bestOut_bd {t : Int → Int} (H : WFt t) {b h : Int} (hb : 0 ≤ b ∧ b < 6) (hh : 0 ≤ h ∧ h < 8) : ∀ n : Nat, (0 ≤ (bestOut t b h n).1 ∧ (bestOut t b h n).1 ≤ 100) ∧ (0 ≤ (bestOut t b h n).2 ∧ (bestOut t b h n).2 ≤ 6)
  | 0 => by
    simp only [bestOut]
    split <;> omega
  | n + 1 => by
    have ih := bestOut_bd H hb hh n
    simp only [bestOut]
    split
    · exact ih
    · exact bestIn_bd H n hb hh ih 289 (by omega)
def pBest (I I1 : mM) (p : Int × Int) : Prop := (∀ k, k ≠ 201 → k ≠ 206 → k ≠ 207 → I1 k = I k) ∧ I1 206 0 = p.1 ∧ I1 206 1 = p.2
theorem pBest.s201 {I I1 : mM} {p : Int × Int} (h : pBest I I1 p) (x c : Int) : pBest I (mSet I1 201 x c) p :=
  ⟨fun k a b c => by rw [set_ne a]; exact h.1 k a b c, by rw [set_ne (by decide)]; exact h.2.1, by rw [set_ne (by decide)]; exact h.2.2⟩
theorem pBest.s207 {I I1 : mM} {p : Int × Int} (h : pBest I I1 p) (x c : Int) : pBest I (mSet I1 207 x c) p :=
  ⟨fun k a b c => by rw [set_ne c]; exact h.1 k a b c, by rw [set_ne (by decide)]; exact h.2.1, by rw [set_ne (by decide)]; exact h.2.2⟩
theorem pBest.s206 {I I1 : mM} {p : Int × Int} (h : pBest I I1 p) (x y : Int) : pBest I (mSet (mSet I1 206 0 x) 206 1 y) (x, y) :=
  ⟨fun k a b c => by rw [set_ne b, set_ne b]; exact h.1 k a b c, by rw [set_nq (by decide)]; exact set_eq, set_eq⟩
def spX11_bestOf : mSp := shRII (fun _ i b h I Q => i = some 200 ∧ WFt (I 201) ∧ (0 ≤ b ∧ b < 6) ∧ (0 ≤ h ∧ h < 8) ∧ ∀ I', (∀ k, k ≠ 206 → k ≠ 207 → I' k = I k) → I' 206 0 = (bestT (I 201) b h).1 → I' 206 1 = (bestT (I 201) b h).2 → Q (.inl (some (mR (some 206)))) I')
def SX11_bestOf : Nat → mSp := fun a => match a with
  | 0 => spX11_airOf
  | 1 => spX11_stepsOf
  | 2 => spX11_standOf
  | 3 => spX11_puts
  | 4 => spX11_isIn
  | 5 => spX11_fromBat
  | 6 => spX11_catchOf
  | 7 => spX11_runsBut
  | _ => fun _ _ _ _ => False
theorem SX11_bestOf_0 : SX11_bestOf 0 = spX11_airOf := Eq.trans rfl rfl
theorem SX11_bestOf_1 : SX11_bestOf 1 = spX11_stepsOf := Eq.trans rfl rfl
theorem SX11_bestOf_2 : SX11_bestOf 2 = spX11_standOf := Eq.trans rfl rfl
theorem SX11_bestOf_3 : SX11_bestOf 3 = spX11_puts := Eq.trans rfl rfl
theorem SX11_bestOf_4 : SX11_bestOf 4 = spX11_isIn := Eq.trans rfl rfl
theorem SX11_bestOf_5 : SX11_bestOf 5 = spX11_fromBat := Eq.trans rfl rfl
theorem SX11_bestOf_6 : SX11_bestOf 6 = spX11_catchOf := Eq.trans rfl rfl
theorem SX11_bestOf_7 : SX11_bestOf 7 = spX11_runsBut := Eq.trans rfl rfl
theorem cutsX11_bestOf {t : Nat} {bs : List Bool} (h : cutX11_bestOf t = some bs) : (t = 36 ∧ bs = [true, true, true, true, false]) ∨ (t = 61 ∧ bs = [true, true, true, true, false]) ∨ (t = 81 ∧ bs = [true, true, true, true, false]) ∨ (t = 103 ∧ bs = [true, true, true, true, true]) ∨ (t = 207 ∧ bs = [true, false, false, true, false]) := by
  unfold cutX11_bestOf at h
  simp only [mLk] at h
  by_cases h0 : 36 = t
  · subst h0
    simp at h
    exact Or.inl ⟨rfl, h.symm⟩
  rw [if_neg h0] at h
  by_cases h1 : 61 = t
  · subst h1
    simp at h
    exact Or.inr (Or.inl ⟨rfl, h.symm⟩)
  rw [if_neg h1] at h
  by_cases h2 : 81 = t
  · subst h2
    simp at h
    exact Or.inr (Or.inr (Or.inl ⟨rfl, h.symm⟩))
  rw [if_neg h2] at h
  by_cases h3 : 103 = t
  · subst h3
    simp at h
    exact Or.inr (Or.inr (Or.inr (Or.inl ⟨rfl, h.symm⟩)))
  rw [if_neg h3] at h
  by_cases h4 : 207 = t
  · subst h4
    simp at h
    exact Or.inr (Or.inr (Or.inr (Or.inr (⟨rfl, h.symm⟩))))
  rw [if_neg h4] at h
  cases h
set_option maxRecDepth 100000 in
set_option maxHeartbeats 8000000 in
theorem vcX11_bestOf (fl : Nat → Bool) (avs : List mV) (I : mM) (Q : mO → mM → Prop) (hsp : spX11_bestOf fl avs I Q) : mVC SX11_bestOf fl Q kX11_bestOf cutX11_bestOf 5 avs I := by
  obtain ⟨i, b, hh, rfl, h0⟩ := shRII_inv hsp
  obtain ⟨rfl, H, hb, hh1, h⟩ := h0
  have hst := H.st
  have st8 := (steps_spec H hb hh1).1
  have ha := H.air hb hh1
  refine ⟨rfl, (fun n t lv st I1 => st = [] ∧ ∃ j : Nat, j ≤ 9 ∧ (if t = 36 then lv = [some (mR (some 200)), some (mI b), some (mI hh), some (mI j), none] ∧ n = 4000 + (9 - j) ∧ I1 201 = I 201 ∧ pBest I I1 (bestOut (I 201) b hh 0) ∧ (∀ g : Int, 0 ≤ g → g < j → I1 207 g = stT (I 201) g) else if t = 61 then lv = [some (mR (some 200)), some (mI b), some (mI hh), some (mI j), none] ∧ n = 3000 + (9 - j) ∧ I1 201 = stR (I 201) (fun g => if g < j then -1 else stT (I 201) g) ∧ pBest I I1 (bestOut (I 201) b hh 0) ∧ (∀ g : Int, 0 ≤ g → g < 9 → I1 207 g = stT (I 201) g) else if t = 81 then lv = [some (mR (some 200)), some (mI b), some (mI hh), some (mI j), none] ∧ n = 20 + 300 * (9 - j) ∧ I1 201 = stR (I 201) (fun _ => -1) ∧ pBest I I1 (bestOut (I 201) b hh j) ∧ (∀ g : Int, 0 ≤ g → g < 9 → I1 207 g = stT (I 201) g) else if t = 103 then ∃ (c : Nat) (x : Int), lv = [some (mR (some 200)), some (mI b), some (mI hh), some (mI j), some (mI c)] ∧ (c ≤ 289 ∧ j < 9 ∧ -1 ≤ x ∧ x ≤ 288 ∧ stT (I 201) j ≠ -1) ∧ n = 25 + 300 * (8 - j) + (289 - c) ∧ I1 201 = soloR (I 201) j x ∧ pBest I I1 (bestIn (I 201) b hh j c (bestOut (I 201) b hh j)) ∧ (∀ g : Int, 0 ≤ g → g < 9 → I1 207 g = stT (I 201) g) else lv = [some (mR (some 200)), none, none, some (mI j), none] ∧ n = 9 - j ∧ I1 201 = stR (I 201) (fun g => if g < j then stT (I 201) g else -1) ∧ pBest I I1 (bestOut (I 201) b hh 9) ∧ (∀ g : Int, 0 ≤ g → g < 9 → I1 207 g = stT (I 201) g))), ?_, ?_⟩
  · intro n t bs hbs lv st I1 hc
    rcases cutsX11_bestOf hbs with ⟨rfl, rfl⟩ | ⟨rfl, rfl⟩ | ⟨rfl, rfl⟩ | ⟨rfl, rfl⟩ | ⟨rfl, rfl⟩
    · skip
      rw [sfxX11_bestOf_36]
      obtain ⟨rfl, j, hj, rfl, hn, er, hp, hw⟩ := hc
      simp only [false_and, and_false, true_or, or_true, false_or, or_false, true_and, and_true, true_implies, false_implies, implies_true, not_true_eq_false, not_false_eq_true, and_self, List.length_cons, List.length_nil, mNoCut_, mCat_n, mCat_I, mCat_L, mCat_R, mIsL_n, mIsL_I, mIsL_R, mIsL_L, Nat.reduceAdd, Nat.reduceSub, Nat.reduceLeDiff, Nat.reduceLT, Nat.reduceEqDiff, Nat.zero_le, Int.reduceEq, Int.reduceLT, Int.reduceLE, Int.reduceNeg, Int.reduceAdd, if_true, if_false, reduceIte, reduceCtorEq, Bool.false_eq_true, ne_eq, qCmp_0, qCmp_1, qCmp_2, qCmp_3, qCmp_4, qCmp_5, ib_0, ib_1, ib_2, lb_0, lb_1, lb_2, dv_0, dv_1, wq_ic, wq_ld_i, wq_ld_a, wq_st_i, wq_iinc, wq_icmp, wq_if, wq_goto, wq_get, mGet_0, mGet_1, mGet_2, mGet_3, wq_ald, wq_astI, wq_astL, wq_ret0, wq_ret1, wq_ret2, wq_ret3, wq_ret4, wq_max, wq_min, wq_abs, wq_lmax, ldR0, fk_11_19, mrg_0_, mrg_1_, ldI1, ldI2, wq_callV3_0, mrg_6_, mrg_4_, stI3, ldI3, mrg_9_, fk_11_20, wq_callV2_0, wqinc3, mrg_m1_, stI4, ldI4, mrg_289_, wq_callS1_1, fk_11_0, mrg_5_, wq_callV4_0, wqinc4, mPut_s, mPut_I0, mPut_R0, mPut_L0, mPut_I1, mPut_R1, mPut_L1, mGo_n, sfxX11_bestOf_32, cutX11_bestOf_32, sfxX11_bestOf_33, cutX11_bestOf_33, sfxX11_bestOf_36, cutX11_bestOf_36, sfxX11_bestOf_59, cutX11_bestOf_59, sfxX11_bestOf_61, cutX11_bestOf_61, sfxX11_bestOf_79, cutX11_bestOf_79, sfxX11_bestOf_81, cutX11_bestOf_81, sfxX11_bestOf_100, cutX11_bestOf_100, sfxX11_bestOf_103, cutX11_bestOf_103, sfxX11_bestOf_137, cutX11_bestOf_137, sfxX11_bestOf_187, cutX11_bestOf_187, sfxX11_bestOf_193, cutX11_bestOf_193, sfxX11_bestOf_199, cutX11_bestOf_199, sfxX11_bestOf_205, cutX11_bestOf_205, sfxX11_bestOf_207, cutX11_bestOf_207, sfxX11_bestOf_230, cutX11_bestOf_230, wq_cut, mGo_c, mMask_t, mMask_f, mMask_n, kX11_bestOf_230, kX11_bestOf_207, kX11_bestOf_205, kX11_bestOf_199, kX11_bestOf_193, kX11_bestOf_187, kX11_bestOf_137, kX11_bestOf_103, kX11_bestOf_100, kX11_bestOf_81, kX11_bestOf_79, kX11_bestOf_61, kX11_bestOf_59, kX11_bestOf_36, kX11_bestOf_33, kX11_bestOf_32, kX11_bestOf_0, sk_200, al_200, rf_200_19, sk_206, al_206, sn_206, rf_200_20, sk_207, al_207, sn_207, rf_200_0, sk_201, al_201, sn_201, ald_n, ro0_n, al_ro, SX11_bestOf_0, SX11_bestOf_1, SX11_bestOf_2, SX11_bestOf_3, SX11_bestOf_4, SX11_bestOf_5, SX11_bestOf_6, SX11_bestOf_7, shqRII_, shqRI_, shqI_, shqRIII_, spX11_airOf, spX11_stepsOf, spX11_standOf, spX11_puts, spX11_isIn, spX11_fromBat, spX11_catchOf, spX11_runsBut, mrg, mrl, mSet_ap, ncast, Option.some.injEq]
      (try simp only [mrg, mrl] at *) <;> repeat' (first | (with_reducible assumption) | (with_reducible apply And.intro) | intro _)
      all_goals first | omega | exact ⟨3009, by omega, 0, by omega, rfl, rfl, by rw [er]; exact ((stR_cong (I 201) (fun f h1 h2 => if_neg (by omega))).trans (stR_self (I 201))).symm, hp, fun g g1 g2 => hw g g1 (by omega)⟩ | exact ⟨4000 + (9 - (j + 1)), by omega, j + 1, by omega, rfl, rfl, by rw [set_ne (by decide)]; exact er, hp.s207 _ _, fun g g1 g2 => (Decidable.em (g = (j : Int))).elim (fun q => by rw [if_pos q, er, q]) (fun q => by rw [if_neg q]; exact hw g g1 (by omega))⟩ | skip
    · skip
      rw [sfxX11_bestOf_61]
      obtain ⟨rfl, j, hj, rfl, hn, er, hp, hw⟩ := hc
      simp only [false_and, and_false, true_or, or_true, false_or, or_false, true_and, and_true, true_implies, false_implies, implies_true, not_true_eq_false, not_false_eq_true, and_self, List.length_cons, List.length_nil, mNoCut_, mCat_n, mCat_I, mCat_L, mCat_R, mIsL_n, mIsL_I, mIsL_R, mIsL_L, Nat.reduceAdd, Nat.reduceSub, Nat.reduceLeDiff, Nat.reduceLT, Nat.reduceEqDiff, Nat.zero_le, Int.reduceEq, Int.reduceLT, Int.reduceLE, Int.reduceNeg, Int.reduceAdd, if_true, if_false, reduceIte, reduceCtorEq, Bool.false_eq_true, ne_eq, qCmp_0, qCmp_1, qCmp_2, qCmp_3, qCmp_4, qCmp_5, ib_0, ib_1, ib_2, lb_0, lb_1, lb_2, dv_0, dv_1, wq_ic, wq_ld_i, wq_ld_a, wq_st_i, wq_iinc, wq_icmp, wq_if, wq_goto, wq_get, mGet_0, mGet_1, mGet_2, mGet_3, wq_ald, wq_astI, wq_astL, wq_ret0, wq_ret1, wq_ret2, wq_ret3, wq_ret4, wq_max, wq_min, wq_abs, wq_lmax, ldR0, fk_11_19, mrg_0_, mrg_1_, ldI1, ldI2, wq_callV3_0, mrg_6_, mrg_4_, stI3, ldI3, mrg_9_, fk_11_20, wq_callV2_0, wqinc3, mrg_m1_, stI4, ldI4, mrg_289_, wq_callS1_1, fk_11_0, mrg_5_, wq_callV4_0, wqinc4, mPut_s, mPut_I0, mPut_R0, mPut_L0, mPut_I1, mPut_R1, mPut_L1, mGo_n, sfxX11_bestOf_32, cutX11_bestOf_32, sfxX11_bestOf_33, cutX11_bestOf_33, sfxX11_bestOf_36, cutX11_bestOf_36, sfxX11_bestOf_59, cutX11_bestOf_59, sfxX11_bestOf_61, cutX11_bestOf_61, sfxX11_bestOf_79, cutX11_bestOf_79, sfxX11_bestOf_81, cutX11_bestOf_81, sfxX11_bestOf_100, cutX11_bestOf_100, sfxX11_bestOf_103, cutX11_bestOf_103, sfxX11_bestOf_137, cutX11_bestOf_137, sfxX11_bestOf_187, cutX11_bestOf_187, sfxX11_bestOf_193, cutX11_bestOf_193, sfxX11_bestOf_199, cutX11_bestOf_199, sfxX11_bestOf_205, cutX11_bestOf_205, sfxX11_bestOf_207, cutX11_bestOf_207, sfxX11_bestOf_230, cutX11_bestOf_230, wq_cut, mGo_c, mMask_t, mMask_f, mMask_n, kX11_bestOf_230, kX11_bestOf_207, kX11_bestOf_205, kX11_bestOf_199, kX11_bestOf_193, kX11_bestOf_187, kX11_bestOf_137, kX11_bestOf_103, kX11_bestOf_100, kX11_bestOf_81, kX11_bestOf_79, kX11_bestOf_61, kX11_bestOf_59, kX11_bestOf_36, kX11_bestOf_33, kX11_bestOf_32, kX11_bestOf_0, sk_200, al_200, rf_200_19, sk_206, al_206, sn_206, rf_200_20, sk_207, al_207, sn_207, rf_200_0, sk_201, al_201, sn_201, ald_n, ro0_n, al_ro, SX11_bestOf_0, SX11_bestOf_1, SX11_bestOf_2, SX11_bestOf_3, SX11_bestOf_4, SX11_bestOf_5, SX11_bestOf_6, SX11_bestOf_7, shqRII_, shqRI_, shqI_, shqRIII_, spX11_airOf, spX11_stepsOf, spX11_standOf, spX11_puts, spX11_isIn, spX11_fromBat, spX11_catchOf, spX11_runsBut, mrg, mrl, mSet_ap, ncast, Option.some.injEq]
      (try simp only [mrg, mrl] at *) <;> repeat' (first | (with_reducible assumption) | (with_reducible apply And.intro) | intro _)
      all_goals first | omega | exact ⟨20 + 300 * 9, by omega, 0, by omega, rfl, rfl, by rw [er]; exact stR_cong (I 201) (fun f h1 h2 => if_pos (by omega)), hp, hw⟩ | exact ⟨3000 + (9 - (j + 1)), by omega, j + 1, by omega, rfl, rfl, by rw [set_put, er, putT_stR _ _ _ ⟨by omega, by omega⟩]; exact stR_cong _ (fun f h1 h2 => by simp only [updS]; repeat' split; all_goals first | rfl | omega), hp.s201 _ _, hw⟩ | skip
    · skip
      rw [sfxX11_bestOf_81]
      obtain ⟨rfl, j, hj, rfl, hn, er, hp, hw⟩ := hc
      have hwj := fun z : (j : Int) < 9 => hw j (by omega) z
      have hsj := fun z : (j : Int) < 9 => hst j (by omega) z
      have bs : bestOut (I 201) b hh (j + 1) = if stT (I 201) j = -1 then bestOut (I 201) b hh j else bestIn (I 201) b hh j 289 (bestOut (I 201) b hh j) := rfl
      simp only [false_and, and_false, true_or, or_true, false_or, or_false, true_and, and_true, true_implies, false_implies, implies_true, not_true_eq_false, not_false_eq_true, and_self, List.length_cons, List.length_nil, mNoCut_, mCat_n, mCat_I, mCat_L, mCat_R, mIsL_n, mIsL_I, mIsL_R, mIsL_L, Nat.reduceAdd, Nat.reduceSub, Nat.reduceLeDiff, Nat.reduceLT, Nat.reduceEqDiff, Nat.zero_le, Int.reduceEq, Int.reduceLT, Int.reduceLE, Int.reduceNeg, Int.reduceAdd, if_true, if_false, reduceIte, reduceCtorEq, Bool.false_eq_true, ne_eq, qCmp_0, qCmp_1, qCmp_2, qCmp_3, qCmp_4, qCmp_5, ib_0, ib_1, ib_2, lb_0, lb_1, lb_2, dv_0, dv_1, wq_ic, wq_ld_i, wq_ld_a, wq_st_i, wq_iinc, wq_icmp, wq_if, wq_goto, wq_get, mGet_0, mGet_1, mGet_2, mGet_3, wq_ald, wq_astI, wq_astL, wq_ret0, wq_ret1, wq_ret2, wq_ret3, wq_ret4, wq_max, wq_min, wq_abs, wq_lmax, ldR0, fk_11_19, mrg_0_, mrg_1_, ldI1, ldI2, wq_callV3_0, mrg_6_, mrg_4_, stI3, ldI3, mrg_9_, fk_11_20, wq_callV2_0, wqinc3, mrg_m1_, stI4, ldI4, mrg_289_, wq_callS1_1, fk_11_0, mrg_5_, wq_callV4_0, wqinc4, mPut_s, mPut_I0, mPut_R0, mPut_L0, mPut_I1, mPut_R1, mPut_L1, mGo_n, sfxX11_bestOf_32, cutX11_bestOf_32, sfxX11_bestOf_33, cutX11_bestOf_33, sfxX11_bestOf_36, cutX11_bestOf_36, sfxX11_bestOf_59, cutX11_bestOf_59, sfxX11_bestOf_61, cutX11_bestOf_61, sfxX11_bestOf_79, cutX11_bestOf_79, sfxX11_bestOf_81, cutX11_bestOf_81, sfxX11_bestOf_100, cutX11_bestOf_100, sfxX11_bestOf_103, cutX11_bestOf_103, sfxX11_bestOf_137, cutX11_bestOf_137, sfxX11_bestOf_187, cutX11_bestOf_187, sfxX11_bestOf_193, cutX11_bestOf_193, sfxX11_bestOf_199, cutX11_bestOf_199, sfxX11_bestOf_205, cutX11_bestOf_205, sfxX11_bestOf_207, cutX11_bestOf_207, sfxX11_bestOf_230, cutX11_bestOf_230, wq_cut, mGo_c, mMask_t, mMask_f, mMask_n, kX11_bestOf_230, kX11_bestOf_207, kX11_bestOf_205, kX11_bestOf_199, kX11_bestOf_193, kX11_bestOf_187, kX11_bestOf_137, kX11_bestOf_103, kX11_bestOf_100, kX11_bestOf_81, kX11_bestOf_79, kX11_bestOf_61, kX11_bestOf_59, kX11_bestOf_36, kX11_bestOf_33, kX11_bestOf_32, kX11_bestOf_0, sk_200, al_200, rf_200_19, sk_206, al_206, sn_206, rf_200_20, sk_207, al_207, sn_207, rf_200_0, sk_201, al_201, sn_201, ald_n, ro0_n, al_ro, SX11_bestOf_0, SX11_bestOf_1, SX11_bestOf_2, SX11_bestOf_3, SX11_bestOf_4, SX11_bestOf_5, SX11_bestOf_6, SX11_bestOf_7, shqRII_, shqRI_, shqI_, shqRIII_, spX11_airOf, spX11_stepsOf, spX11_standOf, spX11_puts, spX11_isIn, spX11_fromBat, spX11_catchOf, spX11_runsBut, mrg, mrl, mSet_ap, ncast, Option.some.injEq]
      (try simp only [mrg, mrl] at *) <;> repeat' (first | (with_reducible assumption) | (with_reducible apply And.intro) | intro _)
      all_goals first | omega | exact ⟨9, by omega, 0, by omega, rfl, rfl, by rw [er]; exact stR_cong (I 201) (fun f h1 h2 => (if_neg (by omega)).symm), by (have : j = 9 := by omega); subst this; exact hp, hw⟩ | exact ⟨20 + 300 * (9 - (j + 1)), by omega, j + 1, by omega, rfl, rfl, er, by rw [bs, if_pos (by omega)]; exact hp, hw⟩ | exact ⟨25 + 300 * (8 - j) + 289, by omega, j, by omega, 0, -1, rfl, ⟨by omega, by omega, by omega, by omega, by omega⟩, rfl, by rw [er]; exact stR_cong _ (fun f h1 h2 => by simp only [updS]; split <;> rfl), hp, hw⟩ | skip
    · skip
      rw [sfxX11_bestOf_103]
      obtain ⟨rfl, j, hj, c, x, rfl, ⟨k1, k2, k3, k4, k5⟩, hn, er, hp, hw⟩ := hc
      have e1 : I1 201 1 = I 201 1 := by rw [er]; exact stR_out _ _ (by omega)
      have e5 : I1 201 5 = I 201 5 := by rw [er]; exact stR_out _ _ (by omega)
      have hI := H.1
      have ep : putT (I1 201) j c = soloR (I 201) j c := by
        rw [er]
        unfold soloR
        rw [putT_stR _ _ _ ⟨by omega, by omega⟩]
        exact stR_cong _ (fun f h1 h2 => by simp only [updS]; split <;> rfl)
      have eq1 : putT (I1 201) j (-1) = stR (I 201) (fun _ => -1) := by
        rw [er]
        unfold soloR
        rw [putT_stR _ _ _ ⟨by omega, by omega⟩]
        exact stR_cong _ (fun f h1 h2 => by simp only [updS]; split <;> rfl)
      have bd := bestIn_bd H j hb hh1 (bestOut_bd H hb hh1 j) c k1
      have f14 := fun z : (c : Int) < 289 => far_bd (a := c) (b := 144) ⟨by omega, z⟩ ⟨by omega, by omega⟩
      have bs : bestIn (I 201) b hh j (c + 1) (bestOut (I 201) b hh j) = if mayT (I 201) c then (max (bestIn (I 201) b hh j c (bestOut (I 201) b hh j)).1 (caughtT (soloR (I 201) j c) b hh), min (bestIn (I 201) b hh j c (bestOut (I 201) b hh j)).2 (noCat (soloR (I 201) j c) b hh)) else bestIn (I 201) b hh j c (bestOut (I 201) b hh j) := rfl
      have hp1 := hp.2.1
      have hp2 := hp.2.2
      have ei : ∀ x y, insT (I1 201) x y = insT (I 201) x y := fun x y => by
        unfold insT
        rw [e1]
      have Hs := fun z : (c : Int) < 289 => solo_wf H (f := j) (c := c) ⟨by omega, by omega⟩
      have c1 := fun z : (c : Int) < 289 => caughtT_bd (Hs z) hb hh1
      have c2 := fun z : (c : Int) < 289 => runsBut_bd (Hs z) (but := -1) hb hh1
      have bo : bestOut (I 201) b hh (j + 1) = if stT (I 201) j = -1 then bestOut (I 201) b hh j else bestIn (I 201) b hh j 289 (bestOut (I 201) b hh j) := rfl
      rw [if_neg k5] at bo
      have e2x : (if (2 : Int) = 550 + 5 * (j : Int) then (c : Int) else I1 201 2) = soloR (I 201) j c 2 := by
        rw [if_neg (by omega), er]
        exact (stR_out _ _ (by omega)).trans (stR_out _ _ (by omega)).symm
      simp only [false_and, and_false, true_or, or_true, false_or, or_false, true_and, and_true, true_implies, false_implies, implies_true, not_true_eq_false, not_false_eq_true, and_self, List.length_cons, List.length_nil, mNoCut_, mCat_n, mCat_I, mCat_L, mCat_R, mIsL_n, mIsL_I, mIsL_R, mIsL_L, Nat.reduceAdd, Nat.reduceSub, Nat.reduceLeDiff, Nat.reduceLT, Nat.reduceEqDiff, Nat.zero_le, Int.reduceEq, Int.reduceLT, Int.reduceLE, Int.reduceNeg, Int.reduceAdd, if_true, if_false, reduceIte, reduceCtorEq, Bool.false_eq_true, ne_eq, qCmp_0, qCmp_1, qCmp_2, qCmp_3, qCmp_4, qCmp_5, ib_0, ib_1, ib_2, lb_0, lb_1, lb_2, dv_0, dv_1, wq_ic, wq_ld_i, wq_ld_a, wq_st_i, wq_iinc, wq_icmp, wq_if, wq_goto, wq_get, mGet_0, mGet_1, mGet_2, mGet_3, wq_ald, wq_astI, wq_astL, wq_ret0, wq_ret1, wq_ret2, wq_ret3, wq_ret4, wq_max, wq_min, wq_abs, wq_lmax, ldR0, fk_11_19, mrg_0_, mrg_1_, ldI1, ldI2, wq_callV3_0, mrg_6_, mrg_4_, stI3, ldI3, mrg_9_, fk_11_20, wq_callV2_0, wqinc3, mrg_m1_, stI4, ldI4, mrg_289_, wq_callS1_1, fk_11_0, mrg_5_, wq_callV4_0, wqinc4, mPut_s, mPut_I0, mPut_R0, mPut_L0, mPut_I1, mPut_R1, mPut_L1, mGo_n, sfxX11_bestOf_32, cutX11_bestOf_32, sfxX11_bestOf_33, cutX11_bestOf_33, sfxX11_bestOf_36, cutX11_bestOf_36, sfxX11_bestOf_59, cutX11_bestOf_59, sfxX11_bestOf_61, cutX11_bestOf_61, sfxX11_bestOf_79, cutX11_bestOf_79, sfxX11_bestOf_81, cutX11_bestOf_81, sfxX11_bestOf_100, cutX11_bestOf_100, sfxX11_bestOf_103, cutX11_bestOf_103, sfxX11_bestOf_137, cutX11_bestOf_137, sfxX11_bestOf_187, cutX11_bestOf_187, sfxX11_bestOf_193, cutX11_bestOf_193, sfxX11_bestOf_199, cutX11_bestOf_199, sfxX11_bestOf_205, cutX11_bestOf_205, sfxX11_bestOf_207, cutX11_bestOf_207, sfxX11_bestOf_230, cutX11_bestOf_230, wq_cut, mGo_c, mMask_t, mMask_f, mMask_n, kX11_bestOf_230, kX11_bestOf_207, kX11_bestOf_205, kX11_bestOf_199, kX11_bestOf_193, kX11_bestOf_187, kX11_bestOf_137, kX11_bestOf_103, kX11_bestOf_100, kX11_bestOf_81, kX11_bestOf_79, kX11_bestOf_61, kX11_bestOf_59, kX11_bestOf_36, kX11_bestOf_33, kX11_bestOf_32, kX11_bestOf_0, sk_200, al_200, rf_200_19, sk_206, al_206, sn_206, rf_200_20, sk_207, al_207, sn_207, rf_200_0, sk_201, al_201, sn_201, ald_n, ro0_n, al_ro, SX11_bestOf_0, SX11_bestOf_1, SX11_bestOf_2, SX11_bestOf_3, SX11_bestOf_4, SX11_bestOf_5, SX11_bestOf_6, SX11_bestOf_7, shqRII_, shqRI_, shqI_, shqRIII_, spX11_airOf, spX11_stepsOf, spX11_standOf, spX11_puts, spX11_isIn, spX11_fromBat, spX11_catchOf, spX11_runsBut, mrg, mrl, mSet_ap, ncast, Option.some.injEq, set_put, set_ne, set_nq, set_eq, ep, eq1, hp1, hp2, e1, e5, ei, e2x]
      (try simp only [mrg, mrl] at *) <;> repeat' (first | (with_reducible assumption) | (with_reducible apply And.intro) | intro _)
      all_goals first | omega | exact Hs (by omega) | exact ⟨20 + 300 * (9 - (j + 1)), by omega, j + 1, by omega, rfl, rfl, by (have e : c = 289 := by omega); subst e; rw [bo]; exact hp.s201 _ _, hw⟩ | exact ⟨25 + 300 * (8 - j) + (289 - (c + 1)), by omega, j, by omega, c + 1, c, rfl, ⟨by omega, by omega, by omega, by omega, k5⟩, rfl, rfl, by rw [bs, if_pos ⟨by assumption, by omega⟩]; exact (hp.s201 _ _).s206 _ _, hw⟩ | exact ⟨25 + 300 * (8 - j) + (289 - (c + 1)), by omega, j, by omega, c + 1, x, rfl, ⟨by omega, by omega, by omega, by omega, k5⟩, rfl, er, by rw [bs, if_neg (fun q => by (first | exact absurd q.1 (by assumption) | omega))]; exact hp, hw⟩ | skip
    · skip
      rw [sfxX11_bestOf_207]
      obtain ⟨rfl, j, hj, rfl, hn, er, hp, hw⟩ := hc
      have hwj := fun z : (j : Int) < 9 => hw j (by omega) z
      have hsj := fun z : (j : Int) < 9 => hst j (by omega) z
      have eu : ∀ f : Int, 0 ≤ f → f < 9 → updS (fun g => if g < (j : Int) then stT (I 201) g else -1) j (stT (I 201) j) f = (if f < ((j + 1 : Nat) : Int) then stT (I 201) f else -1) := fun f f0 f1 => by
        simp only [updS]
        by_cases q : f = j
        · rw [if_pos q, if_pos (by omega), q]
        · rw [if_neg q]
          by_cases q2 : f < (j : Int)
          · rw [if_pos q2, if_pos (by omega)]
          · rw [if_neg q2, if_neg (by omega)]
      simp only [false_and, and_false, true_or, or_true, false_or, or_false, true_and, and_true, true_implies, false_implies, implies_true, not_true_eq_false, not_false_eq_true, and_self, List.length_cons, List.length_nil, mNoCut_, mCat_n, mCat_I, mCat_L, mCat_R, mIsL_n, mIsL_I, mIsL_R, mIsL_L, Nat.reduceAdd, Nat.reduceSub, Nat.reduceLeDiff, Nat.reduceLT, Nat.reduceEqDiff, Nat.zero_le, Int.reduceEq, Int.reduceLT, Int.reduceLE, Int.reduceNeg, Int.reduceAdd, if_true, if_false, reduceIte, reduceCtorEq, Bool.false_eq_true, ne_eq, qCmp_0, qCmp_1, qCmp_2, qCmp_3, qCmp_4, qCmp_5, ib_0, ib_1, ib_2, lb_0, lb_1, lb_2, dv_0, dv_1, wq_ic, wq_ld_i, wq_ld_a, wq_st_i, wq_iinc, wq_icmp, wq_if, wq_goto, wq_get, mGet_0, mGet_1, mGet_2, mGet_3, wq_ald, wq_astI, wq_astL, wq_ret0, wq_ret1, wq_ret2, wq_ret3, wq_ret4, wq_max, wq_min, wq_abs, wq_lmax, ldR0, fk_11_19, mrg_0_, mrg_1_, ldI1, ldI2, wq_callV3_0, mrg_6_, mrg_4_, stI3, ldI3, mrg_9_, fk_11_20, wq_callV2_0, wqinc3, mrg_m1_, stI4, ldI4, mrg_289_, wq_callS1_1, fk_11_0, mrg_5_, wq_callV4_0, wqinc4, mPut_s, mPut_I0, mPut_R0, mPut_L0, mPut_I1, mPut_R1, mPut_L1, mGo_n, sfxX11_bestOf_32, cutX11_bestOf_32, sfxX11_bestOf_33, cutX11_bestOf_33, sfxX11_bestOf_36, cutX11_bestOf_36, sfxX11_bestOf_59, cutX11_bestOf_59, sfxX11_bestOf_61, cutX11_bestOf_61, sfxX11_bestOf_79, cutX11_bestOf_79, sfxX11_bestOf_81, cutX11_bestOf_81, sfxX11_bestOf_100, cutX11_bestOf_100, sfxX11_bestOf_103, cutX11_bestOf_103, sfxX11_bestOf_137, cutX11_bestOf_137, sfxX11_bestOf_187, cutX11_bestOf_187, sfxX11_bestOf_193, cutX11_bestOf_193, sfxX11_bestOf_199, cutX11_bestOf_199, sfxX11_bestOf_205, cutX11_bestOf_205, sfxX11_bestOf_207, cutX11_bestOf_207, sfxX11_bestOf_230, cutX11_bestOf_230, wq_cut, mGo_c, mMask_t, mMask_f, mMask_n, kX11_bestOf_230, kX11_bestOf_207, kX11_bestOf_205, kX11_bestOf_199, kX11_bestOf_193, kX11_bestOf_187, kX11_bestOf_137, kX11_bestOf_103, kX11_bestOf_100, kX11_bestOf_81, kX11_bestOf_79, kX11_bestOf_61, kX11_bestOf_59, kX11_bestOf_36, kX11_bestOf_33, kX11_bestOf_32, kX11_bestOf_0, sk_200, al_200, rf_200_19, sk_206, al_206, sn_206, rf_200_20, sk_207, al_207, sn_207, rf_200_0, sk_201, al_201, sn_201, ald_n, ro0_n, al_ro, SX11_bestOf_0, SX11_bestOf_1, SX11_bestOf_2, SX11_bestOf_3, SX11_bestOf_4, SX11_bestOf_5, SX11_bestOf_6, SX11_bestOf_7, shqRII_, shqRI_, shqI_, shqRIII_, spX11_airOf, spX11_stepsOf, spX11_standOf, spX11_puts, spX11_isIn, spX11_fromBat, spX11_catchOf, spX11_runsBut, mrg, mrl, mSet_ap, ncast, Option.some.injEq]
      (try simp only [mrg, mrl] at *) <;> repeat' (first | (with_reducible assumption) | (with_reducible apply And.intro) | intro _)
      all_goals first | omega | exact ⟨9 - (j + 1), by omega, j + 1, by omega, rfl, rfl, by rw [set_put, er, putT_stR _ _ _ ⟨by omega, by omega⟩, hwj (by omega)]; exact stR_cong _ eu, hp.s201 _ _, hw⟩ | (exact h I1 (fun k q1 q2 => (Decidable.em (k = 201)).elim (fun q => by rw [q, er]; exact (stR_cong _ (fun f h1 h2 => if_pos (by omega))).trans (stR_self _)) (fun q => hp.1 k q q1 q2)) hp.2.1 hp.2.2) | skip
  · show mWp _ _ _ _ _ _ kX11_bestOf_0 [some (mR (some 200)), some (mI b), some (mI hh), none, none] [] I
    simp only [false_and, and_false, true_or, or_true, false_or, or_false, true_and, and_true, true_implies, false_implies, implies_true, not_true_eq_false, not_false_eq_true, and_self, List.length_cons, List.length_nil, mNoCut_, mCat_n, mCat_I, mCat_L, mCat_R, mIsL_n, mIsL_I, mIsL_R, mIsL_L, Nat.reduceAdd, Nat.reduceSub, Nat.reduceLeDiff, Nat.reduceLT, Nat.reduceEqDiff, Nat.zero_le, Int.reduceEq, Int.reduceLT, Int.reduceLE, Int.reduceNeg, Int.reduceAdd, if_true, if_false, reduceIte, reduceCtorEq, Bool.false_eq_true, ne_eq, qCmp_0, qCmp_1, qCmp_2, qCmp_3, qCmp_4, qCmp_5, ib_0, ib_1, ib_2, lb_0, lb_1, lb_2, dv_0, dv_1, wq_ic, wq_ld_i, wq_ld_a, wq_st_i, wq_iinc, wq_icmp, wq_if, wq_goto, wq_get, mGet_0, mGet_1, mGet_2, mGet_3, wq_ald, wq_astI, wq_astL, wq_ret0, wq_ret1, wq_ret2, wq_ret3, wq_ret4, wq_max, wq_min, wq_abs, wq_lmax, ldR0, fk_11_19, mrg_0_, mrg_1_, ldI1, ldI2, wq_callV3_0, mrg_6_, mrg_4_, stI3, ldI3, mrg_9_, fk_11_20, wq_callV2_0, wqinc3, mrg_m1_, stI4, ldI4, mrg_289_, wq_callS1_1, fk_11_0, mrg_5_, wq_callV4_0, wqinc4, mPut_s, mPut_I0, mPut_R0, mPut_L0, mPut_I1, mPut_R1, mPut_L1, mGo_n, sfxX11_bestOf_32, cutX11_bestOf_32, sfxX11_bestOf_33, cutX11_bestOf_33, sfxX11_bestOf_36, cutX11_bestOf_36, sfxX11_bestOf_59, cutX11_bestOf_59, sfxX11_bestOf_61, cutX11_bestOf_61, sfxX11_bestOf_79, cutX11_bestOf_79, sfxX11_bestOf_81, cutX11_bestOf_81, sfxX11_bestOf_100, cutX11_bestOf_100, sfxX11_bestOf_103, cutX11_bestOf_103, sfxX11_bestOf_137, cutX11_bestOf_137, sfxX11_bestOf_187, cutX11_bestOf_187, sfxX11_bestOf_193, cutX11_bestOf_193, sfxX11_bestOf_199, cutX11_bestOf_199, sfxX11_bestOf_205, cutX11_bestOf_205, sfxX11_bestOf_207, cutX11_bestOf_207, sfxX11_bestOf_230, cutX11_bestOf_230, wq_cut, mGo_c, mMask_t, mMask_f, mMask_n, kX11_bestOf_230, kX11_bestOf_207, kX11_bestOf_205, kX11_bestOf_199, kX11_bestOf_193, kX11_bestOf_187, kX11_bestOf_137, kX11_bestOf_103, kX11_bestOf_100, kX11_bestOf_81, kX11_bestOf_79, kX11_bestOf_61, kX11_bestOf_59, kX11_bestOf_36, kX11_bestOf_33, kX11_bestOf_32, kX11_bestOf_0, sk_200, al_200, rf_200_19, sk_206, al_206, sn_206, rf_200_20, sk_207, al_207, sn_207, rf_200_0, sk_201, al_201, sn_201, ald_n, ro0_n, al_ro, SX11_bestOf_0, SX11_bestOf_1, SX11_bestOf_2, SX11_bestOf_3, SX11_bestOf_4, SX11_bestOf_5, SX11_bestOf_6, SX11_bestOf_7, shqRII_, shqRI_, shqI_, shqRIII_, spX11_airOf, spX11_stepsOf, spX11_standOf, spX11_puts, spX11_isIn, spX11_fromBat, spX11_catchOf, spX11_runsBut, mrg, mrl, mSet_ap, ncast, Option.some.injEq, set_ne]
    (try simp only [mrg, mrl] at *) <;> repeat' (first | (with_reducible assumption) | (with_reducible apply And.intro) | intro _)
    all_goals first | omega | assumption | exact ⟨4009, 0, by omega, rfl, rfl, ⟨fun k q0 q1 q2 => by rw [set_ne q1, set_ne q1], by rw [set_nq (by decide)]; exact set_eq, by rw [set_eq]; first | exact (if_pos (by omega)).symm | exact (if_neg (by omega)).symm⟩, fun g g1 g2 => by omega⟩ | skip
theorem ctrX11_bestOf {l : Launch} (hst : l.stackTraces = false) (hT : mTxM l) : mCtr l calX11_bestOf spX11_bestOf :=
  mMet (T := TX11_bestOf) (S := SX11_bestOf) hst hT cutX11_bestOf (by decide) okX11_bestOf ⟨_, _, rfl, rfl⟩ trivial (fun t bs h => by rcases cutsX11_bestOf h with ⟨-, rfl⟩ | ⟨-, rfl⟩ | ⟨-, rfl⟩ | ⟨-, rfl⟩ | ⟨-, rfl⟩ <;> rfl) (fun a => match a with
    | 0 => ctrX11_airOf hst hT
    | 1 => ctrX11_stepsOf hst hT
    | 2 => ctrX11_standOf hst hT
    | 3 => ctrX11_puts hst hT
    | 4 => ctrX11_isIn hst hT
    | 5 => ctrX11_fromBat hst hT
    | 6 => ctrX11_catchOf hst hT
    | 7 => ctrX11_runsBut hst hT
    | _ + 8 => mCtr_no) vcX11_bestOf

def boundN (t : Int → Int) (b : Int) : Nat → Int
  | 0 => 0
  | n + 1 => boundN t b n + rawT t b n 3 * priceT (t 3) (bestT t b n).1 (bestT t b n).2
def boundT (t : Int → Int) (b : Int) : Int := boundN t b (t (13 + b)).toNat
theorem price_bd {w c r : Int} (hw : 0 ≤ w ∧ w ≤ 99) (hc : 0 ≤ c ∧ c ≤ 100) (hr : 0 ≤ r ∧ r ≤ 6) : -9900 ≤ priceT w c r ∧ priceT w c r ≤ 600 := by
  have p1 := prod_bd (x := 100 - c) (a := 100) ⟨by omega, by omega⟩ hr
  have p2 := prod_bd hw hc
  unfold priceT
  omega
theorem boundN_bd {t : Int → Int} (H : WFt t) {b : Int} (hb : 0 ≤ b ∧ b < 6) : ∀ n : Nat, n ≤ 8 → -(980100 * n) ≤ boundN t b n ∧ boundN t b n ≤ 980100 * n
  | 0, _ => by simp [boundN]
  | n + 1, hn => by
    have h1 := boundN_bd H hb n (by omega)
    have h2 := forT_bd H hb (h := n) ⟨by omega, by omega⟩
    have h0 := bestOut_bd H hb (h := n) ⟨by omega, by omega⟩ 9
    have h3 := price_bd H.1.2.2.2.1 h0.1 h0.2
    have h4 := mul_abs_bd (b := 9900) h2 (y := priceT (t 3) (bestT t b n).1 (bestT t b n).2) ⟨by unfold bestT; omega, by unfold bestT; omega⟩
    simp only [boundN]
    omega
def spX11_boundOf : mSp := shRI (fun _ i b I Q => i = some 200 ∧ WFt (I 201) ∧ (0 ≤ b ∧ b < 6) ∧ ∀ I', (∀ k, k ≠ 206 → k ≠ 207 → I' k = I k) → Q (.inl (some (mL (boundT (I 201) b)))) I')
def SX11_boundOf : Nat → mSp := fun a => match a with
  | 0 => spX11_bestOf
  | 1 => spX11_raw
  | _ => fun _ _ _ _ => False
theorem SX11_boundOf_0 : SX11_boundOf 0 = spX11_bestOf := Eq.trans rfl rfl
theorem SX11_boundOf_1 : SX11_boundOf 1 = spX11_raw := Eq.trans rfl rfl
theorem cutsX11_boundOf {t : Nat} {bs : List Bool} (h : cutX11_boundOf t = some bs) : (t = 5 ∧ bs = [true, true, true, false, true, false]) := by
  unfold cutX11_boundOf at h
  simp only [mLk] at h
  by_cases h0 : 5 = t
  · subst h0
    simp at h
    exact ⟨rfl, h.symm⟩
  rw [if_neg h0] at h
  cases h
set_option maxRecDepth 100000 in
set_option maxHeartbeats 4000000 in
theorem vcX11_boundOf (fl : Nat → Bool) (avs : List mV) (I : mM) (Q : mO → mM → Prop) (hsp : spX11_boundOf fl avs I Q) : mVC SX11_boundOf fl Q kX11_boundOf cutX11_boundOf 6 avs I := by
  obtain ⟨i, b, rfl, h0⟩ := shRI_inv hsp
  obtain ⟨rfl, H, hb, h⟩ := h0
  have hn := H.2.1 b hb.1 hb.2
  refine ⟨rfl, (fun n t lv st I1 => st = [] ∧ ∃ (v : Int) (j : Nat), lv = [some (mR (some 200)), some (mI b), some (mL v), none, some (mI j), none] ∧ v = boundN (I 201) b j ∧ j ≤ (I 201 (13 + b)).toNat ∧ n = 8 - j ∧ (∀ k, k ≠ 206 → k ≠ 207 → I1 k = I k)), ?_, ?_⟩
  · intro n t bs hbs lv st I1 hc
    rcases cutsX11_boundOf hbs with ⟨rfl, rfl⟩
    rw [sfxX11_boundOf_5]
    obtain ⟨rfl, v, j, rfl, ev, hj, hm, hfr⟩ := hc
    have e1 := hfr 201 (by decide) (by decide)
    simp only [false_and, and_false, true_or, or_true, false_or, or_false, true_and, and_true, true_implies, false_implies, implies_true, not_true_eq_false, not_false_eq_true, and_self, List.length_cons, List.length_nil, mNoCut_, mCat_n, mCat_I, mCat_L, mCat_R, mIsL_n, mIsL_I, mIsL_R, mIsL_L, Nat.reduceAdd, Nat.reduceSub, Nat.reduceLeDiff, Nat.reduceLT, Nat.reduceEqDiff, Nat.zero_le, Int.reduceEq, Int.reduceLT, Int.reduceLE, Int.reduceNeg, Int.reduceAdd, if_true, if_false, reduceIte, reduceCtorEq, Bool.false_eq_true, ne_eq, qCmp_0, qCmp_1, qCmp_2, qCmp_3, qCmp_4, qCmp_5, ib_0, ib_1, ib_2, lb_0, lb_1, lb_2, dv_0, dv_1, wq_ic, wq_lc, wq_ld_i, wq_ld_l, wq_ld_a, wq_st_i, wq_st_l, wq_st_a, wq_iinc, wq_ib, wq_lb, wq_i2l, wq_icmp, wq_goto, wq_get, mGet_0, mGet_1, mGet_2, mGet_3, wq_ald, wq_ret0, wq_ret1, wq_ret2, wq_ret3, wq_ret4, stL2, mrg_0_, stI4, ldI4, ldR0, fk_11_0, mrg_13_, ldI1, wq_callV3_0, stR5, ldL2, mrg_3_, wq_callV4_0, mrg_100_, ldR5, mrg_1_, wqinc4, mPut_s, mPut_I0, mPut_R0, mPut_L0, mPut_I1, mPut_R1, mPut_L1, mGo_n, sfxX11_boundOf_5, cutX11_boundOf_5, sfxX11_boundOf_72, cutX11_boundOf_72, wq_cut, mGo_c, mMask_t, mMask_f, mMask_n, kX11_boundOf_72, kX11_boundOf_5, kX11_boundOf_0, sk_200, al_200, rf_200_0, sk_201, al_201, sn_201, ald_n, ro0_n, al_ro, SX11_boundOf_0, SX11_boundOf_1, shqRII_, shqRIII_, spX11_bestOf, spX11_raw, mrg, mrl, mSet_ap, ncast, Option.some.injEq, e1, sk_206, al_206, sn_206]
    refine ⟨⟨by omega, by omega⟩, ⟨⟨by omega, by omega⟩, by omega, by omega⟩, fun z => ?_, fun z => ?_⟩
    · have : j = (I 201 (13 + b)).toNat := by omega
      subst this
      exact q_L ev.symm (h I1 hfr)
    · have h0 := bestOut_bd H hb (h := j) ⟨by omega, by omega⟩ 9
      have pb := price_bd H.1.2.2.2.1 h0.1 h0.2
      have fb := forT_bd H hb (h := j) ⟨by omega, by omega⟩
      refine ⟨H, hb, ⟨by omega, by omega⟩, fun I2 f2 a0 a1 => ?_⟩
      have e2 := (f2 201 (by decide) (by decide)).trans e1
      simp only [e2, a0, a1]
      refine ⟨hb, ⟨by omega, by omega⟩, ⟨by omega, by omega⟩, ⟨by unfold priceT bestT at *; omega, by unfold priceT bestT at *; omega⟩, 8 - (j + 1), by omega, _, j + 1, rfl, ?_, by omega, rfl, fun k q1 q2 => (f2 k q1 q2).trans (hfr k q1 q2)⟩
      rw [ev]
      rfl
  · show mWp _ _ _ _ _ _ kX11_boundOf_0 [some (mR (some 200)), some (mI b), none, none, none, none] [] I
    simp only [false_and, and_false, true_or, or_true, false_or, or_false, true_and, and_true, true_implies, false_implies, implies_true, not_true_eq_false, not_false_eq_true, and_self, List.length_cons, List.length_nil, mNoCut_, mCat_n, mCat_I, mCat_L, mCat_R, mIsL_n, mIsL_I, mIsL_R, mIsL_L, Nat.reduceAdd, Nat.reduceSub, Nat.reduceLeDiff, Nat.reduceLT, Nat.reduceEqDiff, Nat.zero_le, Int.reduceEq, Int.reduceLT, Int.reduceLE, Int.reduceNeg, Int.reduceAdd, if_true, if_false, reduceIte, reduceCtorEq, Bool.false_eq_true, ne_eq, qCmp_0, qCmp_1, qCmp_2, qCmp_3, qCmp_4, qCmp_5, ib_0, ib_1, ib_2, lb_0, lb_1, lb_2, dv_0, dv_1, wq_ic, wq_lc, wq_ld_i, wq_ld_l, wq_ld_a, wq_st_i, wq_st_l, wq_st_a, wq_iinc, wq_ib, wq_lb, wq_i2l, wq_icmp, wq_goto, wq_get, mGet_0, mGet_1, mGet_2, mGet_3, wq_ald, wq_ret0, wq_ret1, wq_ret2, wq_ret3, wq_ret4, stL2, mrg_0_, stI4, ldI4, ldR0, fk_11_0, mrg_13_, ldI1, wq_callV3_0, stR5, ldL2, mrg_3_, wq_callV4_0, mrg_100_, ldR5, mrg_1_, wqinc4, mPut_s, mPut_I0, mPut_R0, mPut_L0, mPut_I1, mPut_R1, mPut_L1, mGo_n, sfxX11_boundOf_5, cutX11_boundOf_5, sfxX11_boundOf_72, cutX11_boundOf_72, wq_cut, mGo_c, mMask_t, mMask_f, mMask_n, kX11_boundOf_72, kX11_boundOf_5, kX11_boundOf_0, sk_200, al_200, rf_200_0, sk_201, al_201, sn_201, ald_n, ro0_n, al_ro, SX11_boundOf_0, SX11_boundOf_1, shqRII_, shqRIII_, spX11_bestOf, spX11_raw, mrg, mrl, mSet_ap, ncast, Option.some.injEq]
    exact ⟨8, 0, 0, rfl, rfl, by omega, rfl⟩
theorem ctrX11_boundOf {l : Launch} (hst : l.stackTraces = false) (hT : mTxM l) : mCtr l calX11_boundOf spX11_boundOf :=
  mMet (T := TX11_boundOf) (S := SX11_boundOf) hst hT cutX11_boundOf (by decide) okX11_boundOf ⟨_, _, rfl, rfl⟩ trivial (fun t bs h => by rcases cutsX11_boundOf h with ⟨-, rfl⟩ <;> rfl) (fun a => match a with
    | 0 => ctrX11_bestOf hst hT
    | 1 => ctrX11_raw hst hT
    | _ + 2 => mCtr_no) vcX11_boundOf

/-- what a call of the reference leaves: everything but what is only scribbled on -/
def mPost (I I' : mM) (t' : Int → Int) (th up lo : Int) : Prop := (∀ i, i ≠ 200 → i ≠ 201 → ¬ (206 ≤ i ∧ i ≤ 215) → I' i = I i) ∧ I' 201 = t' ∧ I' 200 3 = th ∧ I' 200 16 = up ∧ I' 200 17 = lo ∧ (∀ p, ((4 ≤ p ∧ p ≤ 15) ∨ (33 ≤ p)) → I' 200 p = I 200 p)
/-- upper and lower behind takes(a, b), if b isn't 0 -/
theorem mPost.frac {I I1 : mM} {t : Int → Int} {x y x' y' : Int} (h : mPost I I1 t 0 x y) : mPost I (mSet (mSet I1 200 16 x') 200 17 y') t 0 x' y' := by
  obtain ⟨a, b, c, d, e, f⟩ := h
  refine ⟨fun i h1 h2 h3 => by rw [set_ne h1, set_ne h1]; exact a i h1 h2 h3, by rw [set_ne (by decide), set_ne (by decide)]; exact b, by rw [set_nq (by decide), set_nq (by decide)]; exact c, by rw [set_nq (by decide)]; exact set_eq, set_eq, fun p hp => by rw [set_nq (by omega), set_nq (by omega)]; exact f p hp⟩
theorem mPost.thr (I : mM) (k : Int) : mPost I (mSet I 200 3 k) (I 201) k (I 200 16) (I 200 17) :=
  ⟨fun i h1 _ _ => set_ne h1, set_ne (by decide), set_eq, set_nq (by decide), set_nq (by decide), fun p hp => set_nq (by omega)⟩
theorem mPost.best {I I1 I2 : mM} {t : Int → Int} {k x y : Int} (h : mPost I I1 t k x y) (hf : ∀ k, k ≠ 206 → k ≠ 207 → I2 k = I1 k) : mPost I I2 t k x y :=
  ⟨fun i h1 h2 h3 => (hf i (by omega) (by omega)).trans (h.1 i h1 h2 h3), (hf 201 (by decide) (by decide)).trans h.2.1, by rw [hf 200 (by decide) (by decide)]; exact h.2.2.1, by rw [hf 200 (by decide) (by decide)]; exact h.2.2.2.1, by rw [hf 200 (by decide) (by decide)]; exact h.2.2.2.2.1, fun p hp => by rw [hf 200 (by decide) (by decide)]; exact h.2.2.2.2.2 p hp⟩
def spX11_bound : mSp := shRI (fun _ i b I Q => i = some 200 ∧ WFt (I 201) ∧ mrg b ∧ (¬ ballP b → Q (.inl (some (mI 0))) (mSet I 200 3 1)) ∧ (ballP b → allT (I 201) b = 0 → ∀ I', mPost I I' (I 201) 0 0 0 → Q (.inl (some (mI 0))) I') ∧ (ballP b → ¬ allT (I 201) b = 0 → ∀ I', mPost I I' (I 201) 0 (upT (boundT (I 201) b) (100 * allT (I 201) b)) (loT (boundT (I 201) b) (100 * allT (I 201) b)) → Q (.inl (some (mI 1))) I'))
def SX11_bound : Nat → mSp := fun a => match a with
  | 0 => spX11_isBall
  | 1 => spX11_boundOf
  | 2 => spX11_allFor
  | 3 => spX11_takes
  | _ => fun _ _ _ _ => False
theorem SX11_bound_0 : SX11_bound 0 = spX11_isBall := Eq.trans rfl rfl
theorem SX11_bound_1 : SX11_bound 1 = spX11_boundOf := Eq.trans rfl rfl
theorem SX11_bound_2 : SX11_bound 2 = spX11_allFor := Eq.trans rfl rfl
theorem SX11_bound_3 : SX11_bound 3 = spX11_takes := Eq.trans rfl rfl
set_option maxRecDepth 100000 in
set_option maxHeartbeats 4000000 in
theorem vcX11_bound (fl : Nat → Bool) (avs : List mV) (I : mM) (Q : mO → mM → Prop) (hsp : spX11_bound fl avs I Q) : mVC0 SX11_bound fl Q kX11_bound 2 avs I := by
  obtain ⟨i, b, rfl, h0⟩ := shRI_inv hsp
  refine ⟨rfl, ?_⟩
  show mWp _ _ _ _ _ _ kX11_bound_0 [some (mR i), some (mI b)] [] I
  obtain ⟨rfl, H, hr, h1, h2, h3⟩ := h0
  simp only [false_and, and_false, true_or, or_true, false_or, or_false, true_and, and_true, true_implies, false_implies, implies_true, not_true_eq_false, not_false_eq_true, and_self, List.length_cons, List.length_nil, mNoCut_, mCat_n, mCat_I, mCat_L, mCat_R, mIsL_n, mIsL_I, mIsL_R, mIsL_L, Nat.reduceAdd, Nat.reduceSub, Nat.reduceLeDiff, Nat.reduceLT, Nat.reduceEqDiff, Nat.zero_le, Int.reduceEq, Int.reduceLT, Int.reduceLE, Int.reduceNeg, Int.reduceAdd, if_true, if_false, reduceIte, reduceCtorEq, Bool.false_eq_true, ne_eq, qCmp_0, qCmp_1, qCmp_2, qCmp_3, qCmp_4, qCmp_5, ib_0, ib_1, ib_2, lb_0, lb_1, lb_2, dv_0, dv_1, wq_ic, wq_lc, wq_ld_i, wq_ld_a, wq_lb, wq_if, wq_goto, wq_get, mGet_0, mGet_1, mGet_2, mGet_3, wq_putI, wq_putL, wq_ret0, wq_ret1, wq_ret2, wq_ret3, wq_ret4, ldR0, ldI1, wq_callS1_1, mrg_0_, mrg_1_, fk_11_3, wq_callV2_0, wq_callV3_0, mGo_n, sfxX11_bound_12, cutX11_bound_12, sfxX11_bound_13, cutX11_bound_13, sfxX11_bound_48, cutX11_bound_48, sfxX11_bound_49, cutX11_bound_49, kX11_bound_49, kX11_bound_48, kX11_bound_13, kX11_bound_12, kX11_bound_0, sk_200, al_200, SX11_bound_0, SX11_bound_1, SX11_bound_2, SX11_bound_3, shqI_, shqRI_, shqRLL_, spX11_isBall, spX11_boundOf, spX11_allFor, spX11_takes, mrg, mrl, mSet_ap, ncast, Option.some.injEq]
  simp only [set_201]
  refine ⟨fun z => ?_, fun z => h1 (by omega), hr⟩
  have hb : 0 ≤ b ∧ b < 6 := ⟨by omega, by omega⟩
  have hn := H.2.1 b hb.1 hb.2
  have mb := boundN_bd H hb (I 201 (13 + b)).toNat (by omega)
  have ab := allN_bd H hb (I 201 (13 + b)).toNat (by omega)
  have eb : allT (I 201) b = allN (I 201) b (I 201 (13 + b)).toNat := rfl
  have ec : boundT (I 201) b = boundN (I 201) b (I 201 (13 + b)).toNat := rfl
  refine ⟨H, hb, fun I2 f2 => ?_⟩
  have e2 := (f2 201 (by decide) (by decide)).trans (set_201 I 3 0)
  have mp := (mPost.thr I 0).best f2
  simp only [e2]
  exact ⟨H, hb, ⟨by omega, by omega⟩, ⟨by omega, by omega⟩, fun w => h2 hb (by omega) _ mp.frac, fun w => h3 hb (by omega) _ mp.frac⟩
theorem ctrX11_bound {l : Launch} (hst : l.stackTraces = false) (hT : mTxM l) : mCtr l calX11_bound spX11_bound :=
  mMet0 (T := TX11_bound) (S := SX11_bound) hst hT (by decide) okX11_bound ⟨_, _, rfl, rfl⟩ (fun a => match a with
    | 0 => ctrX11_isBall hst hT
    | 1 => ctrX11_boundOf hst hT
    | 2 => ctrX11_allFor hst hT
    | 3 => ctrX11_takes hst hT
    | _ + 4 => mCtr_no) vcX11_bound

def spX11_gap : mSp := shRI (fun _ i b I Q => i = some 200 ∧ WFt (I 201) ∧ mrg b ∧ (¬ ballP b → Q (.inl (some (mI 0))) (mSet I 200 3 1)) ∧ (ballP b → allT (I 201) b = 0 → ∀ I', mPost I I' (I 201) 0 0 0 → Q (.inl (some (mI 0))) I') ∧ (ballP b → ¬ allT (I 201) b = 0 → ∀ I', mPost I I' (I 201) 0 (upT (meanT (I 201) b - 100 * boundT (I 201) b) (10000 * allT (I 201) b)) (loT (meanT (I 201) b - 100 * boundT (I 201) b) (10000 * allT (I 201) b)) → Q (.inl (some (mI 1))) I'))
def SX11_gap : Nat → mSp := fun a => match a with
  | 0 => spX11_isBall
  | 1 => spX11_meanOf
  | 2 => spX11_boundOf
  | 3 => spX11_lowOf
  | 4 => spX11_takes
  | _ => fun _ _ _ _ => False
theorem SX11_gap_0 : SX11_gap 0 = spX11_isBall := Eq.trans rfl rfl
theorem SX11_gap_1 : SX11_gap 1 = spX11_meanOf := Eq.trans rfl rfl
theorem SX11_gap_2 : SX11_gap 2 = spX11_boundOf := Eq.trans rfl rfl
theorem SX11_gap_3 : SX11_gap 3 = spX11_lowOf := Eq.trans rfl rfl
theorem SX11_gap_4 : SX11_gap 4 = spX11_takes := Eq.trans rfl rfl
set_option maxRecDepth 100000 in
set_option maxHeartbeats 4000000 in
theorem vcX11_gap (fl : Nat → Bool) (avs : List mV) (I : mM) (Q : mO → mM → Prop) (hsp : spX11_gap fl avs I Q) : mVC0 SX11_gap fl Q kX11_gap 2 avs I := by
  obtain ⟨i, b, rfl, h0⟩ := shRI_inv hsp
  refine ⟨rfl, ?_⟩
  show mWp _ _ _ _ _ _ kX11_gap_0 [some (mR i), some (mI b)] [] I
  obtain ⟨rfl, H, hr, h1, h2, h3⟩ := h0
  simp only [false_and, and_false, true_or, or_true, false_or, or_false, true_and, and_true, true_implies, false_implies, implies_true, not_true_eq_false, not_false_eq_true, and_self, List.length_cons, List.length_nil, mNoCut_, mCat_n, mCat_I, mCat_L, mCat_R, mIsL_n, mIsL_I, mIsL_R, mIsL_L, Nat.reduceAdd, Nat.reduceSub, Nat.reduceLeDiff, Nat.reduceLT, Nat.reduceEqDiff, Nat.zero_le, Int.reduceEq, Int.reduceLT, Int.reduceLE, Int.reduceNeg, Int.reduceAdd, if_true, if_false, reduceIte, reduceCtorEq, Bool.false_eq_true, ne_eq, qCmp_0, qCmp_1, qCmp_2, qCmp_3, qCmp_4, qCmp_5, ib_0, ib_1, ib_2, lb_0, lb_1, lb_2, dv_0, dv_1, wq_ic, wq_lc, wq_ld_i, wq_ld_a, wq_lb, wq_if, wq_goto, wq_get, mGet_0, mGet_1, mGet_2, mGet_3, wq_putI, wq_putL, wq_ret0, wq_ret1, wq_ret2, wq_ret3, wq_ret4, ldR0, ldI1, wq_callS1_1, mrg_0_, mrg_1_, fk_11_3, wq_callV2_0, wq_callV3_0, mGo_n, sfxX11_gap_12, cutX11_gap_12, sfxX11_gap_13, cutX11_gap_13, sfxX11_gap_54, cutX11_gap_54, sfxX11_gap_55, cutX11_gap_55, kX11_gap_55, kX11_gap_54, kX11_gap_13, kX11_gap_12, kX11_gap_0, sk_200, al_200, SX11_gap_0, SX11_gap_1, SX11_gap_2, SX11_gap_3, SX11_gap_4, shqI_, shqRI_, shqRLL_, spX11_isBall, spX11_meanOf, spX11_boundOf, spX11_lowOf, spX11_takes, mrg, mrl, mSet_ap, ncast, Option.some.injEq]
  simp only [set_201]
  refine ⟨fun z => ?_, fun z => h1 (by omega), hr⟩
  have hb : 0 ≤ b ∧ b < 6 := ⟨by omega, by omega⟩
  have hn := H.2.1 b hb.1 hb.2
  have mm := meanT_bd H hb
  have mb := boundN_bd H hb (I 201 (13 + b)).toNat (by omega)
  have ab := allN_bd H hb (I 201 (13 + b)).toNat (by omega)
  have eb : allT (I 201) b = allN (I 201) b (I 201 (13 + b)).toNat := rfl
  have ec : boundT (I 201) b = boundN (I 201) b (I 201 (13 + b)).toNat := rfl
  refine ⟨H, hb, H, hb, fun I2 f2 => ?_⟩
  have e2 := (f2 201 (by decide) (by decide)).trans (set_201 I 3 0)
  have mp := (mPost.thr I 0).best f2
  simp only [e2]
  exact ⟨H, hb, ⟨by omega, by omega⟩, ⟨by omega, by omega⟩, fun w => h2 hb (by omega) _ mp.frac, fun w => h3 hb (by omega) _ mp.frac⟩
theorem ctrX11_gap {l : Launch} (hst : l.stackTraces = false) (hT : mTxM l) : mCtr l calX11_gap spX11_gap :=
  mMet0 (T := TX11_gap) (S := SX11_gap) hst hT (by decide) okX11_gap ⟨_, _, rfl, rfl⟩ (fun a => match a with
    | 0 => ctrX11_isBall hst hT
    | 1 => ctrX11_meanOf hst hT
    | 2 => ctrX11_boundOf hst hT
    | 3 => ctrX11_lowOf hst hT
    | 4 => ctrX11_takes hst hT
    | _ + 5 => mCtr_no) vcX11_gap

end SPM14
