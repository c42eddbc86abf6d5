section SPC4
theorem ctxU.lh {I : mM} {t : Int → Int} {b h : Int} (H : ctxU I t b) (h0 : 0 ≤ h) (h1 : h < t (13 + b)) : laidH I t b h := H.2.2.1.2.2.2 h h0 h1
theorem ctxU.h8 {I : mM} {t : Int → Int} {b h : Int} (H : ctxU I t b) (h0 : 0 ≤ h) (h1 : h < t (13 + b)) : 0 ≤ h ∧ h < 8 := by
  have := H.1.2.1 b H.2.1.1 H.2.1.2
  omega
abbrev hitB (t : Int → Int) (b h : Int) : Prop := 0 ≤ h ∧ h < t (13 + b)
def spX9_firstAt : mSp := shRIIRI (fun _ i h k s but I Q => i = some 130 ∧ s = some (s.getD 0) ∧ stA (s.getD 0) ∧ stB (I (s.getD 0)) ∧ (-1 ≤ but ∧ but < 9) ∧ ∃ t b, ctxU I t b ∧ hitB t b h ∧ (1 ≤ k ∧ k ≤ stepsT t b h) ∧ Q (.inl (some (mI (soonT (I (s.getD 0)) (pcT t) (cellT t b h k) (tickT t b h k) but)))) I)
def SX9_firstAt : Nat → mSp := fun a => match a with
  | 0 => spX0_cellAt
  | 1 => spX0_tickAt
  | 2 => spX10_apart
  | _ => fun _ _ _ _ => False
theorem SX9_firstAt_0 : SX9_firstAt 0 = spX0_cellAt := Eq.trans rfl rfl
theorem SX9_firstAt_1 : SX9_firstAt 1 = spX0_tickAt := Eq.trans rfl rfl
theorem SX9_firstAt_2 : SX9_firstAt 2 = spX10_apart := Eq.trans rfl rfl
theorem cutsX9_firstAt {t : Nat} {bs : List Bool} (h : cutX9_firstAt t = some bs) : (t = 31 ∧ bs = [true, false, false, true, true, true, true, true, true, true, false]) := by
  unfold cutX9_firstAt at h
  simp only [mLk] at h
  by_cases h0 : 31 = t
  · subst h0
    simp at h
    exact ⟨rfl, h.symm⟩
  rw [if_neg h0] at h
  cases h
set_option maxRecDepth 100000 in
set_option maxHeartbeats 1000000 in
theorem vcX9_firstAt (fl : Nat → Bool) (avs : List mV) (I : mM) (Q : mO → mM → Prop) (hsp : spX9_firstAt fl avs I Q) : mVC SX9_firstAt fl Q kX9_firstAt cutX9_firstAt 11 avs I := by
  obtain ⟨i, hh, k, s, but, rfl, h0⟩ := shRIIRI_inv hsp
  obtain ⟨rfl, hs, hA, hB, hbut, t, b, H, hh1, hk, h⟩ := h0
  obtain ⟨a, rfl⟩ : ∃ a, s = some a := ⟨_, hs⟩
  simp only [Option.getD_some] at *
  have k1 := hA.sk
  have k2 := hA.sn
  have k3 := hA.al fl
  have k5 := hA.ro
  have h8 := H.h8 hh1.1 hh1.2
  have lh := H.lh hh1.1 hh1.2
  have lk := lh.2.2.2.2.2 k hk.1 hk.2
  have st8 := (steps_spec H.1 H.2.1 h8).1
  have cl := cell_in H.1 H.2.1 h8 (k := k) ⟨by omega, by omega⟩
  have tk := tickT_bd H.1 H.2.1 h8 (k := k) (by omega) (by omega)
  refine ⟨rfl, (fun m pc lv st I1 => st = [] ∧ I1 = I ∧ ∃ (j : Nat) (least : Int), lv = [some (mR (some 130)), none, none, some (mR (some a)), some (mI but), some (mI (cellT t b hh k)), some (mI (tickT t b hh k)), some (mI (soonU (I a) (pcT t) (cellT t b hh k) (tickT t b hh k) but j)), some (mI least), some (mI j), none] ∧ j ≤ 9 ∧ m = 9 - j ∧ (soonU (I a) (pcT t) (cellT t b hh k) (tickT t b hh k) but j ≠ -1 → least = far ((I a) (soonU (I a) (pcT t) (cellT t b hh k) (tickT t b hh k) but j)) (cellT t b hh k) * pcT t (soonU (I a) (pcT t) (cellT t b hh k) (tickT t b hh k) but j)) ∧ 0 ≤ least ∧ least ≤ 200), ?_, ?_⟩
  · intro n t bs hbs lv st I1 hc
    rcases cutsX9_firstAt hbs with ⟨rfl, rfl⟩
    rw [sfxX9_firstAt_31]
    obtain ⟨rfl, rfl, j, least, rfl, hj, hm, hl, l0, l1⟩ := hc
    have sb := soonU_bd (I1 a) (pcT t) (cellT t b hh k) (tickT t b hh k) but j
    have hsn : soonU (I1 a) (pcT t) (cellT t b hh k) (tickT t b hh k) but (j + 1) = if (j : Int) = but ∨ I1 a j = -1 ∨ tickT t b hh k < far (I1 a j) (cellT t b hh k) * pcT t j then soonU (I1 a) (pcT t) (cellT t b hh k) (tickT t b hh k) but j else if soonU (I1 a) (pcT t) (cellT t b hh k) (tickT t b hh k) but j = -1 ∨ far (I1 a j) (cellT t b hh k) * pcT t j < far (I1 a (soonU (I1 a) (pcT t) (cellT t b hh k) (tickT t b hh k) but j)) (cellT t b hh k) * pcT t (soonU (I1 a) (pcT t) (cellT t b hh k) (tickT t b hh k) but j) then (j : Int) else soonU (I1 a) (pcT t) (cellT t b hh k) (tickT t b hh k) but j := rfl
    generalize hX : soonU (I1 a) (pcT t) (cellT t b hh k) (tickT t b hh k) but j = X at *
    generalize hC : cellT t b hh k = C at *
    generalize hT : tickT t b hh k = T at *
    rcases Nat.lt_or_ge j 9 with z9 | z9
    · have bj := hB j (by omega) (by omega)
      have fj := H.1.fld (f := j) ⟨by omega, by omega⟩
      have p21 := (H.2.2.2.1 j (by omega) (by omega)).1
      have f1 := fun z : I1 a j ≠ -1 => far_bd (a := I1 a j) (b := C) ⟨by omega, by omega⟩ cl
      have p1 := fun z : I1 a j ≠ -1 => prod_bd (f1 z) (y := pcT t j) (b := 9) ⟨by omega, fj.2.1.2⟩
      simp only [false_and, and_false, true_or, or_true, false_or, or_false, true_and, and_true, true_implies, false_implies, implies_true, not_true_eq_false, not_false_eq_true, and_self, List.length_cons, List.length_nil, mNoCut_, mCat_n, mCat_I, mCat_L, mCat_R, mIsL_n, mIsL_I, mIsL_R, mIsL_L, Nat.reduceAdd, Nat.reduceSub, Nat.reduceLeDiff, Nat.reduceLT, Nat.reduceEqDiff, Nat.zero_le, Int.reduceEq, Int.reduceLT, Int.reduceLE, Int.reduceNeg, Int.reduceAdd, if_true, if_false, reduceIte, reduceCtorEq, Bool.false_eq_true, ne_eq, qCmp_0, qCmp_1, qCmp_2, qCmp_3, qCmp_4, qCmp_5, ib_0, ib_1, ib_2, lb_0, lb_1, lb_2, dv_0, dv_1, wq_ic, wq_ld_i, wq_ld_a, wq_st_i, wq_iinc, wq_ib, wq_icmp, wq_goto, wq_get, mGet_0, mGet_1, mGet_2, mGet_3, wq_ald, wq_ret0, wq_ret1, wq_ret2, wq_ret3, wq_ret4, ldR0, fk_9_2, ldI1, ldI2, wq_callV3_0, stI5, stI6, mrg_m1_, stI7, mrg_0_, stI8, stI9, ldI9, mrg_9_, ldR3, ldI4, ldI5, wq_callS2_3, fk_9_1, fk_6_1, stI10, ldI10, ldI6, ldI7, ldI8, wqinc9, mPut_s, mPut_I0, mPut_R0, mPut_L0, mPut_I1, mPut_R1, mPut_L1, mGo_n, sfxX9_firstAt_31, cutX9_firstAt_31, sfxX9_firstAt_56, cutX9_firstAt_56, sfxX9_firstAt_98, cutX9_firstAt_98, sfxX9_firstAt_106, cutX9_firstAt_106, sfxX9_firstAt_112, cutX9_firstAt_112, wq_cut, mGo_c, mMask_t, mMask_f, mMask_n, kX9_firstAt_112, kX9_firstAt_106, kX9_firstAt_98, kX9_firstAt_56, kX9_firstAt_31, kX9_firstAt_0, sk_130, al_130, rf_130_2, sk_120, al_120, rf_130_1, sk_12, al_12, rf_12_1, sk_21, al_21, sn_21, ald_n, ro0_n, al_ro, SX9_firstAt_0, SX9_firstAt_1, SX9_firstAt_2, shqRII_, shqII_, spX0_cellAt, spX0_tickAt, spX10_apart, mrg, mrl, mSet_ap, ncast, Option.some.injEq, k1, k2, k3, k5, p21]
      (try simp only [mrg, mrl] at *) <;> repeat' (first | (with_reducible assumption) | (with_reducible apply And.intro) | intro _)
      all_goals first | omega | exact ⟨9 - (j + 1), by omega, j + 1, least, by rw [hsn, if_pos (by omega)]; rfl, by omega, rfl, by rw [hsn, if_pos (by omega)]; exact hl, l0, l1⟩ | exact ⟨9 - (j + 1), by omega, j + 1, _, by rw [hsn, if_neg (by omega), if_pos (by omega)]; rfl, by omega, rfl, by rw [hsn, if_neg (by omega), if_pos (by omega)]; exact fun _ => rfl, by omega, by omega⟩ | exact ⟨9 - (j + 1), by omega, j + 1, least, by rw [hsn, if_neg (by omega), if_neg (by omega)]; rfl, by omega, rfl, by rw [hsn, if_neg (by omega), if_neg (by omega)]; exact hl, l0, l1⟩ | skip
    · have e9 : j = 9 := by omega
      subst e9
      simp only [false_and, and_false, true_or, or_true, false_or, or_false, true_and, and_true, true_implies, false_implies, implies_true, not_true_eq_false, not_false_eq_true, and_self, List.length_cons, List.length_nil, mNoCut_, mCat_n, mCat_I, mCat_L, mCat_R, mIsL_n, mIsL_I, mIsL_R, mIsL_L, Nat.reduceAdd, Nat.reduceSub, Nat.reduceLeDiff, Nat.reduceLT, Nat.reduceEqDiff, Nat.zero_le, Int.reduceEq, Int.reduceLT, Int.reduceLE, Int.reduceNeg, Int.reduceAdd, if_true, if_false, reduceIte, reduceCtorEq, Bool.false_eq_true, ne_eq, qCmp_0, qCmp_1, qCmp_2, qCmp_3, qCmp_4, qCmp_5, ib_0, ib_1, ib_2, lb_0, lb_1, lb_2, dv_0, dv_1, wq_ic, wq_ld_i, wq_ld_a, wq_st_i, wq_iinc, wq_ib, wq_icmp, wq_goto, wq_get, mGet_0, mGet_1, mGet_2, mGet_3, wq_ald, wq_ret0, wq_ret1, wq_ret2, wq_ret3, wq_ret4, ldR0, fk_9_2, ldI1, ldI2, wq_callV3_0, stI5, stI6, mrg_m1_, stI7, mrg_0_, stI8, stI9, ldI9, mrg_9_, ldR3, ldI4, ldI5, wq_callS2_3, fk_9_1, fk_6_1, stI10, ldI10, ldI6, ldI7, ldI8, wqinc9, mPut_s, mPut_I0, mPut_R0, mPut_L0, mPut_I1, mPut_R1, mPut_L1, mGo_n, sfxX9_firstAt_31, cutX9_firstAt_31, sfxX9_firstAt_56, cutX9_firstAt_56, sfxX9_firstAt_98, cutX9_firstAt_98, sfxX9_firstAt_106, cutX9_firstAt_106, sfxX9_firstAt_112, cutX9_firstAt_112, wq_cut, mGo_c, mMask_t, mMask_f, mMask_n, kX9_firstAt_112, kX9_firstAt_106, kX9_firstAt_98, kX9_firstAt_56, kX9_firstAt_31, kX9_firstAt_0, sk_130, al_130, rf_130_2, sk_120, al_120, rf_130_1, sk_12, al_12, rf_12_1, sk_21, al_21, sn_21, ald_n, ro0_n, al_ro, SX9_firstAt_0, SX9_firstAt_1, SX9_firstAt_2, shqRII_, shqII_, spX0_cellAt, spX0_tickAt, spX10_apart, mrg, mrl, mSet_ap, ncast, Option.some.injEq, k1, k2, k3, k5]
      (try simp only [mrg, mrl] at *) <;> repeat' (first | (with_reducible assumption) | (with_reducible apply And.intro) | intro _)
      all_goals first | omega | exact q_I hX h | skip
  · show mWp _ _ _ _ _ _ kX9_firstAt_0 [some (mR (some 130)), some (mI hh), some (mI k), some (mR (some a)), some (mI but), none, none, none, none, none, none] [] I
    simp only [false_and, and_false, true_or, or_true, false_or, or_false, true_and, and_true, true_implies, false_implies, implies_true, not_true_eq_false, not_false_eq_true, and_self, List.length_cons, List.length_nil, mNoCut_, mCat_n, mCat_I, mCat_L, mCat_R, mIsL_n, mIsL_I, mIsL_R, mIsL_L, Nat.reduceAdd, Nat.reduceSub, Nat.reduceLeDiff, Nat.reduceLT, Nat.reduceEqDiff, Nat.zero_le, Int.reduceEq, Int.reduceLT, Int.reduceLE, Int.reduceNeg, Int.reduceAdd, if_true, if_false, reduceIte, reduceCtorEq, Bool.false_eq_true, ne_eq, qCmp_0, qCmp_1, qCmp_2, qCmp_3, qCmp_4, qCmp_5, ib_0, ib_1, ib_2, lb_0, lb_1, lb_2, dv_0, dv_1, wq_ic, wq_ld_i, wq_ld_a, wq_st_i, wq_iinc, wq_ib, wq_icmp, wq_goto, wq_get, mGet_0, mGet_1, mGet_2, mGet_3, wq_ald, wq_ret0, wq_ret1, wq_ret2, wq_ret3, wq_ret4, ldR0, fk_9_2, ldI1, ldI2, wq_callV3_0, stI5, stI6, mrg_m1_, stI7, mrg_0_, stI8, stI9, ldI9, mrg_9_, ldR3, ldI4, ldI5, wq_callS2_3, fk_9_1, fk_6_1, stI10, ldI10, ldI6, ldI7, ldI8, wqinc9, mPut_s, mPut_I0, mPut_R0, mPut_L0, mPut_I1, mPut_R1, mPut_L1, mGo_n, sfxX9_firstAt_31, cutX9_firstAt_31, sfxX9_firstAt_56, cutX9_firstAt_56, sfxX9_firstAt_98, cutX9_firstAt_98, sfxX9_firstAt_106, cutX9_firstAt_106, sfxX9_firstAt_112, cutX9_firstAt_112, wq_cut, mGo_c, mMask_t, mMask_f, mMask_n, kX9_firstAt_112, kX9_firstAt_106, kX9_firstAt_98, kX9_firstAt_56, kX9_firstAt_31, kX9_firstAt_0, sk_130, al_130, rf_130_2, sk_120, al_120, rf_130_1, sk_12, al_12, rf_12_1, sk_21, al_21, sn_21, ald_n, ro0_n, al_ro, SX9_firstAt_0, SX9_firstAt_1, SX9_firstAt_2, shqRII_, shqII_, spX0_cellAt, spX0_tickAt, spX10_apart, mrg, mrl, mSet_ap, ncast, Option.some.injEq, lk.1, lk.2]
    (try simp only [mrg, mrl] at *) <;> repeat' (first | (with_reducible assumption) | (with_reducible apply And.intro) | intro _)
    all_goals first | omega | exact ⟨9, 0, 0, rfl, by omega, rfl, fun z => absurd rfl z, by omega, by omega⟩ | skip
theorem ctrX9_firstAt {l : Launch} (hst : l.stackTraces = false) (hT : mTxM l) : mCtr l calX9_firstAt spX9_firstAt :=
  mMet (T := TX9_firstAt) (S := SX9_firstAt) hst hT cutX9_firstAt (by decide) okX9_firstAt ⟨_, _, rfl, rfl⟩ trivial (fun t bs h => by rcases cutsX9_firstAt h with ⟨-, rfl⟩ <;> rfl) (fun a => match a with
    | 0 => ctrX0_cellAt hst hT
    | 1 => ctrX0_tickAt hst hT
    | 2 => ctrX10_apart hst hT
    | _ + 3 => mCtr_no) vcX9_firstAt

/-- what findStop leaves -/
def uM (I : mM) (w k : Int) : mM := mSet (mSet I 130 5 w) 130 6 k
theorem uM_5 (I : mM) (w k w' : Int) : mSet (uM I w k) 130 5 w' = uM I w' k := by
  funext a q
  simp only [uM, mSet]
  repeat' split
  all_goals first | rfl | omega
theorem uM_6 (I : mM) (w k k' : Int) : mSet (uM I w k) 130 6 k' = uM I w k' := set_over1 _ _ _ _ _
theorem uM_a5 (I : mM) (w k : Int) : uM I w k 130 5 = w := by simp [uM, mSet]
theorem uM_a6 (I : mM) (w k : Int) : uM I w k 130 6 = k := by simp [uM, mSet]
theorem uM_ne (I : mM) (w k : Int) {i : Nat} (h : i ≠ 130) : uM I w k i = I i := by
  unfold uM
  rw [set_ne h, set_ne h]
theorem ctxU_u (I : mM) (w k : Int) (t : Int → Int) (b : Int) : ctxU (uM I w k) t b = ctxU I t b := by
  unfold uM
  rw [ctxU_set (by decide), ctxU_set (by decide)]
def whoT (st pc cell tick : Int → Int) (k but : Int) : Int := if k = -1 then -1 else soonT st pc (cell k) (tick k) but
def spX9_findStop : mSp := shRIRI (fun _ i h s w I Q => i = some 130 ∧ s = some (s.getD 0) ∧ stA (s.getD 0) ∧ stB (I (s.getD 0)) ∧ (-1 ≤ w ∧ w < 9) ∧ ∃ t b, ctxU I t b ∧ hitB t b h ∧ Q (.inl none) (uM I (whoT (I (s.getD 0)) (pcT t) (cellT t b h) (tickT t b h) (stopT (I (s.getD 0)) (pcT t) (cellT t b h) (tickT t b h) (airT t b h) (stepsT t b h) w) w) (stopT (I (s.getD 0)) (pcT t) (cellT t b h) (tickT t b h) (airT t b h) (stepsT t b h) w)))
def SX9_findStop : Nat → mSp := fun a => match a with
  | 0 => spX9_firstAt
  | _ => fun _ _ _ _ => False
theorem SX9_findStop_0 : SX9_findStop 0 = spX9_firstAt := Eq.trans rfl rfl
theorem cutsX9_findStop {t : Nat} {bs : List Bool} (h : cutX9_findStop t = some bs) : (t = 23 ∧ bs = [true, true, true, true, true]) := by
  unfold cutX9_findStop at h
  simp only [mLk] at h
  by_cases h0 : 23 = t
  · subst h0
    simp at h
    exact ⟨rfl, h.symm⟩
  rw [if_neg h0] at h
  cases h
set_option maxRecDepth 100000 in
set_option maxHeartbeats 1000000 in
theorem vcX9_findStop (fl : Nat → Bool) (avs : List mV) (I : mM) (Q : mO → mM → Prop) (hsp : spX9_findStop fl avs I Q) : mVC SX9_findStop fl Q kX9_findStop cutX9_findStop 5 avs I := by
  obtain ⟨i, hh, s, w, rfl, h0⟩ := shRIRI_inv hsp
  obtain ⟨rfl, hs, hA, hB, hbut, t, b, H, hh1, h⟩ := h0
  obtain ⟨a, rfl⟩ : ∃ a, s = some a := ⟨_, hs⟩
  simp only [Option.getD_some] at *
  have k1 := hA.sk
  have k2 := hA.sn
  have k3 := hA.al fl
  have k5 := hA.ro
  have k4 := hA.ne
  have h8 := H.h8 hh1.1 hh1.2
  have lh := H.lh hh1.1 hh1.2
  have st8 := (steps_spec H.1 H.2.1 h8).1
  have ha := H.1.air H.2.1 h8
  have e3 := lh.2.2.1
  have e5 := lh.2.2.2.2.1
  refine ⟨rfl, (fun m pc lv st I1 => st = [] ∧ ∃ (k x y : Int), I1 = uM I x y ∧ lv = [some (mR (some 130)), some (mI hh), some (mR (some a)), some (mI w), some (mI k)] ∧ (1 ≤ k ∧ k ≤ 20 ∧ airT t b hh + 1 ≤ k) ∧ m = (20 - k).toNat ∧ ((x = -1 ∧ y = -1 ∧ stopT (I a) (pcT t) (cellT t b hh) (tickT t b hh) (airT t b hh) (stepsT t b hh) w = stopGo (I a) (pcT t) (cellT t b hh) (tickT t b hh) w (stepsT t b hh + 1 - k).toNat k ∧ k ≤ 9) ∨ (x ≠ -1 ∧ stopT (I a) (pcT t) (cellT t b hh) (tickT t b hh) (airT t b hh) (stepsT t b hh) w = y ∧ y ≠ -1 ∧ x = soonT (I a) (pcT t) (cellT t b hh y) (tickT t b hh y) w ∧ k ≤ 10))), ?_, ?_⟩
  · intro n t bs hbs lv st I1 hc
    rcases cutsX9_findStop hbs with ⟨rfl, rfl⟩
    rw [sfxX9_findStop_23]
    obtain ⟨rfl, k, x, y, rfl, rfl, ⟨hk1, hk2, hk3⟩, hm, hv⟩ := hc
    have sb := soonT_bd (I a) (pcT t) (cellT t b hh k) (tickT t b hh k) w
    have xb : -1 ≤ x ∧ x < 9 := by
      rcases hv with hv | hv
      · omega
      · have := soonT_bd (I a) (pcT t) (cellT t b hh y) (tickT t b hh y) w
        omega
    have gs : k ≤ stepsT t b hh → stopGo (I a) (pcT t) (cellT t b hh) (tickT t b hh) w (stepsT t b hh + 1 - k).toNat k = if soonT (I a) (pcT t) (cellT t b hh k) (tickT t b hh k) w = -1 then stopGo (I a) (pcT t) (cellT t b hh) (tickT t b hh) w (stepsT t b hh + 1 - (k + 1)).toNat (k + 1) else k := fun z => by
      rw [show (stepsT t b hh + 1 - k).toNat = (stepsT t b hh + 1 - (k + 1)).toNat + 1 by omega]
      rfl
    have fin : ¬ (k ≤ stepsT t b hh) ∨ x ≠ -1 → Q (.inl none) (uM I x y) := fun z => by
      rcases hv with ⟨v1, v2, v3, v4⟩ | ⟨v1, v2, v3, v4, v5⟩
      · rw [show (stepsT t b hh + 1 - k).toNat = 0 by omega] at v3
        rw [v3] at h
        rw [v1, v2]
        exact h
      · rw [v2] at h
        unfold whoT at h
        rw [if_neg v3, ← v4] at h
        exact h
    simp only [false_and, and_false, true_or, or_true, false_or, or_false, true_and, and_true, true_implies, false_implies, implies_true, not_true_eq_false, not_false_eq_true, and_self, List.length_cons, List.length_nil, mNoCut_, mCat_n, mCat_I, mCat_L, mCat_R, mIsL_n, mIsL_I, mIsL_R, mIsL_L, Nat.reduceAdd, Nat.reduceSub, Nat.reduceLeDiff, Nat.reduceLT, Nat.reduceEqDiff, Nat.zero_le, Int.reduceEq, Int.reduceLT, Int.reduceLE, Int.reduceNeg, Int.reduceAdd, if_true, if_false, reduceIte, reduceCtorEq, Bool.false_eq_true, ne_eq, qCmp_0, qCmp_1, qCmp_2, qCmp_3, qCmp_4, qCmp_5, ib_0, ib_1, ib_2, lb_0, lb_1, lb_2, dv_0, dv_1, wq_ic, wq_ld_i, wq_ld_a, wq_st_i, wq_iinc, wq_ib, wq_icmp, wq_goto, wq_get, mGet_0, mGet_1, mGet_2, mGet_3, wq_putI, wq_putL, wq_ald, wq_ret0, wq_ret1, wq_ret2, wq_ret3, wq_ret4, ldR0, mrg_m1_, fk_9_5, fk_9_6, fk_9_2, fk_0_5, ldI1, mrg_1_, stI4, ldI4, fk_0_7, ldR2, ldI3, wq_callV5_0, wqinc4, mPut_s, mPut_I0, mPut_R0, mPut_L0, mPut_I1, mPut_R1, mPut_L1, mGo_n, sfxX9_findStop_23, cutX9_findStop_23, sfxX9_findStop_72, cutX9_findStop_72, sfxX9_findStop_78, cutX9_findStop_78, wq_cut, mGo_c, mMask_t, mMask_f, mMask_n, kX9_findStop_78, kX9_findStop_72, kX9_findStop_23, kX9_findStop_0, sk_120, al_120, rf_120_5, sk_123, al_123, sn_123, rf_120_7, sk_125, al_125, sn_125, sk_130, al_130, rf_130_2, ald_n, ro0_n, al_ro, SX9_findStop_0, shqRIIRI_, spX9_firstAt, mrg, mrl, mSet_ap, ncast, Option.some.injEq, k1, k2, k3, k5, Option.getD_some, uM_5, uM_6, uM_a5, uM_a6, uM_ne, k4, ctxU_u, e3, e5]
    (try simp only [mrg, mrl] at *) <;> repeat' (first | (with_reducible assumption) | (with_reducible apply And.intro) | intro _ | (refine Exists.intro t (Exists.intro b ?_)) | fail)
    all_goals first | omega | assumption | exact fin (by omega) | exact ⟨(20 - (k + 1)).toNat, by omega, _, _, _, rfl, rfl, ⟨by omega, by omega, by omega⟩, rfl, Or.inr ⟨by omega, by rw [hv.resolve_right (fun q => by omega) |>.2.2.1, gs (by omega), if_neg (by omega)], by omega, rfl, by omega⟩⟩ | exact ⟨(20 - (k + 1)).toNat, by omega, _, _, _, rfl, rfl, ⟨by omega, by omega, by omega⟩, rfl, Or.inl ⟨by omega, by omega, by rw [hv.resolve_right (fun q => by omega) |>.2.2.1, gs (by omega), if_pos (by omega)], by omega⟩⟩ | skip
  · show mWp _ _ _ _ _ _ kX9_findStop_0 [some (mR (some 130)), some (mI hh), some (mR (some a)), some (mI w), none] [] I
    simp only [false_and, and_false, true_or, or_true, false_or, or_false, true_and, and_true, true_implies, false_implies, implies_true, not_true_eq_false, not_false_eq_true, and_self, List.length_cons, List.length_nil, mNoCut_, mCat_n, mCat_I, mCat_L, mCat_R, mIsL_n, mIsL_I, mIsL_R, mIsL_L, Nat.reduceAdd, Nat.reduceSub, Nat.reduceLeDiff, Nat.reduceLT, Nat.reduceEqDiff, Nat.zero_le, Int.reduceEq, Int.reduceLT, Int.reduceLE, Int.reduceNeg, Int.reduceAdd, if_true, if_false, reduceIte, reduceCtorEq, Bool.false_eq_true, ne_eq, qCmp_0, qCmp_1, qCmp_2, qCmp_3, qCmp_4, qCmp_5, ib_0, ib_1, ib_2, lb_0, lb_1, lb_2, dv_0, dv_1, wq_ic, wq_ld_i, wq_ld_a, wq_st_i, wq_iinc, wq_ib, wq_icmp, wq_goto, wq_get, mGet_0, mGet_1, mGet_2, mGet_3, wq_putI, wq_putL, wq_ald, wq_ret0, wq_ret1, wq_ret2, wq_ret3, wq_ret4, ldR0, mrg_m1_, fk_9_5, fk_9_6, fk_9_2, fk_0_5, ldI1, mrg_1_, stI4, ldI4, fk_0_7, ldR2, ldI3, wq_callV5_0, wqinc4, mPut_s, mPut_I0, mPut_R0, mPut_L0, mPut_I1, mPut_R1, mPut_L1, mGo_n, sfxX9_findStop_23, cutX9_findStop_23, sfxX9_findStop_72, cutX9_findStop_72, sfxX9_findStop_78, cutX9_findStop_78, wq_cut, mGo_c, mMask_t, mMask_f, mMask_n, kX9_findStop_78, kX9_findStop_72, kX9_findStop_23, kX9_findStop_0, sk_120, al_120, rf_120_5, sk_123, al_123, sn_123, rf_120_7, sk_125, al_125, sn_125, sk_130, al_130, rf_130_2, ald_n, ro0_n, al_ro, SX9_findStop_0, shqRIIRI_, spX9_firstAt, mrg, mrl, mSet_ap, ncast, Option.some.injEq, e3, e5]
    (try simp only [mrg, mrl] at *) <;> repeat' (first | (with_reducible assumption) | (with_reducible apply And.intro) | intro _ | (refine Exists.intro t (Exists.intro b ?_)) | fail)
    all_goals first | omega | exact ⟨_, airT t b hh + 1, -1, -1, rfl, rfl, ⟨by omega, by omega, by omega⟩, rfl, Or.inl ⟨rfl, rfl, by unfold stopT; rw [show stepsT t b hh + 1 - (airT t b hh + 1) = stepsT t b hh - airT t b hh by omega], by omega⟩⟩ | skip
theorem ctrX9_findStop {l : Launch} (hst : l.stackTraces = false) (hT : mTxM l) : mCtr l calX9_findStop spX9_findStop :=
  mMet (T := TX9_findStop) (S := SX9_findStop) hst hT cutX9_findStop (by decide) okX9_findStop ⟨_, _, rfl, rfl⟩ trivial (fun t bs h => by rcases cutsX9_findStop h with ⟨-, rfl⟩ <;> rfl) (fun a => match a with
    | 0 => ctrX9_firstAt hst hT
    | _ + 1 => mCtr_no) vcX9_findStop

def spX9_runsBy : mSp := shRIII (fun _ i h f k I Q => i = some 130 ∧ (-1 ≤ f ∧ f < 9) ∧ ∃ t b, ctxU I t b ∧ hitB t b h ∧ (f ≠ -1 → 1 ≤ k ∧ k ≤ stepsT t b h) ∧ mrg k ∧ Q (.inl (some (mI (if f = -1 then (if stepsT t b h < airT t b h then 6 else 4) else runsByT (amT t) (cellT t b h) (tickT t b h) (t 2) f k)))) I)
def SX9_runsBy : Nat → mSp := fun a => match a with
  | 0 => spX0_runsUnstopped
  | 1 => spX0_tickAt
  | 2 => spX0_cellAt
  | 3 => spX10_apart
  | _ => fun _ _ _ _ => False
theorem SX9_runsBy_0 : SX9_runsBy 0 = spX0_runsUnstopped := Eq.trans rfl rfl
theorem SX9_runsBy_1 : SX9_runsBy 1 = spX0_tickAt := Eq.trans rfl rfl
theorem SX9_runsBy_2 : SX9_runsBy 2 = spX0_cellAt := Eq.trans rfl rfl
theorem SX9_runsBy_3 : SX9_runsBy 3 = spX10_apart := Eq.trans rfl rfl
set_option maxRecDepth 100000 in
set_option maxHeartbeats 1000000 in
theorem vcX9_runsBy (fl : Nat → Bool) (avs : List mV) (I : mM) (Q : mO → mM → Prop) (hsp : spX9_runsBy fl avs I Q) : mVC0 SX9_runsBy fl Q kX9_runsBy 5 avs I := by
  obtain ⟨i, hh, f, k, rfl, h0⟩ := shRIII_inv hsp
  refine ⟨rfl, ?_⟩
  show mWp _ _ _ _ _ _ kX9_runsBy_0 [some (mR i), some (mI hh), some (mI f), some (mI k), none] [] I
  obtain ⟨rfl, hf, t, b, H, hh1, hk, rk, h⟩ := h0
  have h8 := H.h8 hh1.1 hh1.2
  have lh := H.lh hh1.1 hh1.2
  have st8 := (steps_spec H.1 H.2.1 h8).1
  have ha := H.1.air H.2.1 h8
  have e3 := lh.2.2.1
  have e5 := lh.2.2.2.2.1
  have g2 := H.2.2.2.2 2 (by omega) (by omega)
  have hr := H.1.1.2.2.1
  by_cases z : f = -1
  · rw [if_pos z] at h
    simp only [false_and, and_false, true_or, or_true, false_or, or_false, true_and, and_true, true_implies, false_implies, implies_true, not_true_eq_false, not_false_eq_true, and_self, List.length_cons, List.length_nil, mNoCut_, mCat_n, mCat_I, mCat_L, mCat_R, mIsL_n, mIsL_I, mIsL_R, mIsL_L, Nat.reduceAdd, Nat.reduceSub, Nat.reduceLeDiff, Nat.reduceLT, Nat.reduceEqDiff, Nat.zero_le, Int.reduceEq, Int.reduceLT, Int.reduceLE, Int.reduceNeg, Int.reduceAdd, if_true, if_false, reduceIte, reduceCtorEq, Bool.false_eq_true, ne_eq, qCmp_0, qCmp_1, qCmp_2, qCmp_3, qCmp_4, qCmp_5, ib_0, ib_1, ib_2, lb_0, lb_1, lb_2, dv_0, dv_1, wq_ic, wq_ld_i, wq_ld_a, wq_st_i, wq_ib, wq_idv, wq_icmp, wq_if, wq_goto, wq_get, mGet_0, mGet_1, mGet_2, mGet_3, wq_ald, wq_ret0, wq_ret1, wq_ret2, wq_ret3, wq_ret4, wq_max, wq_min, wq_abs, wq_lmax, ldI2, mrg_m1_, ldR0, fk_9_2, ldI1, wq_callV2_0, ldI3, wq_callV3_0, fk_9_1, fk_6_4, mrg_144_, wq_callS2_3, stI4, fk_9_0, fk_3_2, mrg_3_, ldI4, mPut_s, mPut_I0, mPut_R0, mPut_L0, mPut_I1, mPut_R1, mPut_L1, mrg_0_, mGo_n, sfxX9_runsBy_14, cutX9_runsBy_14, sfxX9_runsBy_78, cutX9_runsBy_78, sfxX9_runsBy_79, cutX9_runsBy_79, kX9_runsBy_79, kX9_runsBy_78, kX9_runsBy_14, kX9_runsBy_0, sk_130, al_130, rf_130_2, sk_120, al_120, rf_130_1, sk_12, al_12, rf_130_0, sk_11, al_11, sk_102, al_102, rf_12_4, sk_24, al_24, sn_24, ald_n, ro0_n, al_ro, SX9_runsBy_0, SX9_runsBy_1, SX9_runsBy_2, SX9_runsBy_3, shqRI_, shqRII_, shqII_, spX0_runsUnstopped, spX0_tickAt, spX0_cellAt, spX10_apart, mrg, mrl, mSet_ap, ncast, Option.some.injEq, e3, e5]
    (try simp only [mrg, mrl] at *) <;> repeat' (first | (with_reducible assumption) | (with_reducible apply And.intro) | intro _)
    all_goals first | omega | exact h | skip
  · rw [if_neg z] at h
    have hk := hk z
    have lk := lh.2.2.2.2.2 k hk.1 hk.2
    have cl := cell_in H.1 H.2.1 h8 (k := k) ⟨by omega, by omega⟩
    have tk := tickT_bd H.1 H.2.1 h8 (k := k) (by omega) (by omega)
    have fl1 := H.1.fld (f := f) ⟨by omega, by omega⟩
    have p24 := (H.2.2.2.1 f (by omega) (by omega)).2.2.2
    have f1 := far_bd cl (b := 144) ⟨by omega, by omega⟩
    have p1 := prod_bd (x := amT t f) (a := 9) ⟨by omega, by omega⟩ f1
    unfold runsByT at h
    generalize hx : tickT t b hh k + amT t f * far (cellT t b hh k) 144 = x at *
    have hd := Int.tdiv_eq_ediv_of_nonneg (a := x) (b := t 2) (by omega)
    have d0 : 0 ≤ x / t 2 := Int.ediv_nonneg (by omega) (by omega)
    have d1 : x / t 2 ≤ x := Int.ediv_le_self _ (by omega)
    simp only [false_and, and_false, true_or, or_true, false_or, or_false, true_and, and_true, true_implies, false_implies, implies_true, not_true_eq_false, not_false_eq_true, and_self, List.length_cons, List.length_nil, mNoCut_, mCat_n, mCat_I, mCat_L, mCat_R, mIsL_n, mIsL_I, mIsL_R, mIsL_L, Nat.reduceAdd, Nat.reduceSub, Nat.reduceLeDiff, Nat.reduceLT, Nat.reduceEqDiff, Nat.zero_le, Int.reduceEq, Int.reduceLT, Int.reduceLE, Int.reduceNeg, Int.reduceAdd, if_true, if_false, reduceIte, reduceCtorEq, Bool.false_eq_true, ne_eq, qCmp_0, qCmp_1, qCmp_2, qCmp_3, qCmp_4, qCmp_5, ib_0, ib_1, ib_2, lb_0, lb_1, lb_2, dv_0, dv_1, wq_ic, wq_ld_i, wq_ld_a, wq_st_i, wq_ib, wq_idv, wq_icmp, wq_if, wq_goto, wq_get, mGet_0, mGet_1, mGet_2, mGet_3, wq_ald, wq_ret0, wq_ret1, wq_ret2, wq_ret3, wq_ret4, wq_max, wq_min, wq_abs, wq_lmax, ldI2, mrg_m1_, ldR0, fk_9_2, ldI1, wq_callV2_0, ldI3, wq_callV3_0, fk_9_1, fk_6_4, mrg_144_, wq_callS2_3, stI4, fk_9_0, fk_3_2, mrg_3_, ldI4, mPut_s, mPut_I0, mPut_R0, mPut_L0, mPut_I1, mPut_R1, mPut_L1, mrg_0_, mGo_n, sfxX9_runsBy_14, cutX9_runsBy_14, sfxX9_runsBy_78, cutX9_runsBy_78, sfxX9_runsBy_79, cutX9_runsBy_79, kX9_runsBy_79, kX9_runsBy_78, kX9_runsBy_14, kX9_runsBy_0, sk_130, al_130, rf_130_2, sk_120, al_120, rf_130_1, sk_12, al_12, rf_130_0, sk_11, al_11, sk_102, al_102, rf_12_4, sk_24, al_24, sn_24, ald_n, ro0_n, al_ro, SX9_runsBy_0, SX9_runsBy_1, SX9_runsBy_2, SX9_runsBy_3, shqRI_, shqRII_, shqII_, spX0_runsUnstopped, spX0_tickAt, spX0_cellAt, spX10_apart, mrg, mrl, mSet_ap, ncast, Option.some.injEq, lk.1, lk.2, p24, g2, hx, hd]
    (try simp only [mrg, mrl] at *) <;> repeat' (first | (with_reducible assumption) | (with_reducible apply And.intro) | intro _)
    all_goals first | omega | exact h | skip
theorem ctrX9_runsBy {l : Launch} (hst : l.stackTraces = false) (hT : mTxM l) : mCtr l calX9_runsBy spX9_runsBy :=
  mMet0 (T := TX9_runsBy) (S := SX9_runsBy) hst hT (by decide) okX9_runsBy ⟨_, _, rfl, rfl⟩ (fun a => match a with
    | 0 => ctrX0_runsUnstopped hst hT
    | 1 => ctrX0_tickAt hst hT
    | 2 => ctrX0_cellAt hst hT
    | 3 => ctrX10_apart hst hT
    | _ + 4 => mCtr_no) vcX9_runsBy

end SPC4
