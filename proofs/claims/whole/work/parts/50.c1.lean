section SPC1
/-- a memory that is another one's in the places lo to hi -/
def fr (lo hi : Nat) (J I : mM) : mM := fun i => if lo ≤ i ∧ i ≤ hi then J i else I i
theorem fr_ap (lo hi : Nat) (J I : mM) (i : Nat) : fr lo hi J I i = if lo ≤ i ∧ i ≤ hi then J i else I i := rfl
theorem fr_of {lo hi : Nat} {J I : mM} (h : ∀ i, ¬ (lo ≤ i ∧ i ≤ hi) → J i = I i) : fr lo hi J I = J := by
  funext i
  simp only [fr]
  split
  · rfl
  · rename_i z
    rw [h i z]
/-- THE FIELD in the class's objects (ground at g) -/
def repG (I : mM) (g : Nat) (t : Int → Int) : Prop :=
  (∀ k : Int, 0 ≤ k → k ≤ 5 → I g k = t k) ∧ (∀ c : Int, 0 ≤ c → c < 289 → I (g + 3) c = t (20 + c)) ∧ (∀ b : Int, 0 ≤ b → b < 6 → I (g + 4) b = t (13 + b)) ∧
  (∀ b h : Int, 0 ≤ b → b < 6 → 0 ≤ h → h < t (13 + b) → I (g + 5) (8 * b + h) = rawT t b h 0 ∧ I (g + 6) (8 * b + h) = rawT t b h 1 ∧ I (g + 7) (8 * b + h) = rawT t b h 2 ∧ I (g + 8) (8 * b + h) = rawT t b h 3)
def laidH (I : mM) (t : Int → Int) (b h : Int) : Prop := I 121 h = wayT t b h ∧ I 122 h = rawT t b h 1 ∧ I 123 h = airT t b h ∧ I 124 h = rawT t b h 3 ∧ I 125 h = stepsT t b h ∧ ∀ k : Int, 1 ≤ k → k ≤ stepsT t b h → I 126 (8 * h + k - 1) = cellT t b h k ∧ I 127 (8 * h + k - 1) = tickT t b h k
/-- a BALL is laid -/
def Laid (I : mM) (t : Int → Int) (b : Int) : Prop := I 120 0 = t (13 + b) ∧ I 120 1 = allT t b ∧ I 120 2 = shareT t ∧ ∀ h : Int, 0 ≤ h → h < t (13 + b) → laidH I t b h
def eastL (j : Int) : Int := ([0, 1, 1, 2, 1, 2, 1, 1, 0, -1, -1, -2, -1, -2, -1, -1] : List Int).getD j.toNat 0
def southL (j : Int) : Int := ([-1, -2, -1, -1, 0, 1, 1, 2, 1, 2, 1, 1, 0, -1, -1, -2] : List Int).getD j.toNat 0
theorem eastL_ : ∀ n : Nat, n < 16 → eastL n = eastT n ∧ southL n = southT n := by decide +kernel
theorem ald_240 {fl : Nat → Bool} {k : mK} {lv : mLv} {st : mSt} {I : mM} {a : Nat} {j : Int} : w_ald fl mRo0 a k lv (mI j :: mR (some 240) :: st) I = ((a = 20 ∧ 0 ≤ j ∧ j < (16 : Nat)) ∧ k lv (mI (eastL j) :: st) I) := ald_r rfl
theorem ald_241 {fl : Nat → Bool} {k : mK} {lv : mLv} {st : mSt} {I : mM} {a : Nat} {j : Int} : w_ald fl mRo0 a k lv (mI j :: mR (some 241) :: st) I = ((a = 20 ∧ 0 ≤ j ∧ j < (16 : Nat)) ∧ k lv (mI (southL j) :: st) I) := ald_r rfl
def spX3_hitsOf : mSp := shRI (fun _ i b I Q => (i = some 11 ∨ i = some 102) ∧ (0 ≤ b ∧ b < 6) ∧ Q (.inl (some (mI (I (i.getD 0 + 4) b)))) I)
def SX3_hitsOf : Nat → mSp := fun a => match a with
  | _ => fun _ _ _ _ => False
set_option maxRecDepth 100000 in
set_option maxHeartbeats 1000000 in
theorem vcX3_hitsOf (fl : Nat → Bool) (avs : List mV) (I : mM) (Q : mO → mM → Prop) (hsp : spX3_hitsOf fl avs I Q) : mVC0 SX3_hitsOf fl Q kX3_hitsOf 2 avs I := by
  obtain ⟨i, b, rfl, h0⟩ := shRI_inv hsp
  refine ⟨rfl, ?_⟩
  show mWp _ _ _ _ _ _ kX3_hitsOf_0 [some (mR i), some (mI b)] [] I
  obtain ⟨hi, hb, h⟩ := h0
  rcases hi with rfl | rfl
  · simp only [false_and, and_false, true_or, or_true, false_or, or_false, true_and, and_true, true_implies, false_implies, implies_true, not_true_eq_false, not_false_eq_true, and_self, List.length_cons, List.length_nil, mNoCut_, mCat_n, mCat_I, mCat_L, mCat_R, mIsL_n, mIsL_I, mIsL_R, mIsL_L, Nat.reduceAdd, Nat.reduceSub, Nat.reduceLeDiff, Nat.reduceLT, Nat.reduceEqDiff, Nat.zero_le, Int.reduceEq, Int.reduceLT, Int.reduceLE, Int.reduceNeg, Int.reduceAdd, if_true, if_false, reduceIte, reduceCtorEq, Bool.false_eq_true, ne_eq, qCmp_0, qCmp_1, qCmp_2, qCmp_3, qCmp_4, qCmp_5, ib_0, ib_1, ib_2, lb_0, lb_1, lb_2, dv_0, dv_1, wq_ic, wq_ld_i, wq_ld_a, wq_icmp, wq_if, wq_goto, wq_get, mGet_0, mGet_1, mGet_2, mGet_3, wq_ald, wq_ret0, wq_ret1, wq_ret2, wq_ret3, wq_ret4, ldI1, mrg_6_, ldR0, fk_3_7, mrg_0_, mGo_n, sfxX3_hitsOf_19, cutX3_hitsOf_19, sfxX3_hitsOf_20, cutX3_hitsOf_20, kX3_hitsOf_20, kX3_hitsOf_19, kX3_hitsOf_0, sk_11, al_11, rf_11_7, sk_15, al_15, sn_15, sk_102, al_102, rf_102_7, sk_106, al_106, sn_106, ald_n, ro0_n, al_ro, mrg, mrl, mSet_ap, ncast, Option.some.injEq]
    (try simp only [mrg, mrl] at *) <;> repeat' (first | (with_reducible assumption) | (with_reducible apply And.intro) | intro _)
    all_goals first | omega | exact h | skip
  · simp only [false_and, and_false, true_or, or_true, false_or, or_false, true_and, and_true, true_implies, false_implies, implies_true, not_true_eq_false, not_false_eq_true, and_self, List.length_cons, List.length_nil, mNoCut_, mCat_n, mCat_I, mCat_L, mCat_R, mIsL_n, mIsL_I, mIsL_R, mIsL_L, Nat.reduceAdd, Nat.reduceSub, Nat.reduceLeDiff, Nat.reduceLT, Nat.reduceEqDiff, Nat.zero_le, Int.reduceEq, Int.reduceLT, Int.reduceLE, Int.reduceNeg, Int.reduceAdd, if_true, if_false, reduceIte, reduceCtorEq, Bool.false_eq_true, ne_eq, qCmp_0, qCmp_1, qCmp_2, qCmp_3, qCmp_4, qCmp_5, ib_0, ib_1, ib_2, lb_0, lb_1, lb_2, dv_0, dv_1, wq_ic, wq_ld_i, wq_ld_a, wq_icmp, wq_if, wq_goto, wq_get, mGet_0, mGet_1, mGet_2, mGet_3, wq_ald, wq_ret0, wq_ret1, wq_ret2, wq_ret3, wq_ret4, ldI1, mrg_6_, ldR0, fk_3_7, mrg_0_, mGo_n, sfxX3_hitsOf_19, cutX3_hitsOf_19, sfxX3_hitsOf_20, cutX3_hitsOf_20, kX3_hitsOf_20, kX3_hitsOf_19, kX3_hitsOf_0, sk_11, al_11, rf_11_7, sk_15, al_15, sn_15, sk_102, al_102, rf_102_7, sk_106, al_106, sn_106, ald_n, ro0_n, al_ro, mrg, mrl, mSet_ap, ncast, Option.some.injEq]
    (try simp only [mrg, mrl] at *) <;> repeat' (first | (with_reducible assumption) | (with_reducible apply And.intro) | intro _)
    all_goals first | omega | exact h | skip
theorem ctrX3_hitsOf {l : Launch} (hst : l.stackTraces = false) (hT : mTxM l) : mCtr l calX3_hitsOf spX3_hitsOf :=
  mMet0 (T := TX3_hitsOf) (S := SX3_hitsOf) hst hT (by decide) okX3_hitsOf ⟨_, _, rfl, rfl⟩ (fun a => mCtr_no) vcX3_hitsOf

def spX0_wayBy : mSp := shII (fun _ k w I Q => mrg k ∧ (0 ≤ w ∧ w ≤ 15) ∧ Q (.inl (some (mI (if k = 4 then (16 - w) % 16 else w)))) I)
def SX0_wayBy : Nat → mSp := fun a => match a with
  | _ => fun _ _ _ _ => False
set_option maxRecDepth 100000 in
set_option maxHeartbeats 1000000 in
theorem vcX0_wayBy (fl : Nat → Bool) (avs : List mV) (I : mM) (Q : mO → mM → Prop) (hsp : spX0_wayBy fl avs I Q) : mVC0 SX0_wayBy fl Q kX0_wayBy 2 avs I := by
  obtain ⟨k, w, rfl, h0⟩ := shII_inv hsp
  refine ⟨rfl, ?_⟩
  show mWp _ _ _ _ _ _ kX0_wayBy_0 [some (mI k), some (mI w)] [] I
  obtain ⟨hk, hw, h⟩ := h0
  have e15 : ∀ n : Nat, n ≤ 16 → ib 3 (n : Int) 15 = (n : Int) % 16 := by decide +kernel
  have e1 := e15 (16 - w).toNat (by omega)
  have e2 := e15 w.toNat (by omega)
  rw [show (((16 - w).toNat : Nat) : Int) = 16 - w by omega] at e1
  rw [show ((w.toNat : Nat) : Int) = w by omega] at e2
  simp only [false_and, and_false, true_or, or_true, false_or, or_false, true_and, and_true, true_implies, false_implies, implies_true, not_true_eq_false, not_false_eq_true, and_self, List.length_cons, List.length_nil, mNoCut_, mCat_n, mCat_I, mCat_L, mCat_R, mIsL_n, mIsL_I, mIsL_R, mIsL_L, Nat.reduceAdd, Nat.reduceSub, Nat.reduceLeDiff, Nat.reduceLT, Nat.reduceEqDiff, Nat.zero_le, Int.reduceEq, Int.reduceLT, Int.reduceLE, Int.reduceNeg, Int.reduceAdd, if_true, if_false, reduceIte, reduceCtorEq, Bool.false_eq_true, ne_eq, qCmp_0, qCmp_1, qCmp_2, qCmp_3, qCmp_4, qCmp_5, ib_0, ib_1, ib_2, lb_0, lb_1, lb_2, dv_0, dv_1, wq_ic, wq_ld_i, wq_ib, wq_icmp, wq_goto, wq_ret0, wq_ret1, wq_ret2, wq_ret3, wq_ret4, ldI0, mrg_4_, mrg_16_, ldI1, mrg_15_, mGo_n, sfxX0_wayBy_12, cutX0_wayBy_12, sfxX0_wayBy_13, cutX0_wayBy_13, kX0_wayBy_13, kX0_wayBy_12, kX0_wayBy_0, mrg, mrl, mSet_ap, ncast, Option.some.injEq, e1, e2]
  (try simp only [mrg, mrl] at *) <;> repeat' (first | (with_reducible assumption) | (with_reducible apply And.intro) | intro _)
  all_goals first | omega | exact q_I (by omega) h | skip
theorem ctrX0_wayBy {l : Launch} (hst : l.stackTraces = false) (hT : mTxM l) : mCtr l calX0_wayBy spX0_wayBy :=
  mMet0 (T := TX0_wayBy) (S := SX0_wayBy) hst hT (by decide) okX0_wayBy ⟨_, _, rfl, rfl⟩ (fun a => mCtr_no) vcX0_wayBy

def spX0_airBy : mSp := shII (fun _ k a I Q => mrg k ∧ (0 ≤ a ∧ a ≤ 8) ∧ Q (.inl (some (mI (if k = 2 then 0 else if k = 3 then max 3 a else a)))) I)
def SX0_airBy : Nat → mSp := fun a => match a with
  | _ => fun _ _ _ _ => False
set_option maxRecDepth 100000 in
set_option maxHeartbeats 1000000 in
theorem vcX0_airBy (fl : Nat → Bool) (avs : List mV) (I : mM) (Q : mO → mM → Prop) (hsp : spX0_airBy fl avs I Q) : mVC0 SX0_airBy fl Q kX0_airBy 2 avs I := by
  obtain ⟨k, a, rfl, h0⟩ := shII_inv hsp
  refine ⟨rfl, ?_⟩
  show mWp _ _ _ _ _ _ kX0_airBy_0 [some (mI k), some (mI a)] [] I
  obtain ⟨hk, hw, h⟩ := h0
  simp only [false_and, and_false, true_or, or_true, false_or, or_false, true_and, and_true, true_implies, false_implies, implies_true, not_true_eq_false, not_false_eq_true, and_self, List.length_cons, List.length_nil, mNoCut_, mCat_n, mCat_I, mCat_L, mCat_R, mIsL_n, mIsL_I, mIsL_R, mIsL_L, Nat.reduceAdd, Nat.reduceSub, Nat.reduceLeDiff, Nat.reduceLT, Nat.reduceEqDiff, Nat.zero_le, Int.reduceEq, Int.reduceLT, Int.reduceLE, Int.reduceNeg, Int.reduceAdd, if_true, if_false, reduceIte, reduceCtorEq, Bool.false_eq_true, ne_eq, qCmp_0, qCmp_1, qCmp_2, qCmp_3, qCmp_4, qCmp_5, ib_0, ib_1, ib_2, lb_0, lb_1, lb_2, dv_0, dv_1, wq_ic, wq_ld_i, wq_icmp, wq_goto, wq_ret0, wq_ret1, wq_ret2, wq_ret3, wq_ret4, wq_max, wq_min, wq_abs, wq_lmax, ldI0, mrg_2_, mrg_0_, mrg_3_, ldI1, mGo_n, sfxX0_airBy_7, cutX0_airBy_7, sfxX0_airBy_20, cutX0_airBy_20, sfxX0_airBy_21, cutX0_airBy_21, kX0_airBy_21, kX0_airBy_20, kX0_airBy_7, kX0_airBy_0, mrg, mrl, mSet_ap, ncast, Option.some.injEq]
  (try simp only [mrg, mrl] at *) <;> repeat' (first | (with_reducible assumption) | (with_reducible apply And.intro) | intro _)
  all_goals first | omega | exact q_I (by omega) h | skip
theorem ctrX0_airBy {l : Launch} (hst : l.stackTraces = false) (hT : mTxM l) : mCtr l calX0_airBy spX0_airBy :=
  mMet0 (T := TX0_airBy) (S := SX0_airBy) hst hT (by decide) okX0_airBy ⟨_, _, rfl, rfl⟩ (fun a => mCtr_no) vcX0_airBy

def spX3_liesIn : mSp := shRII (fun _ i x y I Q => i = some 11 ∧ (2 ≤ I 11 1 ∧ I 11 1 ≤ 8) ∧ (-40 ≤ x ∧ x ≤ 60) ∧ (-40 ≤ y ∧ y ≤ 60) ∧ (insT (I 11) x y → Q (.inl (some (mI 1))) I) ∧ (¬ insT (I 11) x y → Q (.inl (some (mI 0))) I))
def SX3_liesIn : Nat → mSp := fun a => match a with
  | _ => fun _ _ _ _ => False
set_option maxRecDepth 100000 in
set_option maxHeartbeats 1000000 in
theorem vcX3_liesIn (fl : Nat → Bool) (avs : List mV) (I : mM) (Q : mO → mM → Prop) (hsp : spX3_liesIn fl avs I Q) : mVC0 SX3_liesIn fl Q kX3_liesIn 5 avs I := by
  obtain ⟨i, x, y, rfl, h0⟩ := shRII_inv hsp
  refine ⟨rfl, ?_⟩
  show mWp _ _ _ _ _ _ kX3_liesIn_0 [some (mR i), some (mI x), some (mI y), none, none] [] I
  obtain ⟨rfl, he, hx, hy, h1, h2⟩ := h0
  have q1 := sq_nn (x - 8)
  have q2 := sq_nn (y - 8)
  have b1 := sq_le (x := x - 8) (n := 60) (by omega) (by omega)
  have b2 := sq_le (x := y - 8) (n := 60) (by omega) (by omega)
  have b3 := sq_le (x := I 11 1) (n := 8) (by omega) (by omega)
  have b4 := sq_nn (I 11 1)
  have k1 : insT (I 11) x y → (0 ≤ x ∧ x ≤ 16) ∧ (0 ≤ y ∧ y ≤ 16) := fun z => by
    unfold insT at z
    have z1 := sq_of (x := x - 8) (n := 8) (by omega) (by omega)
    have z2 := sq_of (x := y - 8) (n := 8) (by omega) (by omega)
    omega
  by_cases z : insT (I 11) x y
  · have k1 := k1 z
    have h1 := h1 z
    unfold insT at z
    simp only [false_and, and_false, true_or, or_true, false_or, or_false, true_and, and_true, true_implies, false_implies, implies_true, not_true_eq_false, not_false_eq_true, and_self, List.length_cons, List.length_nil, mNoCut_, mCat_n, mCat_I, mCat_L, mCat_R, mIsL_n, mIsL_I, mIsL_R, mIsL_L, Nat.reduceAdd, Nat.reduceSub, Nat.reduceLeDiff, Nat.reduceLT, Nat.reduceEqDiff, Nat.zero_le, Int.reduceEq, Int.reduceLT, Int.reduceLE, Int.reduceNeg, Int.reduceAdd, if_true, if_false, reduceIte, reduceCtorEq, Bool.false_eq_true, ne_eq, qCmp_0, qCmp_1, qCmp_2, qCmp_3, qCmp_4, qCmp_5, ib_0, ib_1, ib_2, lb_0, lb_1, lb_2, dv_0, dv_1, wq_ic, wq_ld_i, wq_ld_a, wq_st_i, wq_ib, wq_icmp, wq_if, wq_goto, wq_get, mGet_0, mGet_1, mGet_2, mGet_3, wq_ret0, wq_ret1, wq_ret2, wq_ret3, wq_ret4, ldI1, mrg_8_, stI3, ldI2, stI4, mrg_17_, ldI3, ldI4, ldR0, fk_3_1, mrg_1_, mrg_0_, mPut_s, mPut_I0, mPut_R0, mPut_L0, mPut_I1, mPut_R1, mPut_L1, mGo_n, sfxX3_liesIn_56, cutX3_liesIn_56, sfxX3_liesIn_57, cutX3_liesIn_57, kX3_liesIn_57, kX3_liesIn_56, kX3_liesIn_0, sk_11, al_11, sk_102, al_102, mrg, mrl, mSet_ap, ncast, Option.some.injEq]
    (try simp only [mrg, mrl] at *) <;> repeat' (first | (with_reducible assumption) | (with_reducible apply And.intro) | intro _)
    all_goals first | omega | exact h1 | skip
  · have h2 := h2 z
    unfold insT at z
    simp only [false_and, and_false, true_or, or_true, false_or, or_false, true_and, and_true, true_implies, false_implies, implies_true, not_true_eq_false, not_false_eq_true, and_self, List.length_cons, List.length_nil, mNoCut_, mCat_n, mCat_I, mCat_L, mCat_R, mIsL_n, mIsL_I, mIsL_R, mIsL_L, Nat.reduceAdd, Nat.reduceSub, Nat.reduceLeDiff, Nat.reduceLT, Nat.reduceEqDiff, Nat.zero_le, Int.reduceEq, Int.reduceLT, Int.reduceLE, Int.reduceNeg, Int.reduceAdd, if_true, if_false, reduceIte, reduceCtorEq, Bool.false_eq_true, ne_eq, qCmp_0, qCmp_1, qCmp_2, qCmp_3, qCmp_4, qCmp_5, ib_0, ib_1, ib_2, lb_0, lb_1, lb_2, dv_0, dv_1, wq_ic, wq_ld_i, wq_ld_a, wq_st_i, wq_ib, wq_icmp, wq_if, wq_goto, wq_get, mGet_0, mGet_1, mGet_2, mGet_3, wq_ret0, wq_ret1, wq_ret2, wq_ret3, wq_ret4, ldI1, mrg_8_, stI3, ldI2, stI4, mrg_17_, ldI3, ldI4, ldR0, fk_3_1, mrg_1_, mrg_0_, mPut_s, mPut_I0, mPut_R0, mPut_L0, mPut_I1, mPut_R1, mPut_L1, mGo_n, sfxX3_liesIn_56, cutX3_liesIn_56, sfxX3_liesIn_57, cutX3_liesIn_57, kX3_liesIn_57, kX3_liesIn_56, kX3_liesIn_0, sk_11, al_11, sk_102, al_102, mrg, mrl, mSet_ap, ncast, Option.some.injEq]
    (try simp only [mrg, mrl] at *) <;> repeat' (first | (with_reducible assumption) | (with_reducible apply And.intro) | intro _)
    all_goals first | omega | exact h2 | skip
theorem ctrX3_liesIn {l : Launch} (hst : l.stackTraces = false) (hT : mTxM l) : mCtr l calX3_liesIn spX3_liesIn :=
  mMet0 (T := TX3_liesIn) (S := SX3_liesIn) hst hT (by decide) okX3_liesIn ⟨_, _, rfl, rfl⟩ (fun a => mCtr_no) vcX3_liesIn

def spX3_liesIn_ : mSp := shRI (fun _ i c I Q => i = some 11 ∧ (2 ≤ I 11 1 ∧ I 11 1 ≤ 8) ∧ (0 ≤ c ∧ c < 289) ∧ (insT (I 11) (c % 17) (c / 17) → Q (.inl (some (mI 1))) I) ∧ (¬ insT (I 11) (c % 17) (c / 17) → Q (.inl (some (mI 0))) I))
def SX3_liesIn_ : Nat → mSp := fun a => match a with
  | 0 => spX3_liesIn
  | _ => fun _ _ _ _ => False
theorem SX3_liesIn__0 : SX3_liesIn_ 0 = spX3_liesIn := Eq.trans rfl rfl
set_option maxRecDepth 100000 in
set_option maxHeartbeats 1000000 in
theorem vcX3_liesIn_ (fl : Nat → Bool) (avs : List mV) (I : mM) (Q : mO → mM → Prop) (hsp : spX3_liesIn_ fl avs I Q) : mVC0 SX3_liesIn_ fl Q kX3_liesIn_ 2 avs I := by
  obtain ⟨i, c, rfl, h0⟩ := shRI_inv hsp
  refine ⟨rfl, ?_⟩
  show mWp _ _ _ _ _ _ kX3_liesIn__0 [some (mR i), some (mI c)] [] I
  obtain ⟨rfl, he, hc, h1, h2⟩ := h0
  have e1 := Int.tmod_eq_emod_of_nonneg (b := 17) hc.1
  have e3 := Int.tdiv_eq_ediv_of_nonneg (b := 17) hc.1
  simp only [false_and, and_false, true_or, or_true, false_or, or_false, true_and, and_true, true_implies, false_implies, implies_true, not_true_eq_false, not_false_eq_true, and_self, List.length_cons, List.length_nil, mNoCut_, mCat_n, mCat_I, mCat_L, mCat_R, mIsL_n, mIsL_I, mIsL_R, mIsL_L, Nat.reduceAdd, Nat.reduceSub, Nat.reduceLeDiff, Nat.reduceLT, Nat.reduceEqDiff, Nat.zero_le, Int.reduceEq, Int.reduceLT, Int.reduceLE, Int.reduceNeg, Int.reduceAdd, if_true, if_false, reduceIte, reduceCtorEq, Bool.false_eq_true, ne_eq, qCmp_0, qCmp_1, qCmp_2, qCmp_3, qCmp_4, qCmp_5, ib_0, ib_1, ib_2, lb_0, lb_1, lb_2, dv_0, dv_1, wq_ic, wq_ld_i, wq_ld_a, wq_idv, wq_ret0, wq_ret1, wq_ret2, wq_ret3, wq_ret4, ldR0, ldI1, mrg_17_, wq_callV3_0, kX3_liesIn__0, sk_11, al_11, sk_102, al_102, SX3_liesIn__0, shqRII_, spX3_liesIn, mrg, mrl, mSet_ap, ncast, Option.some.injEq, e1, e3]
  (try simp only [mrg, mrl] at *) <;> repeat' (first | (with_reducible assumption) | (with_reducible apply And.intro) | intro _)
  all_goals first | omega | assumption | exact h1 (by assumption) | exact h2 (by assumption) | skip
theorem ctrX3_liesIn_ {l : Launch} (hst : l.stackTraces = false) (hT : mTxM l) : mCtr l calX3_liesIn_ spX3_liesIn_ :=
  mMet0 (T := TX3_liesIn_) (S := SX3_liesIn_) hst hT (by decide) okX3_liesIn_ ⟨_, _, rfl, rfl⟩ (fun a => match a with
    | 0 => ctrX3_liesIn hst hT
    | _ + 1 => mCtr_no) vcX3_liesIn_

def spX10_apart : mSp := shII (fun _ a b I Q => (0 ≤ a ∧ a < 289) ∧ (0 ≤ b ∧ b < 289) ∧ Q (.inl (some (mI (far a b)))) I)
def SX10_apart : Nat → mSp := fun a => match a with
  | _ => fun _ _ _ _ => False
set_option maxRecDepth 100000 in
set_option maxHeartbeats 1000000 in
theorem vcX10_apart (fl : Nat → Bool) (avs : List mV) (I : mM) (Q : mO → mM → Prop) (hsp : spX10_apart fl avs I Q) : mVC0 SX10_apart fl Q kX10_apart 6 avs I := by
  obtain ⟨a, b, rfl, h0⟩ := shII_inv hsp
  refine ⟨rfl, ?_⟩
  show mWp _ _ _ _ _ _ kX10_apart_0 [some (mI a), some (mI b), none, none, none, none] [] I
  obtain ⟨ha, hb, h⟩ := h0
  have e1 := Int.tmod_eq_emod_of_nonneg (b := 17) ha.1
  have e2 := Int.tmod_eq_emod_of_nonneg (b := 17) hb.1
  have e3 := Int.tdiv_eq_ediv_of_nonneg (b := 17) ha.1
  have e4 := Int.tdiv_eq_ediv_of_nonneg (b := 17) hb.1
  simp only [false_and, and_false, true_or, or_true, false_or, or_false, true_and, and_true, true_implies, false_implies, implies_true, not_true_eq_false, not_false_eq_true, and_self, List.length_cons, List.length_nil, mNoCut_, mCat_n, mCat_I, mCat_L, mCat_R, mIsL_n, mIsL_I, mIsL_R, mIsL_L, Nat.reduceAdd, Nat.reduceSub, Nat.reduceLeDiff, Nat.reduceLT, Nat.reduceEqDiff, Nat.zero_le, Int.reduceEq, Int.reduceLT, Int.reduceLE, Int.reduceNeg, Int.reduceAdd, if_true, if_false, reduceIte, reduceCtorEq, Bool.false_eq_true, ne_eq, qCmp_0, qCmp_1, qCmp_2, qCmp_3, qCmp_4, qCmp_5, ib_0, ib_1, ib_2, lb_0, lb_1, lb_2, dv_0, dv_1, wq_ic, wq_ld_i, wq_st_i, wq_ib, wq_ineg, wq_idv, wq_icmp, wq_if, wq_goto, wq_ret0, wq_ret1, wq_ret2, wq_ret3, wq_ret4, ldI0, mrg_17_, ldI1, stI2, stI3, ldI2, stI4, ldI3, stI5, ldI4, ldI5, mPut_s, mPut_I0, mPut_R0, mPut_L0, mPut_I1, mPut_R1, mPut_L1, mrg_0_, mGo_n, sfxX10_apart_29, cutX10_apart_29, sfxX10_apart_30, cutX10_apart_30, sfxX10_apart_41, cutX10_apart_41, sfxX10_apart_42, cutX10_apart_42, sfxX10_apart_56, cutX10_apart_56, sfxX10_apart_58, cutX10_apart_58, kX10_apart_58, kX10_apart_56, kX10_apart_42, kX10_apart_41, kX10_apart_30, kX10_apart_29, kX10_apart_0, mrg, mrl, mSet_ap, ncast, Option.some.injEq, e1, e2, e3, e4]
  unfold far at h
  (try simp only [mrg, mrl] at *) <;> repeat' (first | (with_reducible assumption) | (with_reducible apply And.intro) | intro _)
  all_goals first | omega | exact q_I (by omega) h | skip
theorem ctrX10_apart {l : Launch} (hst : l.stackTraces = false) (hT : mTxM l) : mCtr l calX10_apart spX10_apart :=
  mMet0 (T := TX10_apart) (S := SX10_apart) hst hT (by decide) okX10_apart ⟨_, _, rfl, rfl⟩ (fun a => mCtr_no) vcX10_apart

def spX0_cellAt : mSp := shRII (fun _ i h k I Q => i = some 120 ∧ (0 ≤ h ∧ h < 8) ∧ mrg k ∧ (1 ≤ k ∧ k ≤ 8 → Q (.inl (some (mI (I 126 (8 * h + k - 1))))) I) ∧ (¬ (1 ≤ k ∧ k ≤ 8) → Q (.inl (some (mI 144))) I))
def SX0_cellAt : Nat → mSp := fun a => match a with
  | _ => fun _ _ _ _ => False
set_option maxRecDepth 100000 in
set_option maxHeartbeats 1000000 in
theorem vcX0_cellAt (fl : Nat → Bool) (avs : List mV) (I : mM) (Q : mO → mM → Prop) (hsp : spX0_cellAt fl avs I Q) : mVC0 SX0_cellAt fl Q kX0_cellAt 3 avs I := by
  obtain ⟨i, hh, k, rfl, h0⟩ := shRII_inv hsp
  refine ⟨rfl, ?_⟩
  show mWp _ _ _ _ _ _ kX0_cellAt_0 [some (mR i), some (mI hh), some (mI k)] [] I
  obtain ⟨rfl, hh1, hk, h1, h2⟩ := h0
  rw [show 8 * hh + k - 1 = hh * 8 + k - 1 by omega] at h1
  simp only [false_and, and_false, true_or, or_true, false_or, or_false, true_and, and_true, true_implies, false_implies, implies_true, not_true_eq_false, not_false_eq_true, and_self, List.length_cons, List.length_nil, mNoCut_, mCat_n, mCat_I, mCat_L, mCat_R, mIsL_n, mIsL_I, mIsL_R, mIsL_L, Nat.reduceAdd, Nat.reduceSub, Nat.reduceLeDiff, Nat.reduceLT, Nat.reduceEqDiff, Nat.zero_le, Int.reduceEq, Int.reduceLT, Int.reduceLE, Int.reduceNeg, Int.reduceAdd, if_true, if_false, reduceIte, reduceCtorEq, Bool.false_eq_true, ne_eq, qCmp_0, qCmp_1, qCmp_2, qCmp_3, qCmp_4, qCmp_5, ib_0, ib_1, ib_2, lb_0, lb_1, lb_2, dv_0, dv_1, wq_ic, wq_ld_i, wq_ld_a, wq_ib, wq_icmp, wq_goto, wq_get, mGet_0, mGet_1, mGet_2, mGet_3, wq_ald, wq_ret0, wq_ret1, wq_ret2, wq_ret3, wq_ret4, ldI2, mrg_1_, mrg_8_, ldR0, fk_0_8, ldI1, mrg_144_, mGo_n, sfxX0_cellAt_27, cutX0_cellAt_27, sfxX0_cellAt_30, cutX0_cellAt_30, kX0_cellAt_30, kX0_cellAt_27, kX0_cellAt_0, sk_120, al_120, rf_120_8, sk_126, al_126, sn_126, ald_n, ro0_n, al_ro, mrg, mrl, mSet_ap, ncast, Option.some.injEq]
  (try simp only [mrg, mrl] at *) <;> repeat' (first | (with_reducible assumption) | (with_reducible apply And.intro) | intro _)
  all_goals first | omega | exact h1 (by omega) | exact h2 (by omega) | skip
theorem ctrX0_cellAt {l : Launch} (hst : l.stackTraces = false) (hT : mTxM l) : mCtr l calX0_cellAt spX0_cellAt :=
  mMet0 (T := TX0_cellAt) (S := SX0_cellAt) hst hT (by decide) okX0_cellAt ⟨_, _, rfl, rfl⟩ (fun a => mCtr_no) vcX0_cellAt

def spX0_tickAt : mSp := shRII (fun _ i h k I Q => i = some 120 ∧ (0 ≤ h ∧ h < 8) ∧ mrg k ∧ (1 ≤ k ∧ k ≤ 8 → Q (.inl (some (mI (I 127 (8 * h + k - 1))))) I) ∧ (¬ (1 ≤ k ∧ k ≤ 8) → Q (.inl (some (mI 0))) I))
def SX0_tickAt : Nat → mSp := fun a => match a with
  | _ => fun _ _ _ _ => False
set_option maxRecDepth 100000 in
set_option maxHeartbeats 1000000 in
theorem vcX0_tickAt (fl : Nat → Bool) (avs : List mV) (I : mM) (Q : mO → mM → Prop) (hsp : spX0_tickAt fl avs I Q) : mVC0 SX0_tickAt fl Q kX0_tickAt 3 avs I := by
  obtain ⟨i, hh, k, rfl, h0⟩ := shRII_inv hsp
  refine ⟨rfl, ?_⟩
  show mWp _ _ _ _ _ _ kX0_tickAt_0 [some (mR i), some (mI hh), some (mI k)] [] I
  obtain ⟨rfl, hh1, hk, h1, h2⟩ := h0
  rw [show 8 * hh + k - 1 = hh * 8 + k - 1 by omega] at h1
  simp only [false_and, and_false, true_or, or_true, false_or, or_false, true_and, and_true, true_implies, false_implies, implies_true, not_true_eq_false, not_false_eq_true, and_self, List.length_cons, List.length_nil, mNoCut_, mCat_n, mCat_I, mCat_L, mCat_R, mIsL_n, mIsL_I, mIsL_R, mIsL_L, Nat.reduceAdd, Nat.reduceSub, Nat.reduceLeDiff, Nat.reduceLT, Nat.reduceEqDiff, Nat.zero_le, Int.reduceEq, Int.reduceLT, Int.reduceLE, Int.reduceNeg, Int.reduceAdd, if_true, if_false, reduceIte, reduceCtorEq, Bool.false_eq_true, ne_eq, qCmp_0, qCmp_1, qCmp_2, qCmp_3, qCmp_4, qCmp_5, ib_0, ib_1, ib_2, lb_0, lb_1, lb_2, dv_0, dv_1, wq_ic, wq_ld_i, wq_ld_a, wq_ib, wq_icmp, wq_goto, wq_get, mGet_0, mGet_1, mGet_2, mGet_3, wq_ald, wq_ret0, wq_ret1, wq_ret2, wq_ret3, wq_ret4, ldI2, mrg_1_, mrg_8_, ldR0, fk_0_9, ldI1, mrg_0_, mGo_n, sfxX0_tickAt_27, cutX0_tickAt_27, sfxX0_tickAt_28, cutX0_tickAt_28, kX0_tickAt_28, kX0_tickAt_27, kX0_tickAt_0, sk_120, al_120, rf_120_9, sk_127, al_127, sn_127, ald_n, ro0_n, al_ro, mrg, mrl, mSet_ap, ncast, Option.some.injEq]
  (try simp only [mrg, mrl] at *) <;> repeat' (first | (with_reducible assumption) | (with_reducible apply And.intro) | intro _)
  all_goals first | omega | exact h1 (by omega) | exact h2 (by omega) | skip
theorem ctrX0_tickAt {l : Launch} (hst : l.stackTraces = false) (hT : mTxM l) : mCtr l calX0_tickAt spX0_tickAt :=
  mMet0 (T := TX0_tickAt) (S := SX0_tickAt) hst hT (by decide) okX0_tickAt ⟨_, _, rfl, rfl⟩ (fun a => mCtr_no) vcX0_tickAt

def spX0_isHigh : mSp := shRI (fun _ i h I Q => i = some 120 ∧ (0 ≤ h ∧ h < 8) ∧ mrg (I 123 h) ∧ mrg (I 125 h) ∧ (1 ≤ I 123 h ∧ I 123 h ≤ I 125 h → Q (.inl (some (mI 1))) I) ∧ (¬ (1 ≤ I 123 h ∧ I 123 h ≤ I 125 h) → Q (.inl (some (mI 0))) I))
def SX0_isHigh : Nat → mSp := fun a => match a with
  | _ => fun _ _ _ _ => False
set_option maxRecDepth 100000 in
set_option maxHeartbeats 1000000 in
theorem vcX0_isHigh (fl : Nat → Bool) (avs : List mV) (I : mM) (Q : mO → mM → Prop) (hsp : spX0_isHigh fl avs I Q) : mVC0 SX0_isHigh fl Q kX0_isHigh 2 avs I := by
  obtain ⟨i, hh, rfl, h0⟩ := shRI_inv hsp
  refine ⟨rfl, ?_⟩
  show mWp _ _ _ _ _ _ kX0_isHigh_0 [some (mR i), some (mI hh)] [] I
  obtain ⟨rfl, hh1, ha, hs, h1, h2⟩ := h0
  simp only [false_and, and_false, true_or, or_true, false_or, or_false, true_and, and_true, true_implies, false_implies, implies_true, not_true_eq_false, not_false_eq_true, and_self, List.length_cons, List.length_nil, mNoCut_, mCat_n, mCat_I, mCat_L, mCat_R, mIsL_n, mIsL_I, mIsL_R, mIsL_L, Nat.reduceAdd, Nat.reduceSub, Nat.reduceLeDiff, Nat.reduceLT, Nat.reduceEqDiff, Nat.zero_le, Int.reduceEq, Int.reduceLT, Int.reduceLE, Int.reduceNeg, Int.reduceAdd, if_true, if_false, reduceIte, reduceCtorEq, Bool.false_eq_true, ne_eq, qCmp_0, qCmp_1, qCmp_2, qCmp_3, qCmp_4, qCmp_5, ib_0, ib_1, ib_2, lb_0, lb_1, lb_2, dv_0, dv_1, wq_ic, wq_ld_i, wq_ld_a, wq_icmp, wq_goto, wq_get, mGet_0, mGet_1, mGet_2, mGet_3, wq_ald, wq_ret0, wq_ret1, wq_ret2, wq_ret3, wq_ret4, ldR0, fk_0_5, ldI1, mrg_1_, fk_0_7, mrg_0_, mGo_n, sfxX0_isHigh_29, cutX0_isHigh_29, sfxX0_isHigh_30, cutX0_isHigh_30, kX0_isHigh_30, kX0_isHigh_29, kX0_isHigh_0, sk_120, al_120, rf_120_5, sk_123, al_123, sn_123, rf_120_7, sk_125, al_125, sn_125, ald_n, ro0_n, al_ro, mrg, mrl, mSet_ap, ncast, Option.some.injEq]
  (try simp only [mrg, mrl] at *) <;> repeat' (first | (with_reducible assumption) | (with_reducible apply And.intro) | intro _)
  all_goals first | omega | exact h1 (by omega) | exact h2 (by omega) | skip
theorem ctrX0_isHigh {l : Launch} (hst : l.stackTraces = false) (hT : mTxM l) : mCtr l calX0_isHigh spX0_isHigh :=
  mMet0 (T := TX0_isHigh) (S := SX0_isHigh) hst hT (by decide) okX0_isHigh ⟨_, _, rfl, rfl⟩ (fun a => mCtr_no) vcX0_isHigh

def spX0_runsUnstopped : mSp := shRI (fun _ i h I Q => i = some 120 ∧ (0 ≤ h ∧ h < 8) ∧ mrg (I 123 h) ∧ mrg (I 125 h) ∧ Q (.inl (some (mI (if I 125 h < I 123 h then 6 else 4)))) I)
def SX0_runsUnstopped : Nat → mSp := fun a => match a with
  | _ => fun _ _ _ _ => False
set_option maxRecDepth 100000 in
set_option maxHeartbeats 1000000 in
theorem vcX0_runsUnstopped (fl : Nat → Bool) (avs : List mV) (I : mM) (Q : mO → mM → Prop) (hsp : spX0_runsUnstopped fl avs I Q) : mVC0 SX0_runsUnstopped fl Q kX0_runsUnstopped 2 avs I := by
  obtain ⟨i, hh, rfl, h0⟩ := shRI_inv hsp
  refine ⟨rfl, ?_⟩
  show mWp _ _ _ _ _ _ kX0_runsUnstopped_0 [some (mR i), some (mI hh)] [] I
  obtain ⟨rfl, hh1, ha, hs, h1⟩ := h0
  simp only [false_and, and_false, true_or, or_true, false_or, or_false, true_and, and_true, true_implies, false_implies, implies_true, not_true_eq_false, not_false_eq_true, and_self, List.length_cons, List.length_nil, mNoCut_, mCat_n, mCat_I, mCat_L, mCat_R, mIsL_n, mIsL_I, mIsL_R, mIsL_L, Nat.reduceAdd, Nat.reduceSub, Nat.reduceLeDiff, Nat.reduceLT, Nat.reduceEqDiff, Nat.zero_le, Int.reduceEq, Int.reduceLT, Int.reduceLE, Int.reduceNeg, Int.reduceAdd, if_true, if_false, reduceIte, reduceCtorEq, Bool.false_eq_true, ne_eq, qCmp_0, qCmp_1, qCmp_2, qCmp_3, qCmp_4, qCmp_5, ib_0, ib_1, ib_2, lb_0, lb_1, lb_2, dv_0, dv_1, wq_ic, wq_ld_i, wq_ld_a, wq_icmp, wq_goto, wq_get, mGet_0, mGet_1, mGet_2, mGet_3, wq_ald, wq_ret0, wq_ret1, wq_ret2, wq_ret3, wq_ret4, ldR0, fk_0_5, ldI1, fk_0_7, mrg_6_, mrg_4_, mGo_n, sfxX0_runsUnstopped_20, cutX0_runsUnstopped_20, sfxX0_runsUnstopped_21, cutX0_runsUnstopped_21, kX0_runsUnstopped_21, kX0_runsUnstopped_20, kX0_runsUnstopped_0, sk_120, al_120, rf_120_5, sk_123, al_123, sn_123, rf_120_7, sk_125, al_125, sn_125, ald_n, ro0_n, al_ro, mrg, mrl, mSet_ap, ncast, Option.some.injEq]
  (try simp only [mrg, mrl] at *) <;> repeat' (first | (with_reducible assumption) | (with_reducible apply And.intro) | intro _)
  all_goals first | omega | exact q_I (by omega) h1 | skip
theorem ctrX0_runsUnstopped {l : Launch} (hst : l.stackTraces = false) (hT : mTxM l) : mCtr l calX0_runsUnstopped spX0_runsUnstopped :=
  mMet0 (T := TX0_runsUnstopped) (S := SX0_runsUnstopped) hst hT (by decide) okX0_runsUnstopped ⟨_, _, rfl, rfl⟩ (fun a => mCtr_no) vcX0_runsUnstopped

def spX0_blend : mSp := shRLL (fun _ i a m I Q => i = some 120 ∧ mrg (I 120 1) ∧ mrg (I 120 2) ∧ mrg (100 - I 120 2) ∧ Q (.inl (some (mL ((100 - I 120 2) * a + I 120 2 * m * I 120 1)))) I)
def SX0_blend : Nat → mSp := fun a => match a with
  | _ => fun _ _ _ _ => False
set_option maxRecDepth 100000 in
set_option maxHeartbeats 1000000 in
theorem vcX0_blend (fl : Nat → Bool) (avs : List mV) (I : mM) (Q : mO → mM → Prop) (hsp : spX0_blend fl avs I Q) : mVC0 SX0_blend fl Q kX0_blend 5 avs I := by
  obtain ⟨i, a, m, rfl, h0⟩ := shRLL_inv hsp
  refine ⟨rfl, ?_⟩
  show mWp _ _ _ _ _ _ kX0_blend_0 [some (mR i), some (mL a), none, some (mL m), none] [] I
  obtain ⟨rfl, ha, hs, h9, h1⟩ := h0
  simp only [false_and, and_false, true_or, or_true, false_or, or_false, true_and, and_true, true_implies, false_implies, implies_true, not_true_eq_false, not_false_eq_true, and_self, List.length_cons, List.length_nil, mNoCut_, mCat_n, mCat_I, mCat_L, mCat_R, mIsL_n, mIsL_I, mIsL_R, mIsL_L, Nat.reduceAdd, Nat.reduceSub, Nat.reduceLeDiff, Nat.reduceLT, Nat.reduceEqDiff, Nat.zero_le, Int.reduceEq, Int.reduceLT, Int.reduceLE, Int.reduceNeg, Int.reduceAdd, if_true, if_false, reduceIte, reduceCtorEq, Bool.false_eq_true, ne_eq, qCmp_0, qCmp_1, qCmp_2, qCmp_3, qCmp_4, qCmp_5, ib_0, ib_1, ib_2, lb_0, lb_1, lb_2, dv_0, dv_1, wq_ic, wq_ld_l, wq_ld_a, wq_ib, wq_lb, wq_i2l, wq_get, mGet_0, mGet_1, mGet_2, mGet_3, wq_ret0, wq_ret1, wq_ret2, wq_ret3, wq_ret4, mrg_100_, ldR0, fk_0_2, ldL1, ldL3, fk_0_1, kX0_blend_0, sk_120, al_120, mrg, mrl, mSet_ap, ncast, Option.some.injEq]
  (try simp only [mrg, mrl] at *) <;> repeat' (first | (with_reducible assumption) | (with_reducible apply And.intro) | intro _)
  all_goals first | omega | exact h1 | skip
theorem ctrX0_blend {l : Launch} (hst : l.stackTraces = false) (hT : mTxM l) : mCtr l calX0_blend spX0_blend :=
  mMet0 (T := TX0_blend) (S := SX0_blend) hst hT (by decide) okX0_blend ⟨_, _, rfl, rfl⟩ (fun a => mCtr_no) vcX0_blend

def spX0_meanBase : mSp := shR (fun _ i I Q => i = some 120 ∧ mrg (I 120 1) ∧ Q (.inl (some (mL (10000 * I 120 1)))) I)
def SX0_meanBase : Nat → mSp := fun a => match a with
  | _ => fun _ _ _ _ => False
set_option maxRecDepth 100000 in
set_option maxHeartbeats 1000000 in
theorem vcX0_meanBase (fl : Nat → Bool) (avs : List mV) (I : mM) (Q : mO → mM → Prop) (hsp : spX0_meanBase fl avs I Q) : mVC0 SX0_meanBase fl Q kX0_meanBase 1 avs I := by
  obtain ⟨i, rfl, h0⟩ := shR_inv hsp
  refine ⟨rfl, ?_⟩
  show mWp _ _ _ _ _ _ kX0_meanBase_0 [some (mR i)] [] I
  obtain ⟨rfl, ha, h1⟩ := h0
  simp only [false_and, and_false, true_or, or_true, false_or, or_false, true_and, and_true, true_implies, false_implies, implies_true, not_true_eq_false, not_false_eq_true, and_self, List.length_cons, List.length_nil, mNoCut_, mCat_n, mCat_I, mCat_L, mCat_R, mIsL_n, mIsL_I, mIsL_R, mIsL_L, Nat.reduceAdd, Nat.reduceSub, Nat.reduceLeDiff, Nat.reduceLT, Nat.reduceEqDiff, Nat.zero_le, Int.reduceEq, Int.reduceLT, Int.reduceLE, Int.reduceNeg, Int.reduceAdd, if_true, if_false, reduceIte, reduceCtorEq, Bool.false_eq_true, ne_eq, qCmp_0, qCmp_1, qCmp_2, qCmp_3, qCmp_4, qCmp_5, ib_0, ib_1, ib_2, lb_0, lb_1, lb_2, dv_0, dv_1, wq_lc, wq_ld_a, wq_lb, wq_i2l, wq_get, mGet_0, mGet_1, mGet_2, mGet_3, wq_ret0, wq_ret1, wq_ret2, wq_ret3, wq_ret4, ldR0, fk_0_1, kX0_meanBase_0, sk_120, al_120, mrg, mrl, mSet_ap, ncast, Option.some.injEq]
  (try simp only [mrg, mrl] at *) <;> repeat' (first | (with_reducible assumption) | (with_reducible apply And.intro) | intro _)
  all_goals first | omega | exact h1 | skip
theorem ctrX0_meanBase {l : Launch} (hst : l.stackTraces = false) (hT : mTxM l) : mCtr l calX0_meanBase spX0_meanBase :=
  mMet0 (T := TX0_meanBase) (S := SX0_meanBase) hst hT (by decide) okX0_meanBase ⟨_, _, rfl, rfl⟩ (fun a => mCtr_no) vcX0_meanBase

def spX9_price : mSp := shRII (fun _ i c r I Q => i = some 130 ∧ Q (.inl (some (mI (priceT (I 11 3) c r)))) I)
def SX9_price : Nat → mSp := fun a => match a with
  | _ => fun _ _ _ _ => False
set_option maxRecDepth 100000 in
set_option maxHeartbeats 1000000 in
theorem vcX9_price (fl : Nat → Bool) (avs : List mV) (I : mM) (Q : mO → mM → Prop) (hsp : spX9_price fl avs I Q) : mVC0 SX9_price fl Q kX9_price 3 avs I := by
  obtain ⟨i, c, r, rfl, h0⟩ := shRII_inv hsp
  refine ⟨rfl, ?_⟩
  show mWp _ _ _ _ _ _ kX9_price_0 [some (mR i), some (mI c), some (mI r)] [] I
  obtain ⟨rfl, h1⟩ := h0
  unfold priceT at h1
  simp only [false_and, and_false, true_or, or_true, false_or, or_false, true_and, and_true, true_implies, false_implies, implies_true, not_true_eq_false, not_false_eq_true, and_self, List.length_cons, List.length_nil, mNoCut_, mCat_n, mCat_I, mCat_L, mCat_R, mIsL_n, mIsL_I, mIsL_R, mIsL_L, Nat.reduceAdd, Nat.reduceSub, Nat.reduceLeDiff, Nat.reduceLT, Nat.reduceEqDiff, Nat.zero_le, Int.reduceEq, Int.reduceLT, Int.reduceLE, Int.reduceNeg, Int.reduceAdd, if_true, if_false, reduceIte, reduceCtorEq, Bool.false_eq_true, ne_eq, qCmp_0, qCmp_1, qCmp_2, qCmp_3, qCmp_4, qCmp_5, ib_0, ib_1, ib_2, lb_0, lb_1, lb_2, dv_0, dv_1, wq_ic, wq_ld_i, wq_ld_a, wq_ib, wq_get, mGet_0, mGet_1, mGet_2, mGet_3, wq_ret0, wq_ret1, wq_ret2, wq_ret3, wq_ret4, mrg_100_, ldI1, ldI2, ldR0, fk_9_0, fk_3_3, kX9_price_0, sk_130, al_130, rf_130_0, sk_11, al_11, sk_102, al_102, mrg, mrl, mSet_ap, ncast, Option.some.injEq]
  (try simp only [mrg, mrl] at *) <;> repeat' (first | (with_reducible assumption) | (with_reducible apply And.intro) | intro _)
  all_goals first | omega | exact h1 | skip
theorem ctrX9_price {l : Launch} (hst : l.stackTraces = false) (hT : mTxM l) : mCtr l calX9_price spX9_price :=
  mMet0 (T := TX9_price) (S := SX9_price) hst hT (by decide) okX9_price ⟨_, _, rfl, rfl⟩ (fun a => mCtr_no) vcX9_price

def spX9_chanceAt : mSp := shRII (fun _ i f d I Q => i = some 130 ∧ (0 ≤ f ∧ f < 9) ∧ mrg (I 22 f - I 23 f * d) ∧ Q (.inl (some (mI (max 0 (I 22 f - I 23 f * d))))) I)
def SX9_chanceAt : Nat → mSp := fun a => match a with
  | _ => fun _ _ _ _ => False
set_option maxRecDepth 100000 in
set_option maxHeartbeats 1000000 in
theorem vcX9_chanceAt (fl : Nat → Bool) (avs : List mV) (I : mM) (Q : mO → mM → Prop) (hsp : spX9_chanceAt fl avs I Q) : mVC0 SX9_chanceAt fl Q kX9_chanceAt 3 avs I := by
  obtain ⟨i, f, d, rfl, h0⟩ := shRII_inv hsp
  refine ⟨rfl, ?_⟩
  show mWp _ _ _ _ _ _ kX9_chanceAt_0 [some (mR i), some (mI f), some (mI d)] [] I
  obtain ⟨rfl, hf, hr, h1⟩ := h0
  simp only [false_and, and_false, true_or, or_true, false_or, or_false, true_and, and_true, true_implies, false_implies, implies_true, not_true_eq_false, not_false_eq_true, and_self, List.length_cons, List.length_nil, mNoCut_, mCat_n, mCat_I, mCat_L, mCat_R, mIsL_n, mIsL_I, mIsL_R, mIsL_L, Nat.reduceAdd, Nat.reduceSub, Nat.reduceLeDiff, Nat.reduceLT, Nat.reduceEqDiff, Nat.zero_le, Int.reduceEq, Int.reduceLT, Int.reduceLE, Int.reduceNeg, Int.reduceAdd, if_true, if_false, reduceIte, reduceCtorEq, Bool.false_eq_true, ne_eq, qCmp_0, qCmp_1, qCmp_2, qCmp_3, qCmp_4, qCmp_5, ib_0, ib_1, ib_2, lb_0, lb_1, lb_2, dv_0, dv_1, wq_ic, wq_ld_i, wq_ld_a, wq_ib, wq_get, mGet_0, mGet_1, mGet_2, mGet_3, wq_ald, wq_ret0, wq_ret1, wq_ret2, wq_ret3, wq_ret4, wq_max, wq_min, wq_abs, wq_lmax, mrg_0_, ldR0, fk_9_1, fk_6_2, ldI1, fk_6_3, ldI2, kX9_chanceAt_0, sk_130, al_130, rf_130_1, sk_12, al_12, rf_12_2, sk_22, al_22, sn_22, rf_12_3, sk_23, al_23, sn_23, ald_n, ro0_n, al_ro, mrg, mrl, mSet_ap, ncast, Option.some.injEq]
  (try simp only [mrg, mrl] at *) <;> repeat' (first | (with_reducible assumption) | (with_reducible apply And.intro) | intro _)
  all_goals first | omega | exact h1 | skip
theorem ctrX9_chanceAt {l : Launch} (hst : l.stackTraces = false) (hT : mTxM l) : mCtr l calX9_chanceAt spX9_chanceAt :=
  mMet0 (T := TX9_chanceAt) (S := SX9_chanceAt) hst hT (by decide) okX9_chanceAt ⟨_, _, rfl, rfl⟩ (fun a => mCtr_no) vcX9_chanceAt

def spX9_timeTo : mSp := shRIII (fun _ i f s c I Q => i = some 130 ∧ (0 ≤ f ∧ f < 9) ∧ (0 ≤ s ∧ s < 289) ∧ (0 ≤ c ∧ c < 289) ∧ Q (.inl (some (mI (far s c * I 21 f)))) I)
def SX9_timeTo : Nat → mSp := fun a => match a with
  | 0 => spX10_apart
  | _ => fun _ _ _ _ => False
theorem SX9_timeTo_0 : SX9_timeTo 0 = spX10_apart := Eq.trans rfl rfl
set_option maxRecDepth 100000 in
set_option maxHeartbeats 1000000 in
theorem vcX9_timeTo (fl : Nat → Bool) (avs : List mV) (I : mM) (Q : mO → mM → Prop) (hsp : spX9_timeTo fl avs I Q) : mVC0 SX9_timeTo fl Q kX9_timeTo 4 avs I := by
  obtain ⟨i, f, s, c, rfl, h0⟩ := shRIII_inv hsp
  refine ⟨rfl, ?_⟩
  show mWp _ _ _ _ _ _ kX9_timeTo_0 [some (mR i), some (mI f), some (mI s), some (mI c)] [] I
  obtain ⟨rfl, hf, hs, hc, h1⟩ := h0
  simp only [false_and, and_false, true_or, or_true, false_or, or_false, true_and, and_true, true_implies, false_implies, implies_true, not_true_eq_false, not_false_eq_true, and_self, List.length_cons, List.length_nil, mNoCut_, mCat_n, mCat_I, mCat_L, mCat_R, mIsL_n, mIsL_I, mIsL_R, mIsL_L, Nat.reduceAdd, Nat.reduceSub, Nat.reduceLeDiff, Nat.reduceLT, Nat.reduceEqDiff, Nat.zero_le, Int.reduceEq, Int.reduceLT, Int.reduceLE, Int.reduceNeg, Int.reduceAdd, if_true, if_false, reduceIte, reduceCtorEq, Bool.false_eq_true, ne_eq, qCmp_0, qCmp_1, qCmp_2, qCmp_3, qCmp_4, qCmp_5, ib_0, ib_1, ib_2, lb_0, lb_1, lb_2, dv_0, dv_1, wq_ld_i, wq_ld_a, wq_ib, wq_get, mGet_0, mGet_1, mGet_2, mGet_3, wq_ald, wq_ret0, wq_ret1, wq_ret2, wq_ret3, wq_ret4, ldI2, ldI3, wq_callS2_3, ldR0, fk_9_1, fk_6_1, ldI1, kX9_timeTo_0, sk_130, al_130, rf_130_1, sk_12, al_12, rf_12_1, sk_21, al_21, sn_21, ald_n, ro0_n, al_ro, SX9_timeTo_0, shqII_, spX10_apart, mrg, mrl, mSet_ap, ncast, Option.some.injEq]
  (try simp only [mrg, mrl] at *) <;> repeat' (first | (with_reducible assumption) | (with_reducible apply And.intro) | intro _)
  all_goals first | omega | exact h1 | skip
theorem ctrX9_timeTo {l : Launch} (hst : l.stackTraces = false) (hT : mTxM l) : mCtr l calX9_timeTo spX9_timeTo :=
  mMet0 (T := TX9_timeTo) (S := SX9_timeTo) hst hT (by decide) okX9_timeTo ⟨_, _, rfl, rfl⟩ (fun a => match a with
    | 0 => ctrX10_apart hst hT
    | _ + 1 => mCtr_no) vcX9_timeTo

def spX2_goesFirst : mSp := shIIII (fun _ f x o y I Q => mrg f ∧ mrg x ∧ mrg o ∧ mrg y ∧ (o = -1 ∨ x < y ∨ (x = y ∧ f < o) → Q (.inl (some (mI 1))) I) ∧ (¬ (o = -1 ∨ x < y ∨ (x = y ∧ f < o)) → Q (.inl (some (mI 0))) I))
def SX2_goesFirst : Nat → mSp := fun a => match a with
  | _ => fun _ _ _ _ => False
set_option maxRecDepth 100000 in
set_option maxHeartbeats 1000000 in
theorem vcX2_goesFirst (fl : Nat → Bool) (avs : List mV) (I : mM) (Q : mO → mM → Prop) (hsp : spX2_goesFirst fl avs I Q) : mVC0 SX2_goesFirst fl Q kX2_goesFirst 4 avs I := by
  obtain ⟨f, x, o, y, rfl, h0⟩ := shIIII_inv hsp
  refine ⟨rfl, ?_⟩
  show mWp _ _ _ _ _ _ kX2_goesFirst_0 [some (mI f), some (mI x), some (mI o), some (mI y)] [] I
  obtain ⟨hf, hx, ho, hy, h1, h2⟩ := h0
  simp only [false_and, and_false, true_or, or_true, false_or, or_false, true_and, and_true, true_implies, false_implies, implies_true, not_true_eq_false, not_false_eq_true, and_self, List.length_cons, List.length_nil, mNoCut_, mCat_n, mCat_I, mCat_L, mCat_R, mIsL_n, mIsL_I, mIsL_R, mIsL_L, Nat.reduceAdd, Nat.reduceSub, Nat.reduceLeDiff, Nat.reduceLT, Nat.reduceEqDiff, Nat.zero_le, Int.reduceEq, Int.reduceLT, Int.reduceLE, Int.reduceNeg, Int.reduceAdd, if_true, if_false, reduceIte, reduceCtorEq, Bool.false_eq_true, ne_eq, qCmp_0, qCmp_1, qCmp_2, qCmp_3, qCmp_4, qCmp_5, ib_0, ib_1, ib_2, lb_0, lb_1, lb_2, dv_0, dv_1, wq_ic, wq_ld_i, wq_icmp, wq_goto, wq_ret0, wq_ret1, wq_ret2, wq_ret3, wq_ret4, ldI2, mrg_m1_, ldI1, ldI3, ldI0, mrg_1_, mrg_0_, mGo_n, sfxX2_goesFirst_20, cutX2_goesFirst_20, sfxX2_goesFirst_24, cutX2_goesFirst_24, sfxX2_goesFirst_25, cutX2_goesFirst_25, kX2_goesFirst_25, kX2_goesFirst_24, kX2_goesFirst_20, kX2_goesFirst_0, mrg, mrl, mSet_ap, ncast, Option.some.injEq]
  (try simp only [mrg, mrl] at *) <;> repeat' (first | (with_reducible assumption) | (with_reducible apply And.intro) | intro _)
  all_goals first | omega | exact h1 (by omega) | exact h2 (by omega) | skip
theorem ctrX2_goesFirst {l : Launch} (hst : l.stackTraces = false) (hT : mTxM l) : mCtr l calX2_goesFirst spX2_goesFirst :=
  mMet0 (T := TX2_goesFirst) (S := SX2_goesFirst) hst hT (by decide) okX2_goesFirst ⟨_, _, rfl, rfl⟩ (fun a => mCtr_no) vcX2_goesFirst

end SPC1
