section SPM25
/-- what reading gives: fault (0: none) and its place, where it goes on, what was read -/
abbrev rdR := Int × Int × Int × Int
def erT (B : Int → Int) (n : Int) (k a v : Int) : rdR := (if tkT B n a = 4 then 1 else k, bgT B n a, a, v)
def numT (B : Int → Int) (n lo hi a : Int) : rdR := if tkT B n a ≠ 2 then erT B n 2 a lo else if ¬ (lo ≤ vlT B n a ∧ vlT B n a ≤ hi) then erT B n 3 a lo else (0, 0, enT B n a, vlT B n a)
noncomputable def tolT (B : Int → Int) (n : Int) (w : Nat) (lo hi a : Int) : rdR := @ite rdR (isW B n w a) (Classical.propDecidable _) (numT B n lo hi (enT B n a)) (erT B n 2 a lo)
theorem vl_bd {B : Int → Int} {n a : Int} (h : tkT B n a = 2) (ha : a ≤ n) : 0 ≤ vlT B n a ∧ vlT B n a ≤ 999 := by
  unfold vlT
  have b := bg_bd B ha
  have s := scT_bd digP B b.2
  have hd : ∀ j : Int, bgT B n a ≤ j → j < bgT B n a + (scT digP B n (bgT B n a) - bgT B n a).toNat → digP (B j) := fun j j0 j1 => scN_all digP B _ _ j j0 (by
    have e : scN digP B (n - bgT B n a).toNat (bgT B n a) = scT digP B n (bgT B n a) := rfl
    rw [e]
    omega)
  have := va_bd _ hd
  omega
theorem num_bd {B : Int → Int} {n lo hi a : Int} (ha : 0 ≤ a ∧ a ≤ n) (hl : lo ≤ hi) : (0 ≤ (numT B n lo hi a).2.2.1 ∧ (numT B n lo hi a).2.2.1 ≤ n) ∧ (lo ≤ (numT B n lo hi a).2.2.2 ∧ (numT B n lo hi a).2.2.2 ≤ hi) ∧ (0 ≤ (numT B n lo hi a).1 ∧ (numT B n lo hi a).1 ≤ 5) ∧ ((numT B n lo hi a).1 = 0 → a < (numT B n lo hi a).2.2.1) := by
  have e := en_bd B ha.2
  have b := bg_bd B ha.2
  unfold numT erT
  by_cases z : tkT B n a ≠ 2
  · rw [if_pos z]
    dsimp only
    split <;> omega
  · rw [if_neg z]
    by_cases z1 : ¬ (lo ≤ vlT B n a ∧ vlT B n a ≤ hi)
    · rw [if_pos z1]
      dsimp only
      split <;> omega
    · rw [if_neg z1]
      dsimp only
      omega
theorem tol_bd {B : Int → Int} {n lo hi a : Int} {w : Nat} (ha : 0 ≤ a ∧ a ≤ n) (hl : lo ≤ hi) : (0 ≤ (tolT B n w lo hi a).2.2.1 ∧ (tolT B n w lo hi a).2.2.1 ≤ n) ∧ (lo ≤ (tolT B n w lo hi a).2.2.2 ∧ (tolT B n w lo hi a).2.2.2 ≤ hi) ∧ (0 ≤ (tolT B n w lo hi a).1 ∧ (tolT B n w lo hi a).1 ≤ 5) ∧ ((tolT B n w lo hi a).1 = 0 → a < (tolT B n w lo hi a).2.2.1) := by
  have e := en_bd B ha.2
  have b := bg_bd B ha.2
  unfold tolT
  split
  · have h := num_bd (B := B) (n := n) (lo := lo) (hi := hi) (a := enT B n a) ⟨by omega, by omega⟩ hl
    omega
  · unfold erT
    dsimp only
    split <;> omega
def frB (I' I : mM) : Prop := (∀ i, i ≠ 200 → I' i = I i) ∧ (∀ p : Int, ¬ (8 ≤ p ∧ p ≤ 13) → I' 200 p = I 200 p)
theorem frB.refl (I : mM) : frB I I := ⟨fun _ _ => rfl, fun _ _ => rfl⟩
theorem frB.tr {I I1 I2 : mM} (h : frB I1 I) (h2 : frB I2 I1) : frB I2 I := ⟨fun i hi => by rw [h2.1 i hi, h.1 i hi], fun p hp => by rw [h2.2 p hp, h.2 p hp]⟩
theorem frR.b {I' I : mM} (h : frR I' I) : frB I' I := ⟨h.1, fun p hp => h.2 p (by omega)⟩
/-- behind it: the fault k at pl, or read up to a -/
def rdS (I' I : mM) (B : Int → Int) (n k pl a : Int) : Prop := frB I' I ∧ tkS I' B n a ∧ I' 200 12 = k ∧ (k ≠ 0 → I' 200 13 = pl)
theorem tpS.fr {I I' : mM} {B : Int → Int} {n : Int} (h : tpS I B n) (f : frB I' I) : tpS I' B n := by
  unfold tpS at *
  rw [f.1 204 (by decide), f.2 7 (by decide)]
  exact h
theorem tkS.bad {I : mM} {B : Int → Int} {n a : Int} (h : tkS I B n a) (x y : Int) : tkS (mSet (mSet I 200 12 x) 200 13 y) B n a := by
  unfold tkS at *
  rw [set_nq (by decide), set_nq (by decide), set_nq (by decide), set_nq (by decide), set_nq (by decide), set_nq (by decide), set_nq (by decide), set_nq (by decide)]
  exact h
theorem rdS.bad {I : mM} {B : Int → Int} {n a : Int} (h : tkS I B n a) (k : Int) : rdS (mSet (mSet I 200 12 (if I 200 10 = 4 then 1 else k)) 200 13 (I 200 9)) I B n (erT B n k a 0).1 (erT B n k a 0).2.1 a := by
  refine ⟨⟨fun i hi => by rw [set_ne hi, set_ne hi], fun p hp => by rw [set_nq (by omega), set_nq (by omega)]⟩, h.bad _ _, ?_, fun _ => ?_⟩
  · rw [set_nq (by decide), set_eq, h.2.2.1]
    rfl
  · rw [set_eq, h.2.1]
    rfl
theorem rdS.go {I I' : mM} {B : Int → Int} {n a : Int} (hf : frR I' I) (h : tkS I' B n a) (h0 : I 200 12 = 0) (pl : Int) : rdS I' I B n 0 pl a := ⟨hf.b, h, by rw [hf.2 12 (by decide)]; exact h0, fun w => absurd rfl w⟩
def spX11_number : mSp := shRII (fun _ i lo hi I Q => i = some 200 ∧ mrg lo ∧ mrg hi ∧ ∃ B n a, tpS I B n ∧ tkS I B n a ∧ (0 ≤ a ∧ a ≤ n) ∧ mrg (I 200 12) ∧ (I 200 12 ≠ 0 → Q (.inl (some (mI lo))) I) ∧ (I 200 12 = 0 → ∀ I' : mM, rdS I' I B n (numT B n lo hi a).1 (numT B n lo hi a).2.1 (numT B n lo hi a).2.2.1 → Q (.inl (some (mI (numT B n lo hi a).2.2.2))) I'))
def SX11_number : Nat → mSp := fun a => match a with
  | 0 => spX11_blames
  | 1 => spX11_within
  | 2 => spX11_reads
  | _ => fun _ _ _ _ => False
theorem SX11_number_0 : SX11_number 0 = spX11_blames := Eq.trans rfl rfl
theorem SX11_number_1 : SX11_number 1 = spX11_within := Eq.trans rfl rfl
theorem SX11_number_2 : SX11_number 2 = spX11_reads := Eq.trans rfl rfl
set_option maxRecDepth 100000 in
set_option maxHeartbeats 1000000 in
theorem vcX11_number (fl : Nat → Bool) (avs : List mV) (I : mM) (Q : mO → mM → Prop) (hsp : spX11_number fl avs I Q) : mVC0 SX11_number fl Q kX11_number 4 avs I := by
  obtain ⟨i, lo, hi, rfl, h0⟩ := shRII_inv hsp
  obtain ⟨rfl, rl, rh, B, N, a, hT, hK, han, h12, h1, h2⟩ := h0
  have tkb := tk_bd B N a
  have eb := en_bd B han.2
  have bb := bg_bd B han.2
  obtain ⟨k8, k9, k10, k11, k12⟩ := id hK
  refine ⟨rfl, ?_⟩
  show mWp _ _ _ _ _ _ kX11_number_0 [some (mR (some 200)), some (mI lo), some (mI hi), none] [] I
  by_cases z : I 200 12 = 0
  · have h2 := h2 z
    clear h1
    by_cases z2 : tkT B N a = 2
    · have v := vl_bd z2 han.2
      have k11 := k11 z2
      by_cases z3 : lo ≤ vlT B N a ∧ vlT B N a ≤ hi
      · have e : numT B N lo hi a = (0, 0, enT B N a, vlT B N a) := by
          unfold numT
          rw [if_neg (fun w => w z2), if_neg (fun w => w z3)]
        rw [e] at h2
        have h3 : ∀ I' : mM, frR I' I → tkS I' B N (enT B N a) → Q (.inl (some (mI (vlT B N a)))) I' ∧ I' 200 12 = 0 := fun I' f k => ⟨h2 I' (rdS.go f k z 0), by rw [f.2 12 (by decide)]; exact z⟩
        clear h2
        simp only [false_and, and_false, true_or, or_true, false_or, or_false, true_and, and_true, true_implies, false_implies, implies_true, not_true_eq_false, not_false_eq_true, and_self, List.length_cons, List.length_nil, mNoCut_, mCat_n, mCat_I, mCat_L, mCat_R, mIsL_n, mIsL_I, mIsL_R, mIsL_L, Nat.reduceAdd, Nat.reduceSub, Nat.reduceLeDiff, Nat.reduceLT, Nat.reduceEqDiff, Nat.zero_le, Int.reduceEq, Int.reduceLT, Int.reduceLE, Int.reduceNeg, Int.reduceAdd, if_true, if_false, reduceIte, reduceCtorEq, Bool.false_eq_true, ne_eq, qCmp_0, qCmp_1, qCmp_2, qCmp_3, qCmp_4, qCmp_5, ib_0, ib_1, ib_2, lb_0, lb_1, lb_2, dv_0, dv_1, wq_ic, wq_ld_i, wq_ld_a, wq_st_i, wq_i2l, wq_icmp, wq_if, wq_goto, wq_get, mGet_0, mGet_1, mGet_2, mGet_3, wq_ret0, wq_ret1, wq_ret2, wq_ret3, wq_ret4, ldR0, fk_11_10, mrg_2_, wq_callV2_0, fk_11_11, ldI1, ldI2, wq_callS3_1, mrg_3_, stI3, fk_11_12, wq_callV1_0, ldI3, mPut_s, mPut_I0, mPut_R0, mPut_L0, mPut_I1, mPut_R1, mPut_L1, mrg_0_, mGo_n, sfxX11_number_16, cutX11_number_16, sfxX11_number_36, cutX11_number_36, sfxX11_number_52, cutX11_number_52, sfxX11_number_63, cutX11_number_63, sfxX11_number_64, cutX11_number_64, kX11_number_64, kX11_number_63, kX11_number_52, kX11_number_36, kX11_number_16, kX11_number_0, sk_200, al_200, ↓SX11_number_0, ↓SX11_number_1, ↓SX11_number_2, ↓shqRI_, ↓shqLLL_, ↓shqR_, ↓spX11_blames, ↓spX11_within, ↓spX11_reads, mrg, mrl, mSet_ap, ncast, Option.some.injEq, k10, z2, k11, z]
        refine ⟨⟨by omega, by omega⟩, rl, rh, fun _ => ⟨B, N, enT B N a, hT, k8, ⟨by omega, by omega⟩, ⟨by omega, by omega⟩, fun I' f k => ?_⟩, fun y => absurd z3 y, ⟨by omega, by omega⟩, ⟨by have := rl.1; omega, by have := rl.2; omega⟩, by have := rh.1; omega, by have := rh.2; omega⟩
        have q := h3 I' f k
        rw [q.2]
        exact ⟨⟨by decide, by decide⟩, fun w => absurd rfl w, fun _ => q.1⟩
      · have e : numT B N lo hi a = erT B N 3 a lo := by
          unfold numT
          rw [if_neg (fun w => w z2), if_pos z3]
        rw [e] at h2
        have h3 : Q (.inl (some (mI lo))) (mSet (mSet I 200 12 3) 200 13 (I 200 9)) := by
          have h := h2 _ (rdS.bad hK 3)
          rw [k10, z2] at h
          exact h
        clear h2
        simp only [false_and, and_false, true_or, or_true, false_or, or_false, true_and, and_true, true_implies, false_implies, implies_true, not_true_eq_false, not_false_eq_true, and_self, List.length_cons, List.length_nil, mNoCut_, mCat_n, mCat_I, mCat_L, mCat_R, mIsL_n, mIsL_I, mIsL_R, mIsL_L, Nat.reduceAdd, Nat.reduceSub, Nat.reduceLeDiff, Nat.reduceLT, Nat.reduceEqDiff, Nat.zero_le, Int.reduceEq, Int.reduceLT, Int.reduceLE, Int.reduceNeg, Int.reduceAdd, if_true, if_false, reduceIte, reduceCtorEq, Bool.false_eq_true, ne_eq, qCmp_0, qCmp_1, qCmp_2, qCmp_3, qCmp_4, qCmp_5, ib_0, ib_1, ib_2, lb_0, lb_1, lb_2, dv_0, dv_1, wq_ic, wq_ld_i, wq_ld_a, wq_st_i, wq_i2l, wq_icmp, wq_if, wq_goto, wq_get, mGet_0, mGet_1, mGet_2, mGet_3, wq_ret0, wq_ret1, wq_ret2, wq_ret3, wq_ret4, ldR0, fk_11_10, mrg_2_, wq_callV2_0, fk_11_11, ldI1, ldI2, wq_callS3_1, mrg_3_, stI3, fk_11_12, wq_callV1_0, ldI3, mPut_s, mPut_I0, mPut_R0, mPut_L0, mPut_I1, mPut_R1, mPut_L1, mrg_0_, mGo_n, sfxX11_number_16, cutX11_number_16, sfxX11_number_36, cutX11_number_36, sfxX11_number_52, cutX11_number_52, sfxX11_number_63, cutX11_number_63, sfxX11_number_64, cutX11_number_64, kX11_number_64, kX11_number_63, kX11_number_52, kX11_number_36, kX11_number_16, kX11_number_0, sk_200, al_200, ↓SX11_number_0, ↓SX11_number_1, ↓SX11_number_2, ↓shqRI_, ↓shqLLL_, ↓shqR_, ↓spX11_blames, ↓spX11_within, ↓spX11_reads, mrg, mrl, mSet_ap, ncast, Option.some.injEq, k10, z2, k11, z]
        exact ⟨⟨by omega, by omega⟩, rl, rh, fun y => absurd y z3, fun _ => h3, ⟨by omega, by omega⟩, ⟨by have := rl.1; omega, by have := rl.2; omega⟩, by have := rh.1; omega, by have := rh.2; omega⟩
    · have e : numT B N lo hi a = erT B N 2 a lo := by
        unfold numT
        rw [if_pos z2]
      rw [e] at h2
      have h3 : Q (.inl (some (mI lo))) (mSet (mSet I 200 12 (if tkT B N a = 4 then 1 else 2)) 200 13 (I 200 9)) := by
        have h := h2 _ (rdS.bad hK 2)
        rw [k10] at h
        exact h
      clear h2
      have x0 : ∃ x : Int, x = (if tkT B N a = 4 then 1 else 2) ∧ (x = 1 ∨ x = 2) := by
        by_cases y : tkT B N a = 4
        · exact ⟨1, (if_pos y).symm, Or.inl rfl⟩
        · exact ⟨2, (if_neg y).symm, Or.inr rfl⟩
      obtain ⟨x, hx, hx2⟩ := x0
      rw [← hx] at h3
      simp only [false_and, and_false, true_or, or_true, false_or, or_false, true_and, and_true, true_implies, false_implies, implies_true, not_true_eq_false, not_false_eq_true, and_self, List.length_cons, List.length_nil, mNoCut_, mCat_n, mCat_I, mCat_L, mCat_R, mIsL_n, mIsL_I, mIsL_R, mIsL_L, Nat.reduceAdd, Nat.reduceSub, Nat.reduceLeDiff, Nat.reduceLT, Nat.reduceEqDiff, Nat.zero_le, Int.reduceEq, Int.reduceLT, Int.reduceLE, Int.reduceNeg, Int.reduceAdd, if_true, if_false, reduceIte, reduceCtorEq, Bool.false_eq_true, ne_eq, qCmp_0, qCmp_1, qCmp_2, qCmp_3, qCmp_4, qCmp_5, ib_0, ib_1, ib_2, lb_0, lb_1, lb_2, dv_0, dv_1, wq_ic, wq_ld_i, wq_ld_a, wq_st_i, wq_i2l, wq_icmp, wq_if, wq_goto, wq_get, mGet_0, mGet_1, mGet_2, mGet_3, wq_ret0, wq_ret1, wq_ret2, wq_ret3, wq_ret4, ldR0, fk_11_10, mrg_2_, wq_callV2_0, fk_11_11, ldI1, ldI2, wq_callS3_1, mrg_3_, stI3, fk_11_12, wq_callV1_0, ldI3, mPut_s, mPut_I0, mPut_R0, mPut_L0, mPut_I1, mPut_R1, mPut_L1, mrg_0_, mGo_n, sfxX11_number_16, cutX11_number_16, sfxX11_number_36, cutX11_number_36, sfxX11_number_52, cutX11_number_52, sfxX11_number_63, cutX11_number_63, sfxX11_number_64, cutX11_number_64, kX11_number_64, kX11_number_63, kX11_number_52, kX11_number_36, kX11_number_16, kX11_number_0, sk_200, al_200, ↓SX11_number_0, ↓SX11_number_1, ↓SX11_number_2, ↓shqRI_, ↓shqLLL_, ↓shqR_, ↓spX11_blames, ↓spX11_within, ↓spX11_reads, mrg, mrl, mSet_ap, ncast, Option.some.injEq, k10, z2, z]
      rw [← hx]
      (try simp only [mrg, mrl] at *) <;> repeat' (first | (with_reducible assumption) | (with_reducible apply And.intro) | intro _)
      all_goals first | omega | exact h3 | exact absurd (by assumption) (show ¬ ¬ ¬ x = 0 by omega) | skip
  · have h1 := h1 z
    clear h2
    simp only [false_and, and_false, true_or, or_true, false_or, or_false, true_and, and_true, true_implies, false_implies, implies_true, not_true_eq_false, not_false_eq_true, and_self, List.length_cons, List.length_nil, mNoCut_, mCat_n, mCat_I, mCat_L, mCat_R, mIsL_n, mIsL_I, mIsL_R, mIsL_L, Nat.reduceAdd, Nat.reduceSub, Nat.reduceLeDiff, Nat.reduceLT, Nat.reduceEqDiff, Nat.zero_le, Int.reduceEq, Int.reduceLT, Int.reduceLE, Int.reduceNeg, Int.reduceAdd, if_true, if_false, reduceIte, reduceCtorEq, Bool.false_eq_true, ne_eq, qCmp_0, qCmp_1, qCmp_2, qCmp_3, qCmp_4, qCmp_5, ib_0, ib_1, ib_2, lb_0, lb_1, lb_2, dv_0, dv_1, wq_ic, wq_ld_i, wq_ld_a, wq_st_i, wq_i2l, wq_icmp, wq_if, wq_goto, wq_get, mGet_0, mGet_1, mGet_2, mGet_3, wq_ret0, wq_ret1, wq_ret2, wq_ret3, wq_ret4, ldR0, fk_11_10, mrg_2_, wq_callV2_0, fk_11_11, ldI1, ldI2, wq_callS3_1, mrg_3_, stI3, fk_11_12, wq_callV1_0, ldI3, mPut_s, mPut_I0, mPut_R0, mPut_L0, mPut_I1, mPut_R1, mPut_L1, mrg_0_, mGo_n, sfxX11_number_16, cutX11_number_16, sfxX11_number_36, cutX11_number_36, sfxX11_number_52, cutX11_number_52, sfxX11_number_63, cutX11_number_63, sfxX11_number_64, cutX11_number_64, kX11_number_64, kX11_number_63, kX11_number_52, kX11_number_36, kX11_number_16, kX11_number_0, sk_200, al_200, ↓SX11_number_0, ↓SX11_number_1, ↓SX11_number_2, ↓shqRI_, ↓shqLLL_, ↓shqR_, ↓spX11_blames, ↓spX11_within, ↓spX11_reads, mrg, mrl, mSet_ap, ncast, Option.some.injEq, k10, z]
    (try simp only [mrg, mrl] at *) <;> repeat' (first | (with_reducible assumption) | (with_reducible apply And.intro) | intro _)
    all_goals first | omega | exact h1 | assumption | exact hK.2.2.2.2.1 | exact hK.2.2.2.2.2 | skip
theorem ctrX11_number {l : Launch} (hst : l.stackTraces = false) (hT : mTxM l) : mCtr l calX11_number spX11_number :=
  mMet0 (T := TX11_number) (S := SX11_number) hst hT (by decide) okX11_number ⟨_, _, rfl, rfl⟩ (fun a => match a with
    | 0 => ctrX11_blames hst hT
    | 1 => ctrX11_within hst hT
    | 2 => ctrX11_reads hst hT
    | _ + 3 => mCtr_no) vcX11_number

def spX11_told : mSp := shRRII (fun _ i w lo hi I Q => i = some 200 ∧ mrg lo ∧ mrg hi ∧ ∃ W : Nat, w = some (250 + W) ∧ W < mTx.length ∧ mTxLen W ≤ 10 ∧ ∃ B n a, tpS I B n ∧ tkS I B n a ∧ (0 ≤ a ∧ a ≤ n) ∧ mrg (I 200 12) ∧ (I 200 12 ≠ 0 → Q (.inl (some (mI lo))) I) ∧ (I 200 12 = 0 → ∀ I' : mM, rdS I' I B n (tolT B n W lo hi a).1 (tolT B n W lo hi a).2.1 (tolT B n W lo hi a).2.2.1 → Q (.inl (some (mI (tolT B n W lo hi a).2.2.2))) I'))
def SX11_told : Nat → mSp := fun a => match a with
  | 0 => spX11_isWord
  | 1 => spX11_blames
  | 2 => spX11_reads
  | 3 => spX11_number
  | _ => fun _ _ _ _ => False
theorem SX11_told_0 : SX11_told 0 = spX11_isWord := Eq.trans rfl rfl
theorem SX11_told_1 : SX11_told 1 = spX11_blames := Eq.trans rfl rfl
theorem SX11_told_2 : SX11_told 2 = spX11_reads := Eq.trans rfl rfl
theorem SX11_told_3 : SX11_told 3 = spX11_number := Eq.trans rfl rfl
set_option maxRecDepth 100000 in
set_option maxHeartbeats 1000000 in
theorem vcX11_told (fl : Nat → Bool) (avs : List mV) (I : mM) (Q : mO → mM → Prop) (hsp : spX11_told fl avs I Q) : mVC0 SX11_told fl Q kX11_told 4 avs I := by
  obtain ⟨i, w, lo, hi, rfl, h0⟩ := shRRII_inv hsp
  obtain ⟨rfl, rl, rh, W, rfl, hW, hL, B, N, a, hT, hK, han, h12, h1, h2⟩ := h0
  have tkb := tk_bd B N a
  have eb := en_bd B han.2
  have bb := bg_bd B han.2
  refine ⟨rfl, ?_⟩
  show mWp _ _ _ _ _ _ kX11_told_0 [some (mR (some 200)), some (mR (some (250 + W))), some (mI lo), some (mI hi)] [] I
  by_cases z : I 200 12 = 0
  · have h2 := h2 z
    clear h1
    by_cases z2 : isW B N W a
    · have e : tolT B N W lo hi a = numT B N lo hi (enT B N a) := if_pos z2
      rw [e] at h2
      simp only [false_and, and_false, true_or, or_true, false_or, or_false, true_and, and_true, true_implies, false_implies, implies_true, not_true_eq_false, not_false_eq_true, and_self, List.length_cons, List.length_nil, mNoCut_, mCat_n, mCat_I, mCat_L, mCat_R, mIsL_n, mIsL_I, mIsL_R, mIsL_L, Nat.reduceAdd, Nat.reduceSub, Nat.reduceLeDiff, Nat.reduceLT, Nat.reduceEqDiff, Nat.zero_le, Int.reduceEq, Int.reduceLT, Int.reduceLE, Int.reduceNeg, Int.reduceAdd, if_true, if_false, reduceIte, reduceCtorEq, Bool.false_eq_true, ne_eq, qCmp_0, qCmp_1, qCmp_2, qCmp_3, qCmp_4, qCmp_5, ib_0, ib_1, ib_2, lb_0, lb_1, lb_2, dv_0, dv_1, wq_ic, wq_ld_i, wq_ld_a, wq_if, wq_get, mGet_0, mGet_1, mGet_2, mGet_3, wq_ret0, wq_ret1, wq_ret2, wq_ret3, wq_ret4, ldR0, ldR1, wq_callV2_0, mrg_2_, fk_11_12, wq_callV1_0, ldI2, ldI3, wq_callV3_0, mrg_0_, mGo_n, sfxX11_told_13, cutX11_told_13, sfxX11_told_24, cutX11_told_24, kX11_told_24, kX11_told_13, kX11_told_0, sk_200, al_200, ↓SX11_told_0, ↓SX11_told_1, ↓SX11_told_2, ↓SX11_told_3, ↓shqRR_, ↓shqRI_, ↓shqR_, ↓shqRII_, ↓spX11_isWord, ↓spX11_blames, ↓spX11_reads, ↓spX11_number, mrg, mrl, mSet_ap, ncast, Option.some.injEq, z]
      refine ⟨W, rfl, hW, hL, B, N, a, hT, hK, han, fun _ => ⟨B, N, enT B N a, hT, hK.1, ⟨by omega, by omega⟩, hK.2.2.2.2, fun I' f k => ?_⟩, fun y => absurd z2 y⟩
      have q : I' 200 12 = 0 := by rw [f.2 12 (by decide)]; exact z
      rw [q]
      exact ⟨rl, rh, B, N, enT B N a, hT.fr f.b, k, ⟨by omega, by omega⟩, ⟨by decide, by decide⟩, fun w => absurd rfl w, fun _ I'' r => h2 I'' ⟨f.b.tr r.1, r.2⟩⟩
    · have e : tolT B N W lo hi a = erT B N 2 a lo := if_neg z2
      rw [e] at h2
      have h3 : Q (.inl (some (mI lo))) (mSet (mSet I 200 12 (if I 200 10 = 4 then 1 else 2)) 200 13 (I 200 9)) := h2 _ (rdS.bad hK 2)
      have kb : ∀ y, tkS (mSet (mSet I 200 12 y) 200 13 (I 200 9)) B N a := fun y => hK.bad _ _
      have tb : ∀ y, tpS (mSet (mSet I 200 12 y) 200 13 (I 200 9)) B N := fun y => hT.fr ⟨fun i hi => by rw [set_ne hi, set_ne hi], fun p hp => by rw [set_nq (by omega), set_nq (by omega)]⟩
      have x0 : ∃ x : Int, x = (if I 200 10 = 4 then 1 else 2) ∧ (x = 1 ∨ x = 2) := by
        by_cases y : I 200 10 = 4
        · exact ⟨1, (if_pos y).symm, Or.inl rfl⟩
        · exact ⟨2, (if_neg y).symm, Or.inr rfl⟩
      obtain ⟨x, hx, hx2⟩ := x0
      rw [← hx] at h3
      have k10 := hK.2.2.1
      clear h2
      simp only [false_and, and_false, true_or, or_true, false_or, or_false, true_and, and_true, true_implies, false_implies, implies_true, not_true_eq_false, not_false_eq_true, and_self, List.length_cons, List.length_nil, mNoCut_, mCat_n, mCat_I, mCat_L, mCat_R, mIsL_n, mIsL_I, mIsL_R, mIsL_L, Nat.reduceAdd, Nat.reduceSub, Nat.reduceLeDiff, Nat.reduceLT, Nat.reduceEqDiff, Nat.zero_le, Int.reduceEq, Int.reduceLT, Int.reduceLE, Int.reduceNeg, Int.reduceAdd, if_true, if_false, reduceIte, reduceCtorEq, Bool.false_eq_true, ne_eq, qCmp_0, qCmp_1, qCmp_2, qCmp_3, qCmp_4, qCmp_5, ib_0, ib_1, ib_2, lb_0, lb_1, lb_2, dv_0, dv_1, wq_ic, wq_ld_i, wq_ld_a, wq_if, wq_get, mGet_0, mGet_1, mGet_2, mGet_3, wq_ret0, wq_ret1, wq_ret2, wq_ret3, wq_ret4, ldR0, ldR1, wq_callV2_0, mrg_2_, fk_11_12, wq_callV1_0, ldI2, ldI3, wq_callV3_0, mrg_0_, mGo_n, sfxX11_told_13, cutX11_told_13, sfxX11_told_24, cutX11_told_24, kX11_told_24, kX11_told_13, kX11_told_0, sk_200, al_200, ↓SX11_told_0, ↓SX11_told_1, ↓SX11_told_2, ↓SX11_told_3, ↓shqRR_, ↓shqRI_, ↓shqR_, ↓shqRII_, ↓spX11_isWord, ↓spX11_blames, ↓spX11_reads, ↓spX11_number, mrg, mrl, mSet_ap, ncast, Option.some.injEq, z]
      rw [← hx]
      refine ⟨W, rfl, hW, hL, B, N, a, hT, hK, han, fun y => absurd y z2, fun _ => ⟨⟨by omega, by omega⟩, ⟨by omega, by omega⟩, fun _ => ⟨rl, rh, B, N, a, tb _, kb _, han, ⟨by omega, by omega⟩, fun _ => h3, fun y => absurd y (by omega)⟩, fun y => absurd y (show ¬ ¬ ¬ x = 0 by omega)⟩⟩
  · have h1 := h1 z
    clear h2
    simp only [false_and, and_false, true_or, or_true, false_or, or_false, true_and, and_true, true_implies, false_implies, implies_true, not_true_eq_false, not_false_eq_true, and_self, List.length_cons, List.length_nil, mNoCut_, mCat_n, mCat_I, mCat_L, mCat_R, mIsL_n, mIsL_I, mIsL_R, mIsL_L, Nat.reduceAdd, Nat.reduceSub, Nat.reduceLeDiff, Nat.reduceLT, Nat.reduceEqDiff, Nat.zero_le, Int.reduceEq, Int.reduceLT, Int.reduceLE, Int.reduceNeg, Int.reduceAdd, if_true, if_false, reduceIte, reduceCtorEq, Bool.false_eq_true, ne_eq, qCmp_0, qCmp_1, qCmp_2, qCmp_3, qCmp_4, qCmp_5, ib_0, ib_1, ib_2, lb_0, lb_1, lb_2, dv_0, dv_1, wq_ic, wq_ld_i, wq_ld_a, wq_if, wq_get, mGet_0, mGet_1, mGet_2, mGet_3, wq_ret0, wq_ret1, wq_ret2, wq_ret3, wq_ret4, ldR0, ldR1, wq_callV2_0, mrg_2_, fk_11_12, wq_callV1_0, ldI2, ldI3, wq_callV3_0, mrg_0_, mGo_n, sfxX11_told_13, cutX11_told_13, sfxX11_told_24, cutX11_told_24, kX11_told_24, kX11_told_13, kX11_told_0, sk_200, al_200, ↓SX11_told_0, ↓SX11_told_1, ↓SX11_told_2, ↓SX11_told_3, ↓shqRR_, ↓shqRI_, ↓shqR_, ↓shqRII_, ↓spX11_isWord, ↓spX11_blames, ↓spX11_reads, ↓spX11_number, mrg, mrl, mSet_ap, ncast, Option.some.injEq, z]
    exact ⟨W, rfl, hW, hL, B, N, a, hT, hK, han, h12, h12, by rw [hK.2.2.1]; exact ⟨by omega, by omega⟩, h12, rl, rh, B, N, a, hT, hK, han, h12, h1⟩
theorem ctrX11_told {l : Launch} (hst : l.stackTraces = false) (hT : mTxM l) : mCtr l calX11_told spX11_told :=
  mMet0 (T := TX11_told) (S := SX11_told) hst hT (by decide) okX11_told ⟨_, _, rfl, rfl⟩ (fun a => match a with
    | 0 => ctrX11_isWord hst hT
    | 1 => ctrX11_blames hst hT
    | 2 => ctrX11_reads hst hT
    | 3 => ctrX11_number hst hT
    | _ + 4 => mCtr_no) vcX11_told

end SPM25
