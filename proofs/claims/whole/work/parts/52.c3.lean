section SPC3
abbrev stA (a : Nat) : Prop := a = 3 ∨ a = 20 ∨ a = 141
theorem stA.sk {a : Nat} (h : stA a) : sk a = 20 := by rcases h with rfl | rfl | rfl <;> rfl
theorem stA.sn {a : Nat} (h : stA a) : sn a = 9 := by rcases h with rfl | rfl | rfl <;> rfl
theorem stA.al {a : Nat} (h : stA a) (fl : Nat → Bool) : al fl a = true := by rcases h with rfl | rfl | rfl <;> rfl
theorem stA.ro {a : Nat} (h : stA a) : mRo0 a = none := ro0_n (by omega)
theorem stA.ne {a : Nat} (h : stA a) : a ≠ 130 := by omega
abbrev stB (s : Int → Int) : Prop := ∀ f : Int, 0 ≤ f → f < 9 → -1 ≤ s f ∧ s f ≤ 288
def ctxU (I : mM) (t : Int → Int) (b : Int) : Prop := WFt t ∧ (0 ≤ b ∧ b < 6) ∧ Laid I t b ∧ (∀ f : Int, 0 ≤ f → f < 9 → I 21 f = pcT t f ∧ I 22 f = hdT t f ∧ I 23 f = prT t f ∧ I 24 f = amT t f) ∧ (∀ k : Int, 0 ≤ k → k ≤ 5 → I 11 k = t k)
theorem laidH_of {I J : mM} {t : Int → Int} {b h : Int} (hf : ∀ i, (120 ≤ i ∧ i ≤ 127) → J i = I i) (H : laidH I t b h) : laidH J t b h := by
  unfold laidH at *
  rw [hf 121 (by decide), hf 122 (by decide), hf 123 (by decide), hf 124 (by decide), hf 125 (by decide), hf 126 (by decide), hf 127 (by decide)]
  exact H
theorem Laid_of {I J : mM} {t : Int → Int} {b : Int} (hf : ∀ i, (120 ≤ i ∧ i ≤ 127) → J i = I i) (H : Laid I t b) : Laid J t b := by
  unfold Laid at *
  rw [hf 120 (by decide)]
  exact ⟨H.1, H.2.1, H.2.2.1, fun h h0 h1 => laidH_of hf (H.2.2.2 h h0 h1)⟩
theorem ctxU_of {I J : mM} {t : Int → Int} {b : Int} (hf : ∀ i, (i = 11 ∨ (21 ≤ i ∧ i ≤ 24) ∨ (120 ≤ i ∧ i ≤ 127)) → J i = I i) (H : ctxU I t b) : ctxU J t b := by
  obtain ⟨h1, h2, h3, h4, h5⟩ := H
  refine ⟨h1, h2, Laid_of (fun i hi => hf i (by omega)) h3, ?_, ?_⟩
  · rw [hf 21 (by decide), hf 22 (by decide), hf 23 (by decide), hf 24 (by decide)]
    exact h4
  · rw [hf 11 (by decide)]
    exact h5
theorem ctxU_fr {I J : mM} {t : Int → Int} {b : Int} {lo hi : Nat} (h : 128 ≤ lo) : ctxU (fr lo hi J I) t b = ctxU I t b := by
  have e : ∀ i, (i = 11 ∨ (21 ≤ i ∧ i ≤ 24) ∨ (120 ≤ i ∧ i ≤ 127)) → fr lo hi J I i = I i := fun i hi => if_neg (by omega)
  exact propext ⟨ctxU_of (fun i hi => (e i hi).symm), ctxU_of e⟩
theorem ctxU_set {I : mM} {t : Int → Int} {b p v : Int} {a : Nat} (h : 128 ≤ a ∨ a ≤ 10 ∨ (12 ≤ a ∧ a ≤ 20) ∨ (25 ≤ a ∧ a < 120)) : ctxU (mSet I a p v) t b = ctxU I t b := by
  have e : ∀ i, (i = 11 ∨ (21 ≤ i ∧ i ≤ 24) ∨ (120 ≤ i ∧ i ≤ 127)) → mSet I a p v i = I i := fun i hi => set_ne (by omega)
  exact propext ⟨ctxU_of (fun i hi => (e i hi).symm), ctxU_of e⟩
/-- what stands against FIELDER f; left: how many are left of the middle up to it -/
def reasonU (e st : Int → Int) (f left : Int) : Int :=
  if ¬ insT e (st f % 17) (st f / 17) then 1 else if far (st f) 144 < e 5 then 2 else if dupN st (st f) f.toNat = true then 3 else if e 4 < left then 4 else 0
def leftU (st : Int → Int) : Nat → Int
  | 0 => 0
  | n + 1 => leftU st n + if st n ≠ -1 ∧ st n % 17 < 8 then 1 else 0
def verdGo (e st : Int → Int) : Nat → Nat → Int
  | 0, _ => -1
  | m + 1, f => if st f = -1 ∨ reasonU e st f (leftU st (f + 1)) = 0 then verdGo e st m (f + 1) else 10 * (f : Int) + reasonU e st f (leftU st (f + 1))
def verdU (e st : Int → Int) : Int := verdGo e st 9 0
theorem leftU_bd (st : Int → Int) : ∀ n : Nat, 0 ≤ leftU st n ∧ leftU st n ≤ n
  | 0 => by simp [leftU]
  | n + 1 => by
    have ih := leftU_bd st n
    simp only [leftU]
    split <;> omega
theorem reasonU_bd (e st : Int → Int) (f left : Int) : 0 ≤ reasonU e st f left ∧ reasonU e st f left ≤ 4 := by
  unfold reasonU
  repeat' split
  all_goals omega
theorem leftN_U (st : Int → Int) (c : Int) : ∀ n : Nat, leftN st c n = if c % 17 < 8 then 1 + leftU st n else 0
  | 0 => by
    simp only [leftN, leftU]
    omega
  | n + 1 => by
    have ih := leftN_U st c n
    have lb := leftU_bd st n
    simp only [leftN, leftU]
    rw [ih]
    by_cases h1 : c % 17 < 8
    · rw [if_pos h1, if_pos h1]
      by_cases h2 : st n = -1
      · rw [if_pos h2, if_neg (fun z => z.1 h2)]
        omega
      · rw [if_neg h2]
        by_cases h3 : st n % 17 < 8
        · rw [if_pos ⟨by omega, h3⟩, if_pos ⟨h2, h3⟩]
          omega
        · rw [if_neg (fun z => h3 z.2), if_neg (fun z => h3 z.2)]
          omega
    · rw [if_neg h1, if_neg h1]
      simp
theorem dupN_cong {s s' : Int → Int} (c : Int) : ∀ n : Nat, (∀ f : Int, 0 ≤ f → f < n → s f = s' f) → dupN s c n = dupN s' c n
  | 0, _ => rfl
  | n + 1, h => by
    simp only [dupN]
    rw [dupN_cong c n (fun f f0 f1 => h f f0 (by omega)), h n (by omega) (by omega)]
theorem leftN_cong {s s' : Int → Int} (c : Int) : ∀ n : Nat, (∀ f : Int, 0 ≤ f → f < n → s f = s' f) → leftN s c n = leftN s' c n
  | 0, _ => rfl
  | n + 1, h => by
    simp only [leftN]
    rw [leftN_cong c n (fun f f0 f1 => h f f0 (by omega)), h n (by omega) (by omega)]
/-- the class's verdict is the reference's -/
theorem verd_go {e t st : Int → Int} (H : WFt t) (he : ∀ k : Int, 0 ≤ k → k ≤ 5 → e k = t k) : ∀ (m f : Nat), f + m ≤ 9 → leftU st f ≤ t 4 → verdGo e st m f = judgeGo (stR t st) m f
  | 0, _, _, _ => rfl
  | m + 1, f, hm, hl => by
    have e1 := he 1 (by omega) (by omega)
    have e4 := he 4 (by omega) (by omega)
    have e5 := he 5 (by omega) (by omega)
    have s1 : stR t st 1 = t 1 := stR_out _ _ (by omega)
    have s4 : stR t st 4 = t 4 := stR_out _ _ (by omega)
    have s5 : stR t st 5 = t 5 := stR_out _ _ (by omega)
    have sf : stT (stR t st) f = st f := stT_stR _ _ ⟨by omega, by omega⟩
    have sd : dupN (stT (stR t st)) (st f) f = dupN st (st f) f := dupN_cong _ f (fun g g0 g1 => stT_stR _ _ ⟨g0, by omega⟩)
    have sl : leftN (stT (stR t st)) (st f) f = leftN st (st f) f := leftN_cong _ f (fun g g0 g1 => stT_stR _ _ ⟨g0, by omega⟩)
    have lu := leftN_U st (st f) f
    have ls : leftU st (f + 1) = leftU st f + if st f ≠ -1 ∧ st f % 17 < 8 then 1 else 0 := rfl
    have hl4 : st f ≠ -1 → (t 4 < leftU st (f + 1)) = (t 4 < leftN st (st f) f) := fun z => propext (by
      rw [ls, lu]
      by_cases h8 : st f % 17 < 8
      · rw [if_pos (And.intro z h8), if_pos h8]
        omega
      · rw [if_neg (fun w : st f ≠ -1 ∧ st f % 17 < 8 => h8 w.2), if_neg h8]
        have := H.1.2.2.2.2.1
        omega)
    have hr : st f ≠ -1 → reasonU e st f (leftU st (f + 1)) = judgedT (stR t st) f := fun z => by
      have hl4 := hl4 z
      unfold reasonU judgedT insT
      rw [e1, e4, e5, s1, s4, s5, sf, show ((f : Int).toNat) = f from rfl, sd, sl]
      simp only [hl4]
    have jb := judgedT_bd (stR t st) f
    simp only [verdGo, judgeGo]
    rw [sf]
    by_cases z : st f = -1
    · rw [if_pos (Or.inl z), if_neg (fun w => w.1 z)]
      exact verd_go H he m (f + 1) (by omega) (by rw [ls, if_neg (fun w => w.1 z)]; omega)
    · rw [hr z]
      by_cases z2 : judgedT (stR t st) f = 0
      · rw [if_pos (Or.inr z2), if_neg (by omega)]
        refine verd_go H he m (f + 1) (by omega) ?_
        unfold judgedT at z2
        rw [sf, show ((f : Int).toNat) = f from rfl, sl, s4, lu] at z2
        rw [ls]
        repeat' split at z2
        all_goals first | omega | skip
        all_goals (rw [if_neg (by omega)] <;> omega)
      · rw [if_neg (by omega), if_pos ⟨z, by omega⟩]
theorem verd_eq {e t st : Int → Int} (H : WFt t) (he : ∀ k : Int, 0 ≤ k → k ≤ 5 → e k = t k) : verdU e st = judgeT (stR t st) := verd_go H he 9 0 (by omega) (by have := H.1.2.2.2.2.1; simp only [leftU]; omega)
def spX9_reasonAgainst : mSp := shRRII (fun _ i s f l I Q => i = some 130 ∧ s = some (s.getD 0) ∧ stA (s.getD 0) ∧ (2 ≤ I 11 1 ∧ I 11 1 ≤ 8) ∧ mrg (I 11 5) ∧ mrg (I 11 4) ∧ stB (I (s.getD 0)) ∧ (0 ≤ f ∧ f < 9) ∧ I (s.getD 0) f ≠ -1 ∧ mrg l ∧ Q (.inl (some (mI (reasonU (I 11) (I (s.getD 0)) f l)))) I)
def SX9_reasonAgainst : Nat → mSp := fun a => match a with
  | 0 => spX3_liesIn_
  | 1 => spX10_apart
  | _ => fun _ _ _ _ => False
theorem SX9_reasonAgainst_0 : SX9_reasonAgainst 0 = spX3_liesIn_ := Eq.trans rfl rfl
theorem SX9_reasonAgainst_1 : SX9_reasonAgainst 1 = spX10_apart := Eq.trans rfl rfl
theorem cutsX9_reasonAgainst {t : Nat} {bs : List Bool} (h : cutX9_reasonAgainst t = some bs) : (t = 39 ∧ bs = [true, true, true, true, true]) := by
  unfold cutX9_reasonAgainst at h
  simp only [mLk] at h
  by_cases h0 : 39 = t
  · subst h0
    simp at h
    exact ⟨rfl, h.symm⟩
  rw [if_neg h0] at h
  cases h
set_option maxRecDepth 100000 in
set_option maxHeartbeats 1000000 in
theorem vcX9_reasonAgainst (fl : Nat → Bool) (avs : List mV) (I : mM) (Q : mO → mM → Prop) (hsp : spX9_reasonAgainst fl avs I Q) : mVC SX9_reasonAgainst fl Q kX9_reasonAgainst cutX9_reasonAgainst 5 avs I := by
  obtain ⟨i, s, f, l, rfl, h0⟩ := shRRII_inv hsp
  obtain ⟨rfl, hs, hA, h1, h5, h4, hB, hf, hne, hl, h⟩ := h0
  obtain ⟨a, rfl⟩ : ∃ a, s = some a := ⟨_, hs⟩
  simp only [Option.getD_some] at *
  have k1 := hA.sk
  have k2 := hA.sn
  have k3 := hA.al fl
  have k5 := hA.ro
  have bf := hB f hf.1 hf.2
  have fb := far_bd (a := I a f) (b := 144) ⟨by omega, by omega⟩ ⟨by omega, by omega⟩
  refine ⟨rfl, (fun m pc lv st I1 => st = [] ∧ I1 = I ∧ ∃ (j : Nat), lv = [some (mR (some 130)), some (mR (some a)), some (mI f), some (mI l), some (mI j)] ∧ (j : Int) ≤ f ∧ m = 9 - j ∧ insT (I 11) ((I a) f % 17) ((I a) f / 17) ∧ ¬ far ((I a) f) 144 < I 11 5 ∧ dupN (I a) ((I a) f) j = false), ?_, ?_⟩
  · intro n t bs hbs lv st I1 hc
    rcases cutsX9_reasonAgainst hbs with ⟨rfl, rfl⟩
    rw [sfxX9_reasonAgainst_39]
    obtain ⟨rfl, rfl, j, rfl, hj, hm, z1, z2, z3⟩ := hc
    have bj := hB j (by omega) (by omega)
    have r3 : I1 a j = I1 a f → (j : Int) < f → reasonU (I1 11) (I1 a) f l = 3 := fun e q => by
      unfold reasonU
      rw [if_neg (fun w => w z1), if_neg z2, if_pos (dupN_step _ _ j _ (by omega) e)]
    have r4 : (j : Int) = f → reasonU (I1 11) (I1 a) f l = if I1 11 4 < l then 4 else 0 := fun q => by
      unfold reasonU
      rw [if_neg (fun w => w z1), if_neg z2, show f.toNat = j by omega, z3, if_neg Bool.false_ne_true]
    have r5 : ¬ I1 a j = I1 a f → dupN (I1 a) (I1 a f) (j + 1) = false := fun q => by
      simp only [dupN]
      rw [z3, decide_eq_false q]
      rfl
    simp only [false_and, and_false, true_or, or_true, false_or, or_false, true_and, and_true, true_implies, false_implies, implies_true, not_true_eq_false, not_false_eq_true, and_self, List.length_cons, List.length_nil, mNoCut_, mCat_n, mCat_I, mCat_L, mCat_R, mIsL_n, mIsL_I, mIsL_R, mIsL_L, Nat.reduceAdd, Nat.reduceSub, Nat.reduceLeDiff, Nat.reduceLT, Nat.reduceEqDiff, Nat.zero_le, Int.reduceEq, Int.reduceLT, Int.reduceLE, Int.reduceNeg, Int.reduceAdd, if_true, if_false, reduceIte, reduceCtorEq, Bool.false_eq_true, ne_eq, qCmp_0, qCmp_1, qCmp_2, qCmp_3, qCmp_4, qCmp_5, ib_0, ib_1, ib_2, lb_0, lb_1, lb_2, dv_0, dv_1, wq_ic, wq_ld_i, wq_ld_a, wq_st_i, wq_iinc, wq_icmp, wq_if, wq_goto, wq_get, mGet_0, mGet_1, mGet_2, mGet_3, wq_ald, wq_ret0, wq_ret1, wq_ret2, wq_ret3, wq_ret4, ldR0, fk_9_0, ldR1, ldI2, wq_callV2_0, mrg_1_, mrg_144_, wq_callS2_3, fk_3_5, mrg_2_, mrg_0_, stI4, ldI4, mrg_3_, wqinc4, ldI3, fk_3_4, mrg_4_, mPut_s, mPut_I0, mPut_R0, mPut_L0, mPut_I1, mPut_R1, mPut_L1, mGo_n, sfxX9_reasonAgainst_15, cutX9_reasonAgainst_15, sfxX9_reasonAgainst_36, cutX9_reasonAgainst_36, sfxX9_reasonAgainst_39, cutX9_reasonAgainst_39, sfxX9_reasonAgainst_57, cutX9_reasonAgainst_57, sfxX9_reasonAgainst_63, cutX9_reasonAgainst_63, sfxX9_reasonAgainst_78, cutX9_reasonAgainst_78, sfxX9_reasonAgainst_79, cutX9_reasonAgainst_79, wq_cut, mGo_c, mMask_t, mMask_f, mMask_n, kX9_reasonAgainst_79, kX9_reasonAgainst_78, kX9_reasonAgainst_63, kX9_reasonAgainst_57, kX9_reasonAgainst_39, kX9_reasonAgainst_36, kX9_reasonAgainst_15, kX9_reasonAgainst_0, sk_130, al_130, rf_130_0, sk_11, al_11, sk_102, al_102, ald_n, ro0_n, al_ro, SX9_reasonAgainst_0, SX9_reasonAgainst_1, shqRI_, shqII_, spX3_liesIn_, spX10_apart, mrg, mrl, mSet_ap, ncast, Option.some.injEq, k1, k2, k3, k5]
    (try simp only [mrg, mrl] at *) <;> repeat' (first | (with_reducible assumption) | (with_reducible apply And.intro) | intro _)
    all_goals first | omega | exact q_I (r3 (by omega) (by omega)) h | exact q_I (by rw [r4 (by omega)]; omega) h | exact ⟨9 - (j + 1), by omega, j + 1, rfl, by omega, rfl, z1, z2, r5 (by omega)⟩ | skip
  · show mWp _ _ _ _ _ _ kX9_reasonAgainst_0 [some (mR (some 130)), some (mR (some a)), some (mI f), some (mI l), none] [] I
    have r1 : ¬ insT (I 11) (I a f % 17) (I a f / 17) → reasonU (I 11) (I a) f l = 1 := fun z => by
      unfold reasonU
      rw [if_pos z]
    have r2 : insT (I 11) (I a f % 17) (I a f / 17) → far (I a f) 144 < I 11 5 → reasonU (I 11) (I a) f l = 2 := fun z z2 => by
      unfold reasonU
      rw [if_neg (fun w => w z), if_pos z2]
    simp only [false_and, and_false, true_or, or_true, false_or, or_false, true_and, and_true, true_implies, false_implies, implies_true, not_true_eq_false, not_false_eq_true, and_self, List.length_cons, List.length_nil, mNoCut_, mCat_n, mCat_I, mCat_L, mCat_R, mIsL_n, mIsL_I, mIsL_R, mIsL_L, Nat.reduceAdd, Nat.reduceSub, Nat.reduceLeDiff, Nat.reduceLT, Nat.reduceEqDiff, Nat.zero_le, Int.reduceEq, Int.reduceLT, Int.reduceLE, Int.reduceNeg, Int.reduceAdd, if_true, if_false, reduceIte, reduceCtorEq, Bool.false_eq_true, ne_eq, qCmp_0, qCmp_1, qCmp_2, qCmp_3, qCmp_4, qCmp_5, ib_0, ib_1, ib_2, lb_0, lb_1, lb_2, dv_0, dv_1, wq_ic, wq_ld_i, wq_ld_a, wq_st_i, wq_iinc, wq_icmp, wq_if, wq_goto, wq_get, mGet_0, mGet_1, mGet_2, mGet_3, wq_ald, wq_ret0, wq_ret1, wq_ret2, wq_ret3, wq_ret4, ldR0, fk_9_0, ldR1, ldI2, wq_callV2_0, mrg_1_, mrg_144_, wq_callS2_3, fk_3_5, mrg_2_, mrg_0_, stI4, ldI4, mrg_3_, wqinc4, ldI3, fk_3_4, mrg_4_, mPut_s, mPut_I0, mPut_R0, mPut_L0, mPut_I1, mPut_R1, mPut_L1, mGo_n, sfxX9_reasonAgainst_15, cutX9_reasonAgainst_15, sfxX9_reasonAgainst_36, cutX9_reasonAgainst_36, sfxX9_reasonAgainst_39, cutX9_reasonAgainst_39, sfxX9_reasonAgainst_57, cutX9_reasonAgainst_57, sfxX9_reasonAgainst_63, cutX9_reasonAgainst_63, sfxX9_reasonAgainst_78, cutX9_reasonAgainst_78, sfxX9_reasonAgainst_79, cutX9_reasonAgainst_79, wq_cut, mGo_c, mMask_t, mMask_f, mMask_n, kX9_reasonAgainst_79, kX9_reasonAgainst_78, kX9_reasonAgainst_63, kX9_reasonAgainst_57, kX9_reasonAgainst_39, kX9_reasonAgainst_36, kX9_reasonAgainst_15, kX9_reasonAgainst_0, sk_130, al_130, rf_130_0, sk_11, al_11, sk_102, al_102, ald_n, ro0_n, al_ro, SX9_reasonAgainst_0, SX9_reasonAgainst_1, shqRI_, shqII_, spX3_liesIn_, spX10_apart, mrg, mrl, mSet_ap, ncast, Option.some.injEq, k1, k2, k3, k5]
    (try simp only [mrg, mrl] at *) <;> repeat' (first | (with_reducible assumption) | (with_reducible apply And.intro) | intro _)
    all_goals first | omega | assumption | exact q_I (r1 (by assumption)) h | exact q_I (r2 (by assumption) (by omega)) h | exact ⟨9, 0, rfl, by omega, rfl, by assumption, by omega, rfl⟩ | skip
theorem ctrX9_reasonAgainst {l : Launch} (hst : l.stackTraces = false) (hT : mTxM l) : mCtr l calX9_reasonAgainst spX9_reasonAgainst :=
  mMet (T := TX9_reasonAgainst) (S := SX9_reasonAgainst) hst hT cutX9_reasonAgainst (by decide) okX9_reasonAgainst ⟨_, _, rfl, rfl⟩ trivial (fun t bs h => by rcases cutsX9_reasonAgainst h with ⟨-, rfl⟩ <;> rfl) (fun a => match a with
    | 0 => ctrX3_liesIn_ hst hT
    | 1 => ctrX10_apart hst hT
    | _ + 2 => mCtr_no) vcX9_reasonAgainst

def spX9_verdict : mSp := shRR (fun _ i s I Q => i = some 130 ∧ s = some (s.getD 0) ∧ stA (s.getD 0) ∧ (2 ≤ I 11 1 ∧ I 11 1 ≤ 8) ∧ mrg (I 11 5) ∧ mrg (I 11 4) ∧ stB (I (s.getD 0)) ∧ Q (.inl (some (mI (verdU (I 11) (I (s.getD 0)))))) I)
def SX9_verdict : Nat → mSp := fun a => match a with
  | 0 => spX9_reasonAgainst
  | _ => fun _ _ _ _ => False
theorem SX9_verdict_0 : SX9_verdict 0 = spX9_reasonAgainst := Eq.trans rfl rfl
theorem cutsX9_verdict {t : Nat} {bs : List Bool} (h : cutX9_verdict t = some bs) : (t = 4 ∧ bs = [true, true, true, true, false]) := by
  unfold cutX9_verdict at h
  simp only [mLk] at h
  by_cases h0 : 4 = t
  · subst h0
    simp at h
    exact ⟨rfl, h.symm⟩
  rw [if_neg h0] at h
  cases h
set_option maxRecDepth 100000 in
set_option maxHeartbeats 1000000 in
theorem vcX9_verdict (fl : Nat → Bool) (avs : List mV) (I : mM) (Q : mO → mM → Prop) (hsp : spX9_verdict fl avs I Q) : mVC SX9_verdict fl Q kX9_verdict cutX9_verdict 5 avs I := by
  obtain ⟨i, s, rfl, h0⟩ := shRR_inv hsp
  obtain ⟨rfl, hs, hA, h1, h5, h4, hB, h⟩ := h0
  obtain ⟨a, rfl⟩ : ∃ a, s = some a := ⟨_, hs⟩
  simp only [Option.getD_some] at *
  have k1 := hA.sk
  have k2 := hA.sn
  have k3 := hA.al fl
  have k5 := hA.ro
  refine ⟨rfl, (fun m pc lv st I1 => st = [] ∧ I1 = I ∧ ∃ (j : Nat), lv = [some (mR (some 130)), some (mR (some a)), some (mI (leftU (I a) j)), some (mI j), none] ∧ j ≤ 9 ∧ m = 9 - j ∧ verdU (I 11) (I a) = verdGo (I 11) (I a) (9 - j) j), ?_, ?_⟩
  · intro n t bs hbs lv st I1 hc
    rcases cutsX9_verdict hbs with ⟨rfl, rfl⟩
    rw [sfxX9_verdict_4]
    obtain ⟨rfl, rfl, j, rfl, hj, hm, hv⟩ := hc
    have bj := fun z : (j : Int) < 9 => hB j (by omega) z
    have lb := leftU_bd (I1 a) j
    have ls : leftU (I1 a) (j + 1) = leftU (I1 a) j + if I1 a j ≠ -1 ∧ I1 a j % 17 < 8 then 1 else 0 := rfl
    have em : I1 a j ≠ -1 → (j : Int) < 9 → (I1 a j).tmod 17 = I1 a j % 17 := fun z q => Int.tmod_eq_emod_of_nonneg (by have := bj q; omega)
    have rb := reasonU_bd (I1 11) (I1 a) j (leftU (I1 a) (j + 1))
    have gs : j < 9 → verdGo (I1 11) (I1 a) (9 - j) j = if I1 a j = -1 ∨ reasonU (I1 11) (I1 a) j (leftU (I1 a) (j + 1)) = 0 then verdGo (I1 11) (I1 a) (9 - (j + 1)) (j + 1) else 10 * (j : Int) + reasonU (I1 11) (I1 a) j (leftU (I1 a) (j + 1)) := fun z => by
      rw [show 9 - j = (9 - (j + 1)) + 1 by omega]
      rfl
    have hgo : ∀ _ : Unit, j < 9 → I1 a j = -1 ∨ reasonU (I1 11) (I1 a) j (leftU (I1 a) (j + 1)) = 0 → verdU (I1 11) (I1 a) = verdGo (I1 11) (I1 a) (9 - (j + 1)) (j + 1) := fun _ z z2 => by
      rw [hv, gs z, if_pos z2]
    have hret : ∀ _ : Unit, j < 9 → ¬ I1 a j = -1 → ¬ reasonU (I1 11) (I1 a) j (leftU (I1 a) (j + 1)) = 0 → verdU (I1 11) (I1 a) = 10 * (j : Int) + reasonU (I1 11) (I1 a) j (leftU (I1 a) (j + 1)) := fun _ z z2 z3 => by
      rw [hv, gs z, if_neg (fun w => w.elim z2 z3)]
    clear gs
    rcases Nat.lt_or_ge j 9 with z | z
    · by_cases z2 : I1 a j = -1
      · have l1 : leftU (I1 a) (j + 1) = leftU (I1 a) j := by
          rw [ls, if_neg (fun w => w.1 z2)]
          omega
        clear em bj ls
        simp only [false_and, and_false, true_or, or_true, false_or, or_false, true_and, and_true, true_implies, false_implies, implies_true, not_true_eq_false, not_false_eq_true, and_self, List.length_cons, List.length_nil, mNoCut_, mCat_n, mCat_I, mCat_L, mCat_R, mIsL_n, mIsL_I, mIsL_R, mIsL_L, Nat.reduceAdd, Nat.reduceSub, Nat.reduceLeDiff, Nat.reduceLT, Nat.reduceEqDiff, Nat.zero_le, Int.reduceEq, Int.reduceLT, Int.reduceLE, Int.reduceNeg, Int.reduceAdd, if_true, if_false, reduceIte, reduceCtorEq, Bool.false_eq_true, ne_eq, qCmp_0, qCmp_1, qCmp_2, qCmp_3, qCmp_4, qCmp_5, ib_0, ib_1, ib_2, lb_0, lb_1, lb_2, dv_0, dv_1, wq_ic, wq_ld_i, wq_ld_a, wq_st_i, wq_iinc, wq_ib, wq_idv, wq_icmp, wq_if, wq_goto, wq_ald, wq_ret0, wq_ret1, wq_ret2, wq_ret3, wq_ret4, mrg_0_, stI2, stI3, ldI3, mrg_9_, ldR1, mrg_m1_, ldI2, mrg_17_, mrg_8_, mrg_1_, ldR0, wq_callV4_0, stI4, ldI4, mrg_10_, wqinc3, mPut_s, mPut_I0, mPut_R0, mPut_L0, mPut_I1, mPut_R1, mPut_L1, mGo_n, sfxX9_verdict_4, cutX9_verdict_4, sfxX9_verdict_20, cutX9_verdict_20, sfxX9_verdict_36, cutX9_verdict_36, sfxX9_verdict_37, cutX9_verdict_37, sfxX9_verdict_61, cutX9_verdict_61, sfxX9_verdict_67, cutX9_verdict_67, wq_cut, mGo_c, mMask_t, mMask_f, mMask_n, kX9_verdict_67, kX9_verdict_61, kX9_verdict_37, kX9_verdict_36, kX9_verdict_20, kX9_verdict_4, kX9_verdict_0, sk_130, al_130, ald_n, ro0_n, al_ro, SX9_verdict_0, shqRRII_, spX9_reasonAgainst, mrg, mrl, mSet_ap, ncast, Option.some.injEq, k1, k2, k3, k5, Option.getD_some]
        (try simp only [mrg, mrl] at *) <;> repeat' (first | (with_reducible assumption) | (with_reducible apply And.intro) | intro _)
        all_goals first | omega | exact ⟨9 - (j + 1), by omega, j + 1, by rw [l1]; rfl, by omega, rfl, hgo () z (Or.inl z2)⟩ | skip
      · have em := em z2 (by omega)
        have bj := bj (by omega)
        have hB2 := hB
        by_cases z8 : I1 a j % 17 < 8
        · rw [if_pos ⟨z2, z8⟩] at ls
          rw [ls] at rb hgo hret
          simp only [false_and, and_false, true_or, or_true, false_or, or_false, true_and, and_true, true_implies, false_implies, implies_true, not_true_eq_false, not_false_eq_true, and_self, List.length_cons, List.length_nil, mNoCut_, mCat_n, mCat_I, mCat_L, mCat_R, mIsL_n, mIsL_I, mIsL_R, mIsL_L, Nat.reduceAdd, Nat.reduceSub, Nat.reduceLeDiff, Nat.reduceLT, Nat.reduceEqDiff, Nat.zero_le, Int.reduceEq, Int.reduceLT, Int.reduceLE, Int.reduceNeg, Int.reduceAdd, if_true, if_false, reduceIte, reduceCtorEq, Bool.false_eq_true, ne_eq, qCmp_0, qCmp_1, qCmp_2, qCmp_3, qCmp_4, qCmp_5, ib_0, ib_1, ib_2, lb_0, lb_1, lb_2, dv_0, dv_1, wq_ic, wq_ld_i, wq_ld_a, wq_st_i, wq_iinc, wq_ib, wq_idv, wq_icmp, wq_if, wq_goto, wq_ald, wq_ret0, wq_ret1, wq_ret2, wq_ret3, wq_ret4, mrg_0_, stI2, stI3, ldI3, mrg_9_, ldR1, mrg_m1_, ldI2, mrg_17_, mrg_8_, mrg_1_, ldR0, wq_callV4_0, stI4, ldI4, mrg_10_, wqinc3, mPut_s, mPut_I0, mPut_R0, mPut_L0, mPut_I1, mPut_R1, mPut_L1, mGo_n, sfxX9_verdict_4, cutX9_verdict_4, sfxX9_verdict_20, cutX9_verdict_20, sfxX9_verdict_36, cutX9_verdict_36, sfxX9_verdict_37, cutX9_verdict_37, sfxX9_verdict_61, cutX9_verdict_61, sfxX9_verdict_67, cutX9_verdict_67, wq_cut, mGo_c, mMask_t, mMask_f, mMask_n, kX9_verdict_67, kX9_verdict_61, kX9_verdict_37, kX9_verdict_36, kX9_verdict_20, kX9_verdict_4, kX9_verdict_0, sk_130, al_130, ald_n, ro0_n, al_ro, SX9_verdict_0, shqRRII_, spX9_reasonAgainst, mrg, mrl, mSet_ap, ncast, Option.some.injEq, k1, k2, k3, k5, Option.getD_some, em]
          (try simp only [mrg, mrl] at *) <;> repeat' (first | (with_reducible assumption) | (with_reducible apply And.intro) | intro _)
          all_goals first | omega | exact hB _ (by omega) (by omega) | exact (hB _ (by omega) (by omega)).1 | exact (hB _ (by omega) (by omega)).2 | exact ⟨9 - (j + 1), by omega, j + 1, by rw [ls]; rfl, by omega, rfl, hgo () z (Or.inr (by omega))⟩ | exact q_I (hret () z z2 (by omega)) h | skip
        · rw [if_neg (fun w => z8 w.2)] at ls
          rw [ls] at rb hgo hret
          simp only [false_and, and_false, true_or, or_true, false_or, or_false, true_and, and_true, true_implies, false_implies, implies_true, not_true_eq_false, not_false_eq_true, and_self, List.length_cons, List.length_nil, mNoCut_, mCat_n, mCat_I, mCat_L, mCat_R, mIsL_n, mIsL_I, mIsL_R, mIsL_L, Nat.reduceAdd, Nat.reduceSub, Nat.reduceLeDiff, Nat.reduceLT, Nat.reduceEqDiff, Nat.zero_le, Int.reduceEq, Int.reduceLT, Int.reduceLE, Int.reduceNeg, Int.reduceAdd, if_true, if_false, reduceIte, reduceCtorEq, Bool.false_eq_true, ne_eq, qCmp_0, qCmp_1, qCmp_2, qCmp_3, qCmp_4, qCmp_5, ib_0, ib_1, ib_2, lb_0, lb_1, lb_2, dv_0, dv_1, wq_ic, wq_ld_i, wq_ld_a, wq_st_i, wq_iinc, wq_ib, wq_idv, wq_icmp, wq_if, wq_goto, wq_ald, wq_ret0, wq_ret1, wq_ret2, wq_ret3, wq_ret4, mrg_0_, stI2, stI3, ldI3, mrg_9_, ldR1, mrg_m1_, ldI2, mrg_17_, mrg_8_, mrg_1_, ldR0, wq_callV4_0, stI4, ldI4, mrg_10_, wqinc3, mPut_s, mPut_I0, mPut_R0, mPut_L0, mPut_I1, mPut_R1, mPut_L1, mGo_n, sfxX9_verdict_4, cutX9_verdict_4, sfxX9_verdict_20, cutX9_verdict_20, sfxX9_verdict_36, cutX9_verdict_36, sfxX9_verdict_37, cutX9_verdict_37, sfxX9_verdict_61, cutX9_verdict_61, sfxX9_verdict_67, cutX9_verdict_67, wq_cut, mGo_c, mMask_t, mMask_f, mMask_n, kX9_verdict_67, kX9_verdict_61, kX9_verdict_37, kX9_verdict_36, kX9_verdict_20, kX9_verdict_4, kX9_verdict_0, sk_130, al_130, ald_n, ro0_n, al_ro, SX9_verdict_0, shqRRII_, spX9_reasonAgainst, mrg, mrl, mSet_ap, ncast, Option.some.injEq, k1, k2, k3, k5, Option.getD_some, em]
          (try simp only [mrg, mrl] at *) <;> repeat' (first | (with_reducible assumption) | (with_reducible apply And.intro) | intro _)
          all_goals first | omega | exact hB _ (by omega) (by omega) | exact (hB _ (by omega) (by omega)).1 | exact (hB _ (by omega) (by omega)).2 | exact ⟨9 - (j + 1), by omega, j + 1, by rw [ls]; rfl, by omega, rfl, hgo () z (Or.inr (by omega))⟩ | exact q_I (hret () z z2 (by omega)) h | skip
    · have e9 : j = 9 := by omega
      subst e9
      simp only [false_and, and_false, true_or, or_true, false_or, or_false, true_and, and_true, true_implies, false_implies, implies_true, not_true_eq_false, not_false_eq_true, and_self, List.length_cons, List.length_nil, mNoCut_, mCat_n, mCat_I, mCat_L, mCat_R, mIsL_n, mIsL_I, mIsL_R, mIsL_L, Nat.reduceAdd, Nat.reduceSub, Nat.reduceLeDiff, Nat.reduceLT, Nat.reduceEqDiff, Nat.zero_le, Int.reduceEq, Int.reduceLT, Int.reduceLE, Int.reduceNeg, Int.reduceAdd, if_true, if_false, reduceIte, reduceCtorEq, Bool.false_eq_true, ne_eq, qCmp_0, qCmp_1, qCmp_2, qCmp_3, qCmp_4, qCmp_5, ib_0, ib_1, ib_2, lb_0, lb_1, lb_2, dv_0, dv_1, wq_ic, wq_ld_i, wq_ld_a, wq_st_i, wq_iinc, wq_ib, wq_idv, wq_icmp, wq_if, wq_goto, wq_ald, wq_ret0, wq_ret1, wq_ret2, wq_ret3, wq_ret4, mrg_0_, stI2, stI3, ldI3, mrg_9_, ldR1, mrg_m1_, ldI2, mrg_17_, mrg_8_, mrg_1_, ldR0, wq_callV4_0, stI4, ldI4, mrg_10_, wqinc3, mPut_s, mPut_I0, mPut_R0, mPut_L0, mPut_I1, mPut_R1, mPut_L1, mGo_n, sfxX9_verdict_4, cutX9_verdict_4, sfxX9_verdict_20, cutX9_verdict_20, sfxX9_verdict_36, cutX9_verdict_36, sfxX9_verdict_37, cutX9_verdict_37, sfxX9_verdict_61, cutX9_verdict_61, sfxX9_verdict_67, cutX9_verdict_67, wq_cut, mGo_c, mMask_t, mMask_f, mMask_n, kX9_verdict_67, kX9_verdict_61, kX9_verdict_37, kX9_verdict_36, kX9_verdict_20, kX9_verdict_4, kX9_verdict_0, sk_130, al_130, ald_n, ro0_n, al_ro, SX9_verdict_0, shqRRII_, spX9_reasonAgainst, mrg, mrl, mSet_ap, ncast, Option.some.injEq, k1, k2, k3, k5, Option.getD_some]
      (try simp only [mrg, mrl] at *) <;> repeat' (first | (with_reducible assumption) | (with_reducible apply And.intro) | intro _)
      all_goals first | omega | exact q_I hv h | skip
  · show mWp _ _ _ _ _ _ kX9_verdict_0 [some (mR (some 130)), some (mR (some a)), none, none, none] [] I
    simp only [false_and, and_false, true_or, or_true, false_or, or_false, true_and, and_true, true_implies, false_implies, implies_true, not_true_eq_false, not_false_eq_true, and_self, List.length_cons, List.length_nil, mNoCut_, mCat_n, mCat_I, mCat_L, mCat_R, mIsL_n, mIsL_I, mIsL_R, mIsL_L, Nat.reduceAdd, Nat.reduceSub, Nat.reduceLeDiff, Nat.reduceLT, Nat.reduceEqDiff, Nat.zero_le, Int.reduceEq, Int.reduceLT, Int.reduceLE, Int.reduceNeg, Int.reduceAdd, if_true, if_false, reduceIte, reduceCtorEq, Bool.false_eq_true, ne_eq, qCmp_0, qCmp_1, qCmp_2, qCmp_3, qCmp_4, qCmp_5, ib_0, ib_1, ib_2, lb_0, lb_1, lb_2, dv_0, dv_1, wq_ic, wq_ld_i, wq_ld_a, wq_st_i, wq_iinc, wq_ib, wq_idv, wq_icmp, wq_if, wq_goto, wq_ald, wq_ret0, wq_ret1, wq_ret2, wq_ret3, wq_ret4, mrg_0_, stI2, stI3, ldI3, mrg_9_, ldR1, mrg_m1_, ldI2, mrg_17_, mrg_8_, mrg_1_, ldR0, wq_callV4_0, stI4, ldI4, mrg_10_, wqinc3, mPut_s, mPut_I0, mPut_R0, mPut_L0, mPut_I1, mPut_R1, mPut_L1, mGo_n, sfxX9_verdict_4, cutX9_verdict_4, sfxX9_verdict_20, cutX9_verdict_20, sfxX9_verdict_36, cutX9_verdict_36, sfxX9_verdict_37, cutX9_verdict_37, sfxX9_verdict_61, cutX9_verdict_61, sfxX9_verdict_67, cutX9_verdict_67, wq_cut, mGo_c, mMask_t, mMask_f, mMask_n, kX9_verdict_67, kX9_verdict_61, kX9_verdict_37, kX9_verdict_36, kX9_verdict_20, kX9_verdict_4, kX9_verdict_0, sk_130, al_130, ald_n, ro0_n, al_ro, SX9_verdict_0, shqRRII_, spX9_reasonAgainst, mrg, mrl, mSet_ap, ncast, Option.some.injEq]
    exact ⟨9, 0, rfl, by omega, rfl, rfl⟩
theorem ctrX9_verdict {l : Launch} (hst : l.stackTraces = false) (hT : mTxM l) : mCtr l calX9_verdict spX9_verdict :=
  mMet (T := TX9_verdict) (S := SX9_verdict) hst hT cutX9_verdict (by decide) okX9_verdict ⟨_, _, rfl, rfl⟩ trivial (fun t bs h => by rcases cutsX9_verdict h with ⟨-, rfl⟩ <;> rfl) (fun a => match a with
    | 0 => ctrX9_reasonAgainst hst hT
    | _ + 1 => mCtr_no) vcX9_verdict

end SPC3
