section SPM13
theorem set_ne {I : mM} {a i : Nat} {p v : Int} (h : i ≠ a) : mSet I a p v i = I i := by
  funext q
  simp only [mSet]
  exact if_neg (fun z => h z.1)
theorem set_eq {I : mM} {a : Nat} {p v : Int} : mSet I a p v a p = v := if_pos ⟨rfl, rfl⟩
theorem set_nq {I : mM} {a i : Nat} {p v q : Int} (h : q ≠ p) : mSet I a p v i q = I i q := if_neg (fun z => h z.2)
def updS (st : Int → Int) (f c : Int) : Int → Int := fun g => if g = f then c else st g
/-- the reference's row with other STANDS -/
def stR (t st : Int → Int) : Int → Int := fun q => if 550 ≤ q ∧ q < 595 ∧ (q - 550) % 5 = 0 then st ((q - 550) / 5) else t q
theorem stR_out (t s : Int → Int) {q : Int} (h : q < 550 ∨ 595 ≤ q) : stR t s q = t q := if_neg (by omega)
theorem stR_of (t s : Int → Int) {f w : Int} (h : 1 ≤ w ∧ w ≤ 4) : stR t s (550 + 5 * f + w) = t (550 + 5 * f + w) := if_neg (by omega)
theorem stT_stR (t s : Int → Int) {f : Int} (hf : 0 ≤ f ∧ f < 9) : stT (stR t s) f = s f := by
  unfold stT stR
  rw [if_pos ⟨by omega, by omega, by omega⟩]
  congr 1
  omega
theorem putT_stR (t s : Int → Int) {f : Int} (c : Int) (hf : 0 ≤ f ∧ f < 9) : putT (stR t s) f c = stR t (updS s f c) := by
  funext q
  simp only [putT, stR, updS]
  by_cases h : q = 550 + 5 * f
  · rw [if_pos h, if_pos ⟨by omega, by omega, by omega⟩, if_pos (by omega)]
  · rw [if_neg h]
    by_cases h2 : 550 ≤ q ∧ q < 595 ∧ (q - 550) % 5 = 0
    · rw [if_pos h2, if_pos h2, if_neg (by omega)]
    · rw [if_neg h2, if_neg h2]
theorem stR_self (t : Int → Int) : stR t (stT t) = t := by
  funext q
  unfold stR stT
  split
  · congr 1
    omega
  · rfl
theorem stR_stR (t s s' : Int → Int) : stR (stR t s) s' = stR t s' := by
  funext q
  simp only [stR]
  split <;> rfl
theorem stR_cong (t : Int → Int) {s s' : Int → Int} (h : ∀ f, 0 ≤ f → f < 9 → s f = s' f) : stR t s = stR t s' := by
  funext q
  simp only [stR]
  split
  · exact h _ (by omega) (by omega)
  · rfl
theorem put_as (t : Int → Int) {f : Int} (c : Int) (hf : 0 ≤ f ∧ f < 9) : putT t f c = stR t (updS (stT t) f c) := by
  have h := putT_stR t (stT t) c hf
  rw [stR_self] at h
  exact h
theorem WFt.sts {t : Int → Int} (H : WFt t) {s : Int → Int} (hs : ∀ f, 0 ≤ f → f < 9 → -1 ≤ s f ∧ s f ≤ 288) : WFt (stR t s) := by
  obtain ⟨h1, h2, h3, h4, h5, h6, h7⟩ := H
  have ne : ∀ q, (q < 550 ∨ 595 ≤ q) → stR t s q = t q := fun q hq => stR_out t s hq
  refine ⟨?_, fun b b0 b1 => ?_, fun k k0 k1 => ?_, fun k k0 k1 => ?_, fun b h b0 b1 i0 i1 => ?_, fun g g0 g1 => ?_, fun i i0 i1 => ⟨?_, fun g g0 g1 => ?_⟩⟩
  · rw [ne 0 (by omega), ne 1 (by omega), ne 2 (by omega), ne 3 (by omega), ne 4 (by omega), ne 5 (by omega), ne 6 (by omega), ne 7 (by omega), ne 8 (by omega)]
    exact h1
  · rw [ne _ (by omega)]
    exact h2 b b0 b1
  · rw [ne _ (by omega)]
    exact h3 k k0 k1
  · rw [ne _ (by omega), ne _ (by omega), ne _ (by omega), ne _ (by omega), ne _ (by omega)]
    exact h4 k k0 k1
  · rw [ne (13 + b) (by omega)] at i1
    have := h2 b b0 b1
    rw [ne _ (by omega)]
    exact h5 b h b0 b1 i0 i1
  · have h := h6 g g0 g1
    rw [show stR t s (551 + 5 * g) = t (551 + 5 * g) from if_neg (by omega), show stR t s (552 + 5 * g) = t (552 + 5 * g) from if_neg (by omega), show stR t s (553 + 5 * g) = t (553 + 5 * g) from if_neg (by omega), show stR t s (554 + 5 * g) = t (554 + 5 * g) from if_neg (by omega)]
    refine ⟨?_, h.2⟩
    have e := stT_stR t s (f := g) ⟨g0, g1⟩
    unfold stT at e
    rw [e]
    exact hs g g0 g1
  · rw [ne _ (by omega)]
    exact (h7 i i0 i1).1
  · rw [ne _ (by omega)]
    exact (h7 i i0 i1).2 g g0 g1
theorem WFt.st {t : Int → Int} (H : WFt t) : ∀ f, 0 ≤ f → f < 9 → -1 ≤ stT t f ∧ stT t f ≤ 288 := fun f h1 h2 => (H.fld ⟨h1, h2⟩).1
def rowM (I : mM) (t : Int → Int) : mM := fun k q => if k = 201 then t q else I k q
theorem rowM_201 (I : mM) (t : Int → Int) : rowM I t 201 = t := by
  funext q
  simp only [rowM]
  rfl
theorem rowM_ne (I : mM) (t : Int → Int) {k : Nat} (h : k ≠ 201) : rowM I t k = I k := by
  funext q
  simp only [rowM]
  exact if_neg h
theorem rowM_self (I : mM) : rowM I (I 201) = I := by
  funext k q
  simp only [rowM]
  split
  · rename_i h
    rw [h]
  · rfl
theorem rowM_put (I : mM) (t : Int → Int) (f c : Int) : mSet (rowM I t) 201 (550 + 5 * f) c = rowM I (putT t f c) := by
  funext k q
  simp only [mSet, rowM, putT]
  by_cases h : k = 201
  · simp [h]
  · simp [h]
/-- a row, and the number behind oneOf -/
def wM (J : mM) (t : Int → Int) (w : Int) : mM := mSet (rowM J t) 200 18 w
theorem wM_201 (J : mM) (t : Int → Int) (w : Int) : wM J t w 201 = t := by
  unfold wM
  rw [set_201, rowM_201]
theorem wM_18 (J : mM) (t : Int → Int) (w : Int) : wM J t w 200 18 = w := set_eq
theorem wM_set (J : mM) (t : Int → Int) (w w' : Int) : mSet (wM J t w) 200 18 w' = wM J t w' := set_over1 _ _ _ _ _
theorem wM_put (J : mM) (t : Int → Int) (w f c : Int) : mSet (wM J t w) 201 (550 + 5 * f) c = wM J (putT t f c) w := by
  unfold wM
  rw [← rowM_put]
  funext k q
  simp only [mSet]
  repeat' split
  all_goals first | rfl | omega
theorem wM_self (J : mM) : wM J (J 201) (J 200 18) = J := by
  unfold wM
  rw [rowM_self]
  exact set_self J 200 18
theorem oneGo_w (t : Int → Int) (f b w w' : Int) : ∀ n : Nat, (oneGo t f b w n).1 = (oneGo t f b w' n).1 ∧ ((oneGo t f b w n).1 ≠ -1 → (oneGo t f b w n).2 = (oneGo t f b w' n).2)
  | 0 => ⟨rfl, fun h => absurd rfl h⟩
  | n + 1 => by
    obtain ⟨h1, h2⟩ := oneGo_w t f b w w' n
    simp only [oneGo]
    rw [← h1]
    by_cases hj : judgeT (putT t f n) = -1
    · by_cases h : (oneGo t f b w n).1 = -1
      · rw [if_pos ⟨hj, Or.inl h⟩, if_pos ⟨hj, Or.inl h⟩]
        exact ⟨rfl, fun _ => rfl⟩
      · rw [← h2 h]
        split
        · exact ⟨rfl, fun _ => rfl⟩
        · exact ⟨h1, h2⟩
    · rw [if_neg (fun q => hj q.1), if_neg (fun q => hj q.1)]
      exact ⟨h1, h2⟩
theorem oneT_w (t : Int → Int) (f b w w' : Int) : (oneT t f b w).1 = (oneT t f b w').1 ∧ ((oneT t f b w).1 ≠ -1 → (oneT t f b w).2 = (oneT t f b w').2) := by
  unfold oneT
  split
  · exact ⟨rfl, fun h => absurd rfl h⟩
  · exact oneGo_w t f b w w' 289
theorem oneT_bd (t : Int → Int) (f b w : Int) : -1 ≤ (oneT t f b w).1 ∧ (oneT t f b w).1 < 289 := by
  unfold oneT
  split
  · exact ⟨by simp, by simp⟩
  · exact oneGo_bd t f b w 289
theorem oneT_mean {t : Int → Int} (H : WFt t) {f b : Int} (w : Int) (hf : 0 ≤ f ∧ f < 9) (hb : 0 ≤ b ∧ b < 6) (h : (oneT t f b w).1 ≠ -1) : -1568160000 ≤ (oneT t f b w).2 ∧ (oneT t f b w).2 ≤ 1568160000 := by
  unfold oneT at h ⊢
  split
  · rename_i z
    rw [if_pos z] at h
    exact absurd rfl h
  · rename_i z
    rw [if_neg z] at h
    obtain ⟨k, k1, k2, k3, k4⟩ := oneGo_mean t f b w 289 h
    rw [k3]
    exact meanT_bd (H.put hf (c := k) ⟨by omega, by omega⟩) hb
def setGo (b most : Int) : Nat → (Int → Int) → Int → Int → Int → (Int → Int) × Int
  | 0, t, m, _, _ => (t, m)
  | n + 1, t, m, s, f => if m < most ∧ s < 9 then
      (if stT t f = -1 ∨ (oneT t f b 0).1 = -1 ∨ meanT t b ≤ (oneT t f b 0).2 then setGo b most n t m (s + 1) ((f + 1) % 9)
       else setGo b most n (putT t f (oneT t f b 0).1) (m + 1) 0 ((f + 1) % 9))
    else (t, m)
def settleT (t : Int → Int) (b most : Int) : (Int → Int) × Int := setGo b most (10 * most.toNat + 9) t 0 0 0
theorem setGo_x (b most : Int) {n : Nat} {t : Int → Int} {m s f : Int} (h : ¬ (m < most ∧ s < 9)) : setGo b most n t m s f = (t, m) := by
  cases n with
  | zero => rfl
  | succ n =>
    simp only [setGo]
    exact if_neg h
def spX11_settle : mSp := shRII (fun _ i b m I Q => i = some 200 ∧ WFt (I 201) ∧ mrg b ∧ mrg m ∧ (¬ ballP b → Q (.inl (some (mI 0))) (mSet I 200 3 1)) ∧ (ballP b → ¬ (0 ≤ m ∧ m ≤ 50) → Q (.inl (some (mI 0))) (mSet I 200 3 2)) ∧ (ballP b → (0 ≤ m ∧ m ≤ 50) → ∀ w, Q (.inl (some (mI (settleT (I 201) b m).2))) (wM (mSet I 200 3 0) (settleT (I 201) b m).1 w)))
def SX11_settle : Nat → mSp := fun a => match a with
  | 0 => spX11_isBall
  | 1 => spX11_fails
  | 2 => spX11_within
  | 3 => spX11_standOf
  | 4 => spX11_oneOf
  | 5 => spX11_meanOf
  | 6 => spX11_puts
  | _ => fun _ _ _ _ => False
theorem SX11_settle_0 : SX11_settle 0 = spX11_isBall := Eq.trans rfl rfl
theorem SX11_settle_1 : SX11_settle 1 = spX11_fails := Eq.trans rfl rfl
theorem SX11_settle_2 : SX11_settle 2 = spX11_within := Eq.trans rfl rfl
theorem SX11_settle_3 : SX11_settle 3 = spX11_standOf := Eq.trans rfl rfl
theorem SX11_settle_4 : SX11_settle 4 = spX11_oneOf := Eq.trans rfl rfl
theorem SX11_settle_5 : SX11_settle 5 = spX11_meanOf := Eq.trans rfl rfl
theorem SX11_settle_6 : SX11_settle 6 = spX11_puts := Eq.trans rfl rfl
theorem cutsX11_settle {t : Nat} {bs : List Bool} (h : cutX11_settle t = some bs) : (t = 44 ∧ bs = [true, true, true, true, true, true, false]) := by
  unfold cutX11_settle at h
  simp only [mLk] at h
  by_cases h0 : 44 = t
  · subst h0
    simp at h
    exact ⟨rfl, h.symm⟩
  rw [if_neg h0] at h
  cases h
set_option maxRecDepth 100000 in
set_option maxHeartbeats 4000000 in
theorem vcX11_settle (fl : Nat → Bool) (avs : List mV) (I : mM) (Q : mO → mM → Prop) (hsp : spX11_settle fl avs I Q) : mVC SX11_settle fl Q kX11_settle cutX11_settle 7 avs I := by
  obtain ⟨i, b, most, rfl, h0⟩ := shRII_inv hsp
  obtain ⟨rfl, H, hb, hm, h1, h2, h3⟩ := h0
  refine ⟨rfl, (fun n t lv st I1 => st = [] ∧ ∃ (t : Int → Int) (w m s f : Int), lv = [some (mR (some 200)), some (mI b), some (mI most), some (mI m), some (mI s), some (mI f), none] ∧ I1 = wM (mSet I 200 3 0) t w ∧ WFt t ∧ (ballP b ∧ 0 ≤ most ∧ most ≤ 50 ∧ 0 ≤ m ∧ m ≤ most ∧ 0 ≤ s ∧ s ≤ 9 ∧ 0 ≤ f ∧ f < 9) ∧ (10 * (most - m) + 9 - s ≤ n) ∧ settleT (I 201) b most = setGo b most n t m s f), ?_, ?_⟩
  · intro n t bs hbs lv st I1 hc
    rcases cutsX11_settle hbs with ⟨rfl, rfl⟩
    rw [sfxX11_settle_44]
    obtain ⟨rfl, t, w, m, s, f, rfl, rfl, Ht, ⟨kb, k1, k2, k3, k4, k5, k6, k7, k8⟩, hn, he⟩ := hc
    have hmod : (f + 1).tmod 9 = (f + 1) % 9 := Int.tmod_eq_emod_of_nonneg (by omega)
    have ft := Ht.fld (f := f) ⟨k7, k8⟩
    have ob := oneT_bd t f b w
    have om := oneT_mean Ht (f := f) w ⟨k7, k8⟩ kb
    have mb := meanT_bd Ht kb
    have ow := oneT_w t f b w 0
    have hs : ∀ n', n = n' + 1 → m < most → s < 9 → setGo b most n t m s f = (if stT t f = -1 ∨ (oneT t f b w).1 = -1 ∨ meanT t b ≤ (oneT t f b w).2 then setGo b most n' t m (s + 1) ((f + 1) % 9) else setGo b most n' (putT t f (oneT t f b w).1) (m + 1) 0 ((f + 1) % 9)) := fun n' e z1 z2 => by
      subst e
      simp only [setGo]
      rw [if_pos ⟨z1, z2⟩, ← ow.1]
      by_cases q : (oneT t f b w).1 = -1
      · rw [if_pos (Or.inr (Or.inl q)), if_pos (Or.inr (Or.inl q))]
      · rw [← ow.2 q]
    simp only [false_and, and_false, true_or, or_true, false_or, or_false, true_and, and_true, true_implies, false_implies, implies_true, not_true_eq_false, not_false_eq_true, and_self, List.length_cons, List.length_nil, mNoCut_, mCat_n, mCat_I, mCat_L, mCat_R, mIsL_n, mIsL_I, mIsL_R, mIsL_L, Nat.reduceAdd, Nat.reduceSub, Nat.reduceLeDiff, Nat.reduceLT, Nat.reduceEqDiff, Nat.zero_le, Int.reduceEq, Int.reduceLT, Int.reduceLE, Int.reduceNeg, Int.reduceAdd, if_true, if_false, reduceIte, reduceCtorEq, Bool.false_eq_true, ne_eq, qCmp_0, qCmp_1, qCmp_2, qCmp_3, qCmp_4, qCmp_5, ib_0, ib_1, ib_2, lb_0, lb_1, lb_2, dv_0, dv_1, wq_ic, wq_lc, wq_ld_i, wq_ld_a, wq_st_i, wq_iinc, wq_ib, wq_i2l, wq_idv, wq_icmp, wq_if, wq_lcmp, wq_goto, wq_get, mGet_0, mGet_1, mGet_2, mGet_3, wq_putI, wq_putL, wq_ret0, wq_ret1, wq_ret2, wq_ret3, wq_ret4, ldR0, mrg_0_, fk_11_3, ldI1, wq_callS1_1, mrg_1_, wq_callV2_0, ldI2, wq_callS3_1, mrg_2_, stI3, stI4, stI5, ldI3, ldI4, mrg_9_, wqinc4, ldI5, mrg_m1_, wq_callV3_0, stI6, ldI6, fk_11_18, wqinc3, mPut_s, mPut_I0, mPut_R0, mPut_L0, mPut_I1, mPut_R1, mPut_L1, mGo_n, sfxX11_settle_18, cutX11_settle_18, sfxX11_settle_36, cutX11_settle_36, sfxX11_settle_44, cutX11_settle_44, sfxX11_settle_72, cutX11_settle_72, sfxX11_settle_103, cutX11_settle_103, sfxX11_settle_117, cutX11_settle_117, sfxX11_settle_129, cutX11_settle_129, wq_cut, mGo_c, mMask_t, mMask_f, mMask_n, kX11_settle_129, kX11_settle_117, kX11_settle_103, kX11_settle_72, kX11_settle_44, kX11_settle_36, kX11_settle_18, kX11_settle_0, sk_200, al_200, SX11_settle_0, SX11_settle_1, SX11_settle_2, SX11_settle_3, SX11_settle_4, SX11_settle_5, SX11_settle_6, shqI_, shqRI_, shqLLL_, shqRII_, spX11_isBall, spX11_fails, spX11_within, spX11_standOf, spX11_oneOf, spX11_meanOf, spX11_puts, mrg, mrl, mSet_ap, ncast, Option.some.injEq, wM_201, wM_18, wM_set, wM_put, hmod]
    (try simp only [mrg, mrl] at *) <;> repeat' (first | (with_reducible assumption) | (with_reducible apply And.intro) | intro _)
    all_goals first | omega | (have e2 := h3 kb ⟨k1, k2⟩ w; rw [he, setGo_x b most (by omega)] at e2; exact e2) | exact ⟨n - 1, by omega, t, _, m, s + 1, _, rfl, rfl, Ht, ⟨kb, by omega⟩, by omega, by rw [he, hs (n - 1) (by omega) (by omega) (by omega), if_pos (by omega)]⟩ | exact ⟨n - 1, by omega, _, _, m + 1, 0, _, rfl, rfl, Ht.put ⟨k7, k8⟩ ⟨by omega, by omega⟩, ⟨kb, by omega⟩, by omega, by rw [he, hs (n - 1) (by omega) (by omega) (by omega), if_neg (by omega)]⟩ | skip
  · show mWp _ _ _ _ _ _ kX11_settle_0 [some (mR (some 200)), some (mI b), some (mI most), none, none, none, none] [] I
    simp only [false_and, and_false, true_or, or_true, false_or, or_false, true_and, and_true, true_implies, false_implies, implies_true, not_true_eq_false, not_false_eq_true, and_self, List.length_cons, List.length_nil, mNoCut_, mCat_n, mCat_I, mCat_L, mCat_R, mIsL_n, mIsL_I, mIsL_R, mIsL_L, Nat.reduceAdd, Nat.reduceSub, Nat.reduceLeDiff, Nat.reduceLT, Nat.reduceEqDiff, Nat.zero_le, Int.reduceEq, Int.reduceLT, Int.reduceLE, Int.reduceNeg, Int.reduceAdd, if_true, if_false, reduceIte, reduceCtorEq, Bool.false_eq_true, ne_eq, qCmp_0, qCmp_1, qCmp_2, qCmp_3, qCmp_4, qCmp_5, ib_0, ib_1, ib_2, lb_0, lb_1, lb_2, dv_0, dv_1, wq_ic, wq_lc, wq_ld_i, wq_ld_a, wq_st_i, wq_iinc, wq_ib, wq_i2l, wq_idv, wq_icmp, wq_if, wq_lcmp, wq_goto, wq_get, mGet_0, mGet_1, mGet_2, mGet_3, wq_putI, wq_putL, wq_ret0, wq_ret1, wq_ret2, wq_ret3, wq_ret4, ldR0, mrg_0_, fk_11_3, ldI1, wq_callS1_1, mrg_1_, wq_callV2_0, ldI2, wq_callS3_1, mrg_2_, stI3, stI4, stI5, ldI3, ldI4, mrg_9_, wqinc4, ldI5, mrg_m1_, wq_callV3_0, stI6, ldI6, fk_11_18, wqinc3, mPut_s, mPut_I0, mPut_R0, mPut_L0, mPut_I1, mPut_R1, mPut_L1, mGo_n, sfxX11_settle_18, cutX11_settle_18, sfxX11_settle_36, cutX11_settle_36, sfxX11_settle_44, cutX11_settle_44, sfxX11_settle_72, cutX11_settle_72, sfxX11_settle_103, cutX11_settle_103, sfxX11_settle_117, cutX11_settle_117, sfxX11_settle_129, cutX11_settle_129, wq_cut, mGo_c, mMask_t, mMask_f, mMask_n, kX11_settle_129, kX11_settle_117, kX11_settle_103, kX11_settle_72, kX11_settle_44, kX11_settle_36, kX11_settle_18, kX11_settle_0, sk_200, al_200, SX11_settle_0, SX11_settle_1, SX11_settle_2, SX11_settle_3, SX11_settle_4, SX11_settle_5, SX11_settle_6, shqI_, shqRI_, shqLLL_, shqRII_, spX11_isBall, spX11_fails, spX11_within, spX11_standOf, spX11_oneOf, spX11_meanOf, spX11_puts, mrg, mrl, mSet_ap, ncast, Option.some.injEq, set_201, set_over1]
    (try simp only [mrg, mrl] at *) <;> repeat' (first | (with_reducible assumption) | (with_reducible apply And.intro) | intro _)
    all_goals first | omega | exact h1 (by omega) | exact h2 (by omega) (by omega) | exact ⟨10 * most.toNat + 9, I 201, I 200 18, 0, 0, 0, rfl, by (have e := wM_self (mSet I 200 3 0); rw [set_201] at e; exact e.symm), H, ⟨by omega, by omega⟩, by omega, rfl⟩ | skip
theorem ctrX11_settle {l : Launch} (hst : l.stackTraces = false) (hT : mTxM l) : mCtr l calX11_settle spX11_settle :=
  mMet (T := TX11_settle) (S := SX11_settle) hst hT cutX11_settle (by decide) okX11_settle ⟨_, _, rfl, rfl⟩ trivial (fun t bs h => by rcases cutsX11_settle h with ⟨-, rfl⟩ <;> rfl) (fun a => match a with
    | 0 => ctrX11_isBall hst hT
    | 1 => ctrX11_fails hst hT
    | 2 => ctrX11_within hst hT
    | 3 => ctrX11_standOf hst hT
    | 4 => ctrX11_oneOf hst hT
    | 5 => ctrX11_meanOf hst hT
    | 6 => ctrX11_puts hst hT
    | _ + 7 => mCtr_no) vcX11_settle

end SPM13
