section SPC30
def stillT (t : Int → Int) (b f : Int) : Prop := stT t f = -1 ∨ (oneT t f b 0).1 = -1 ∨ meanT t b ≤ (oneT t f b 0).2
theorem setGo_s (b most : Int) {n : Nat} {t : Int → Int} {m s f : Int} (h : m < most) (h2 : s < 9) (h3 : stillT t b f) : setGo b most (n + 1) t m s f = setGo b most n t m (s + 1) ((f + 1) % 9) := by
  simp only [setGo]
  rw [if_pos ⟨h, h2⟩]
  exact if_pos h3
theorem setGo_m (b most : Int) {n : Nat} {t : Int → Int} {m s f : Int} (h : m < most) (h2 : s < 9) (h3 : ¬ stillT t b f) : setGo b most (n + 1) t m s f = setGo b most n (putT t f (oneT t f b 0).1) (m + 1) 0 ((f + 1) % 9) := by
  simp only [setGo]
  rw [if_pos ⟨h, h2⟩]
  exact if_neg h3
/-- how the class's rounds stand beside the reference's -/
def stInv (b most : Int) (T : (Int → Int) × Int) (t : Int → Int) (mo q tu s : Int) (n : Nat) : Prop := (0 ≤ most ∧ most ≤ 50) ∧ (0 ≤ tu ∧ tu ≤ (most + 1) * 9) ∧ (0 ≤ mo ∧ mo ≤ most) ∧ (0 ≤ q ∧ q ≤ 8) ∧ (0 ≤ s ∧ s ≤ 9) ∧ ((tu % 9 = 0 ∧ tu / 9 ≤ mo) ∨ (0 < tu % 9 ∧ q < tu % 9 ∧ tu / 9 + 1 ≤ mo) ∨ (0 < tu % 9 ∧ q = tu % 9 ∧ tu % 9 ≤ s ∧ tu / 9 ≤ mo)) ∧ (∀ i : Int, 1 ≤ i → i ≤ s → stillT t b ((tu - i) % 9)) ∧ (s < 9 → T = setGo b most n t mo s (tu % 9) ∧ 10 * (most - mo) + 9 - s ≤ n) ∧ (s = 9 → T = (t, mo))
theorem stInv_0 {b most : Int} {t : Int → Int} (h : 0 ≤ most ∧ most ≤ 50) : stInv b most (settleT t b most) t 0 0 0 0 (10 * most.toNat + 9) :=
  ⟨h, by omega, by omega, by omega, by omega, Or.inl (by omega), fun i i0 i1 => by omega, fun _ => ⟨rfl, by omega⟩, fun w => absurd w (by decide)⟩
theorem stInv_end {b most : Int} {T : (Int → Int) × Int} {t : Int → Int} {mo q tu s : Int} {n : Nat} (h : stInv b most T t mo q tu s n) (z : most ≤ mo ∨ (most + 1) * 9 ≤ tu) : T = (t, mo) := by
  obtain ⟨h1, h2, h3, h4, h5, h6, -, h8, h9⟩ := h
  have hm : most ≤ mo := by omega
  by_cases e : s = 9
  · exact h9 e
  · rw [(h8 (by omega)).1]
    exact setGo_x b most (by omega)
theorem stInv_still {b most : Int} {T : (Int → Int) × Int} {t : Int → Int} {mo q tu s : Int} {n : Nat} (h : stInv b most T t mo q tu s n) (z1 : mo < most) (z2 : tu < (most + 1) * 9) (z3 : stillT t b (tu % 9)) (q' : Int) (hq : (tu % 9 = 0 ∧ q' = 1) ∨ (tu % 9 ≠ 0 ∧ q' = q + 1)) : (q' = 9 ∧ T = (t, mo)) ∨ (q' ≠ 9 ∧ ∃ (s' : Int) (n' : Nat), stInv b most T t mo q' (tu + 1) s' n') := by
  obtain ⟨h1, h2, h3, h4, h5, h6, h7, h8, h9⟩ := h
  have h7' : ∀ s' : Int, s' ≤ s + 1 → ∀ i : Int, 1 ≤ i → i ≤ s' → stillT t b ((tu + 1 - i) % 9) := fun s' hs i i0 i1 => by
    by_cases e : i = 1
    · rw [e, show tu + 1 - 1 = tu by omega]
      exact z3
    · rw [show tu + 1 - i = tu - (i - 1) by omega]
      exact h7 (i - 1) (by omega) (by omega)
  have hf : (tu % 9 + 1) % 9 = (tu + 1) % 9 := by omega
  have key : ∃ (s' : Int) (n' : Nat), s' ≤ s + 1 ∧ ((s' = s + 1 ∧ s ≠ 9) ∨ (s = 9 ∧ s' = 9)) ∧ (s' < 9 → T = setGo b most n' t mo s' ((tu + 1) % 9) ∧ 10 * (most - mo) + 9 - s' ≤ n') ∧ (s' = 9 → T = (t, mo)) := by
    by_cases e : s = 9
    · exact ⟨9, n, by omega, Or.inr ⟨e, rfl⟩, fun w => absurd w (by decide), fun _ => h9 e⟩
    · obtain ⟨k1, k2⟩ := h8 (by omega)
      obtain ⟨n', rfl⟩ : ∃ n', n = n' + 1 := ⟨n - 1, by omega⟩
      rw [setGo_s b most z1 (by omega) z3, hf] at k1
      exact ⟨s + 1, n', by omega, Or.inl ⟨rfl, e⟩, fun _ => ⟨k1, by omega⟩, fun w => by rw [k1]; exact setGo_x b most (by omega)⟩
  obtain ⟨s', n', hs, hs2, k1, k2⟩ := key
  by_cases e : q' = 9
  · exact Or.inl ⟨e, k2 (by omega)⟩
  · exact Or.inr ⟨e, s', n', h1, by omega, h3, by omega, by omega, by omega, h7' s' hs, k1, k2⟩
theorem stInv_move {b most : Int} {T : (Int → Int) × Int} {t : Int → Int} {mo q tu s : Int} {n : Nat} (h : stInv b most T t mo q tu s n) (z1 : mo < most) (z2 : tu < (most + 1) * 9) (z3 : ¬ stillT t b (tu % 9)) (q' : Int) (hq : (tu % 9 = 0 ∧ q' = 0) ∨ (tu % 9 ≠ 0 ∧ q' = q)) : ∃ (s' : Int) (n' : Nat), stInv b most T (putT t (tu % 9) (oneT t (tu % 9) b 0).1) (mo + 1) q' (tu + 1) s' n' := by
  obtain ⟨h1, h2, h3, h4, h5, h6, h7, h8, h9⟩ := h
  have e : s ≠ 9 := fun e => z3 (by
    have := h7 9 (by omega) (by omega)
    rw [show (tu - 9) % 9 = tu % 9 by omega] at this
    exact this)
  obtain ⟨k1, k2⟩ := h8 (by omega)
  obtain ⟨n', rfl⟩ : ∃ n', n = n' + 1 := ⟨n - 1, by omega⟩
  rw [setGo_m b most z1 (by omega) z3, show (tu % 9 + 1) % 9 = (tu + 1) % 9 by omega] at k1
  exact ⟨0, n', h1, by omega, by omega, by omega, by omega, by omega, fun i i0 i1 => by omega, fun _ => ⟨k1, by omega⟩, fun w => absurd w (by decide)⟩
theorem agr_put {t t' : Int → Int} (A : agr t t') (f c : Int) (hf : 0 ≤ f ∧ f < 9) : agr t (putT t' f c) := fun q q1 q2 => by
  unfold putT
  rw [if_neg (by omega)]
  exact A q q1 q2
def spX10_settle : mSp := shRII (fun _ i b m I Q => i = some 0 ∧ clsI I ∧ mrg b ∧ mrg m ∧ (¬ ballP b → Q (.inr (mEx 0)) I) ∧ (ballP b → ¬ (0 ≤ m ∧ m ≤ 50) → Q (.inr (mEx 1)) I) ∧ (ballP b → (0 ≤ m ∧ m ≤ 50) → ∀ I' : mM, (∀ i, i ≠ 20 → ¬ ((3 ≤ i ∧ i ≤ 7) ∨ (120 ≤ i ∧ i ≤ 163)) → I' i = I i) → (∀ g : Int, 0 ≤ g → g < 9 → I' 20 g = stT (settleT (I 201) b m).1 g) → Q (.inl (some (mI (settleT (I 201) b m).2))) I'))
def SX10_settle : Nat → mSp := fun a => match a with
  | 0 => spX10_needBall
  | 1 => spX10_needNumber
  | 2 => spX10_lay
  | 3 => spX2_bestCell
  | 4 => spX9_meanTop
  | _ => fun _ _ _ _ => False
theorem SX10_settle_0 : SX10_settle 0 = spX10_needBall := Eq.trans rfl rfl
theorem SX10_settle_1 : SX10_settle 1 = spX10_needNumber := Eq.trans rfl rfl
theorem SX10_settle_2 : SX10_settle 2 = spX10_lay := Eq.trans rfl rfl
theorem SX10_settle_3 : SX10_settle 3 = spX2_bestCell := Eq.trans rfl rfl
theorem SX10_settle_4 : SX10_settle 4 = spX9_meanTop := Eq.trans rfl rfl
theorem cutsX10_settle {t : Nat} {bs : List Bool} (h : cutX10_settle t = some bs) : (t = 24 ∧ bs = [true, false, true, true, true, true, false, false]) := by
  unfold cutX10_settle at h
  simp only [mLk] at h
  by_cases h0 : 24 = t
  · subst h0
    simp at h
    exact ⟨rfl, h.symm⟩
  rw [if_neg h0] at h
  cases h
set_option maxRecDepth 100000 in
set_option maxHeartbeats 1000000 in
theorem vcX10_settle (fl : Nat → Bool) (avs : List mV) (I : mM) (Q : mO → mM → Prop) (hsp : spX10_settle fl avs I Q) : mVC SX10_settle fl Q kX10_settle cutX10_settle 8 avs I := by
  obtain ⟨i, b, most, rfl, h0⟩ := shRII_inv hsp
  obtain ⟨rfl, H, rb, rm, h1, h2, h3⟩ := h0
  refine ⟨rfl, (fun m pc lv st I1 => st = [] ∧ ballP b ∧ ∃ (t : Int → Int) (mo q tu s : Int) (n : Nat), lv = [some (mR (some 0)), none, some (mI most), some (mI mo), some (mI q), some (mI tu), none, none] ∧ m = ((most + 1) * 9 - tu).toNat ∧ stInv b most (settleT (I 201) b most) t mo q tu s n ∧ WFt t ∧ agr (I 201) t ∧ ctxU I1 t b ∧ (∀ g : Int, 0 ≤ g → g < 9 → I1 20 g = stT t g) ∧ (∀ i, i ≠ 20 → ¬ ((3 ≤ i ∧ i ≤ 7) ∨ (120 ≤ i ∧ i ≤ 163)) → I1 i = I i)), ?_, ?_⟩
  · intro n t bs hbs lv st I1 hc
    rcases cutsX10_settle hbs with ⟨rfl, rfl⟩
    rw [sfxX10_settle_24]
    obtain ⟨rfl, kb, t, mo, q, tu, s, n', rfl, hm, hS, Ht, A, HC, h20, hF⟩ := hc
    have S1 := hS.1
    have S2 := hS.2.1
    have S3 := hS.2.2.1
    have S4 := hS.2.2.2.1
    have hend : ∀ I2 : mM, (∀ i, ¬ (i = 130 ∨ (140 ≤ i ∧ i ≤ 149)) → I2 i = I1 i) → settleT (I 201) b most = (t, mo) → Q (.inl (some (mI mo))) I2 := fun I2 f2 e => by
      have h := h3 kb S1 I2 (fun i i0 i1 => (f2 i (by omega)).trans (hF i i0 i1)) (fun g g0 g1 => by rw [e, f2 20 (by decide)]; exact h20 g g0 g1)
      rw [e] at h
      exact h
    clear h1 h2 h3
    have hmod : tu.tmod 9 = tu % 9 := Int.tmod_eq_emod_of_nonneg (by omega)
    obtain ⟨f, hf⟩ : ∃ f, f = tu % 9 := ⟨_, rfl⟩
    have f9 : 0 ≤ f ∧ f < 9 := by omega
    have mb := meanT_bd Ht kb
    have om := oneT_mean Ht (f := f) 0 f9 kb
    have ob := oneT_bd t f b 0
    have bf := Ht.st f f9.1 f9.2
    have hB : stB (I1 20) := fun g g0 g1 => by rw [h20 g g0 g1]; exact Ht.st g g0 g1
    have ef := h20 f f9.1 f9.2
    have sm : ∀ I2 : mM, I2 20 = I1 20 → meanT (stR t (I2 20)) b = meanT t b := fun I2 e => by
      rw [e, stR_cong t h20, stR_self]
    have sc := fun z1 z2 z3 => stInv_still hS z1 z2 z3
    have mc := fun z1 z2 z3 => stInv_move hS z1 z2 z3
    rw [← hf] at sc mc
    have S6 := hS.2.2.2.2.2.1
    have he := fun z => stInv_end hS z
    clear hS
    have hf' := hf.symm
    have lt : ∀ _ : Unit, tu < (most + 1) * 9 → ((most + 1) * 9 - (tu + 1)).toNat < n := fun _ z => by
      rw [hm]
      omega
    have kS : ∀ (I2 : mM) (q' : Int), mo < most → tu < (most + 1) * 9 → stillT t b f → ((f = 0 ∧ q' = 1) ∨ (f ≠ 0 ∧ q' = q + 1)) → ¬ q' = 9 → (∀ i, ¬ (i = 130 ∨ (140 ≤ i ∧ i ≤ 149)) → I2 i = I1 i) → ∃ n', n' < n ∧ ballP b ∧ ∃ (t_1 : Int → Int) (mo_1 q_1 tu_1 s_1 : Int) (n_1 : Nat), [some (mR (some 0)), none, some (mI most), some (mI mo), some (mI q'), some (mI (tu + 1)), none, none] = [some (mR (some 0)), none, some (mI most), some (mI mo_1), some (mI q_1), some (mI tu_1), none, none] ∧ n' = ((most + 1) * 9 - tu_1).toNat ∧ stInv b most (settleT (I 201) b most) t_1 mo_1 q_1 tu_1 s_1 n_1 ∧ WFt t_1 ∧ agr (I 201) t_1 ∧ ctxU I2 t_1 b ∧ (∀ g : Int, 0 ≤ g → g < 9 → I2 20 g = stT t_1 g) ∧ (∀ i, ¬ i = 20 → ¬ ((3 ≤ i ∧ i ≤ 7) ∨ (120 ≤ i ∧ i ≤ 163)) → I2 i = I i) := fun I2 q' z1 z2 zs hq hq9 f2 => by
      rcases sc z1 z2 zs q' hq with ⟨y, -⟩ | ⟨-, s', n', y⟩
      · exact absurd y hq9
      · exact ⟨_, lt () z2, kb, t, mo, q', tu + 1, s', n', rfl, rfl, y, Ht, A, ctxU_of (fun i hi => f2 i (by omega)) HC, by rw [f2 20 (by decide)]; exact h20, fun i i0 i1 => (f2 i (by omega)).trans (hF i i0 i1)⟩
    have kE : ∀ (I2 : mM) (q' : Int), mo < most → tu < (most + 1) * 9 → stillT t b f → ((f = 0 ∧ q' = 1) ∨ (f ≠ 0 ∧ q' = q + 1)) → ¬ ¬ q' = 9 → (∀ i, ¬ (i = 130 ∨ (140 ≤ i ∧ i ≤ 149)) → I2 i = I1 i) → Q (.inl (some (mI mo))) I2 := fun I2 q' z1 z2 zs hq hq9 f2 => by
      rcases sc z1 z2 zs q' hq with ⟨-, y⟩ | ⟨y, -⟩
      · exact hend I2 f2 y
      · exact absurd y hq9
    have kM : ∀ (I2 : mM) (q' : Int), mo < most → tu < (most + 1) * 9 → ¬ stillT t b f → ((f = 0 ∧ q' = 0) ∨ (f ≠ 0 ∧ q' = q)) → (∀ i, ¬ (i = 130 ∨ (140 ≤ i ∧ i ≤ 149)) → I2 i = I1 i) → ∃ n', n' < n ∧ ballP b ∧ ∃ (t_1 : Int → Int) (mo_1 q_1 tu_1 s_1 : Int) (n_1 : Nat), [some (mR (some 0)), none, some (mI most), some (mI (mo + 1)), some (mI q'), some (mI (tu + 1)), none, none] = [some (mR (some 0)), none, some (mI most), some (mI mo_1), some (mI q_1), some (mI tu_1), none, none] ∧ n' = ((most + 1) * 9 - tu_1).toNat ∧ stInv b most (settleT (I 201) b most) t_1 mo_1 q_1 tu_1 s_1 n_1 ∧ WFt t_1 ∧ agr (I 201) t_1 ∧ ctxU (mSet I2 20 f (oneT t f b 0).1) t_1 b ∧ (∀ g : Int, 0 ≤ g → g < 9 → (if g = f then (oneT t f b 0).1 else I2 20 g) = stT t_1 g) ∧ (∀ i, ¬ i = 20 → ¬ ((3 ≤ i ∧ i ≤ 7) ∨ (120 ≤ i ∧ i ≤ 163)) → mSet I2 20 f (oneT t f b 0).1 i = I i) := fun I2 q' z1 z2 zs hq f2 => by
      obtain ⟨s', n', y⟩ := mc z1 z2 zs q' hq
      have Wp : WFt (putT t f (oneT t f b 0).1) := Ht.put f9 ⟨by omega, by omega⟩
      have Ap : agr t (putT t f (oneT t f b 0).1) := agr_put (fun _ _ _ => rfl) f _ f9
      refine ⟨_, lt () z2, kb, putT t f (oneT t f b 0).1, mo + 1, q', tu + 1, s', n', rfl, rfl, y, Wp, agr_put A f _ f9, ?_, fun g g0 g1 => ?_, fun i i0 i1 => ?_⟩
      · rw [ctxU_set (by decide)]
        exact ctxU_agr Ap Wp (ctxU_of (fun i hi => f2 i (by omega)) HC)
      · by_cases e : g = f
        · rw [if_pos e, e]
          exact (if_pos rfl).symm
        · rw [if_neg e, f2 20 (by decide), h20 g g0 g1]
          exact (if_neg (by omega)).symm
      · rw [set_ne i0]
        exact (f2 i (by omega)).trans (hF i i0 i1)
    have om' := fun z => om z
    have fS : ∀ I2 : mM, (∀ i, ¬ (i = 130 ∨ (140 ≤ i ∧ i ≤ 149)) → I2 i = I1 i) → stB (I2 20) ∧ ctxU I2 t b ∧ meanT (stR t (I2 20)) b = meanT t b := fun I2 f2 => ⟨by rw [f2 20 (by decide)]; exact hB, ctxU_of (fun i hi => f2 i (by omega)) HC, sm I2 (f2 20 (by decide))⟩
    clear sc mc hF A S6
    simp only [false_and, and_false, true_or, or_true, false_or, or_false, true_and, and_true, true_implies, false_implies, implies_true, not_true_eq_false, not_false_eq_true, and_self, List.length_cons, List.length_nil, mNoCut_, mCat_n, mCat_I, mCat_L, mCat_R, mIsL_n, mIsL_I, mIsL_R, mIsL_L, Nat.reduceAdd, Nat.reduceSub, Nat.reduceLeDiff, Nat.reduceLT, Nat.reduceEqDiff, Nat.zero_le, Int.reduceEq, Int.reduceLT, Int.reduceLE, Int.reduceNeg, Int.reduceAdd, if_true, if_false, reduceIte, reduceCtorEq, Bool.false_eq_true, ne_eq, qCmp_0, qCmp_1, qCmp_2, qCmp_3, qCmp_4, qCmp_5, ib_0, ib_1, ib_2, lb_0, lb_1, lb_2, dv_0, dv_1, wq_ic, wq_ld_i, wq_ld_a, wq_st_i, wq_iinc, wq_ib, wq_idv, wq_icmp, wq_if, wq_lcmp, wq_goto, wq_get, mGet_0, mGet_1, mGet_2, mGet_3, wq_ald, wq_astI, wq_astL, wq_ret0, wq_ret1, wq_ret2, wq_ret3, wq_ret4, ldI1, wq_callS1_1, ldI2, mrg_0_, mrg_50_, wq_callS3_1, ldR0, wq_callV2_0, stI3, stI4, stI5, ldI5, mrg_1_, mrg_9_, ldI3, stI6, ldI6, ldI4, fk_10_0, fk_7_1, fk_6_0, mrg_m1_, fk_10_6, stI7, ldI7, fk_2_15, fk_10_5, wqinc3, wqinc4, wqinc5, mPut_s, mPut_I0, mPut_R0, mPut_L0, mPut_I1, mPut_R1, mPut_L1, mGo_n, sfxX10_settle_24, cutX10_settle_24, sfxX10_settle_56, cutX10_settle_56, sfxX10_settle_58, cutX10_settle_58, sfxX10_settle_81, cutX10_settle_81, sfxX10_settle_90, cutX10_settle_90, sfxX10_settle_147, cutX10_settle_147, sfxX10_settle_150, cutX10_settle_150, sfxX10_settle_160, cutX10_settle_160, sfxX10_settle_166, cutX10_settle_166, wq_cut, mGo_c, mMask_t, mMask_f, mMask_n, kX10_settle_166, kX10_settle_160, kX10_settle_150, kX10_settle_147, kX10_settle_90, kX10_settle_81, kX10_settle_58, kX10_settle_56, kX10_settle_24, kX10_settle_0, sk_0, al_0, rf_0_0, sk_10, al_10, rf_0_6, sk_140, al_140, rf_0_5, sk_130, al_130, sk_12, al_12, rf_12_0, sk_20, al_20, sn_20, rf_10_1, ald_n, ro0_n, al_ro, SX10_settle_0, SX10_settle_1, SX10_settle_2, SX10_settle_3, SX10_settle_4, shqI_, shqIII_, shqRI_, shqRR_, spX10_needBall, spX10_needNumber, spX10_lay, spX2_bestCell, spX9_meanTop, mrg, mrl, mSet_ap, ncast, Option.some.injEq, hmod, hf', Option.getD_some]
    refine ⟨⟨⟨by omega, by omega⟩, by omega, by omega⟩, fun z => hend I1 (fun _ _ => rfl) (he (Or.inr z)), fun z1 => ⟨⟨⟨by omega, by omega⟩, by omega, by omega⟩, fun z => hend I1 (fun _ _ => rfl) (he (Or.inl z)), fun z2 => ⟨⟨by omega, by omega⟩, ⟨by omega, by omega⟩, fun z3 => ?_, fun z3 => ?_⟩⟩⟩
    · refine ⟨f9, ⟨by omega, by omega⟩, fun ne => ⟨f9, t, b, HC, h20, fun I2 f2 t2 => ⟨⟨by omega, by omega⟩, fun e => ⟨⟨by omega, by omega⟩, fun x => kS I2 (q + 1) (by omega) (by omega) (Or.inr (Or.inl e)) (Or.inr ⟨z3, rfl⟩) x f2, fun x => kE I2 (q + 1) (by omega) (by omega) (Or.inr (Or.inl e)) (Or.inr ⟨z3, rfl⟩) x f2⟩, fun ne1 => ?_⟩⟩, fun e => ⟨⟨by omega, by omega⟩, fun x => kS I1 (q + 1) (by omega) (by omega) (Or.inl (by omega)) (Or.inr ⟨z3, rfl⟩) x (fun _ _ => rfl), fun x => kE I1 (q + 1) (by omega) (by omega) (Or.inl (by omega)) (Or.inr ⟨z3, rfl⟩) x (fun _ _ => rfl)⟩⟩
      have t2 := t2 ne1
      have om2 := om ne1
      obtain ⟨y1, y2, y3⟩ := fS I2 f2
      refine ⟨Or.inr (Or.inl rfl), y1, t, b, y2, fun J => ?_⟩
      have fJ : ∀ i, ¬ (i = 130 ∨ (140 ≤ i ∧ i ≤ 149)) → fr 130 130 J I2 i = I1 i := fun i hi => by rw [fr_ne (by omega)]; exact f2 i hi
      rw [y3, t2]
      refine ⟨⟨⟨by omega, by omega⟩, by omega, by omega⟩, fun x1 => ⟨⟨by omega, by omega⟩, fun x => kS _ (q + 1) (by omega) (by omega) (Or.inr (Or.inr x1)) (Or.inr ⟨z3, rfl⟩) x fJ, fun x => kE _ (q + 1) (by omega) (by omega) (Or.inr (Or.inr x1)) (Or.inr ⟨z3, rfl⟩) x fJ⟩, fun x1 => ?_⟩
      have ns : ¬ stillT t b f := fun w => w.elim (fun w1 => by omega) (fun w2 => w2.elim ne1 x1)
      exact ⟨f9, ⟨by omega, by omega⟩, fun x => kM _ q (by omega) (by omega) ns (Or.inr ⟨z3, rfl⟩) fJ, fun x => by omega⟩
    · have z0 : f = 0 := by omega
      refine ⟨f9, ⟨by omega, by omega⟩, fun ne => ⟨f9, t, b, HC, h20, fun I2 f2 t2 => ⟨⟨by omega, by omega⟩, fun e => kS I2 1 (by omega) (by omega) (Or.inr (Or.inl e)) (Or.inl ⟨z0, rfl⟩) (by decide) f2, fun ne1 => ?_⟩⟩, fun e => kS I1 1 (by omega) (by omega) (Or.inl (by omega)) (Or.inl ⟨z0, rfl⟩) (by decide) (fun _ _ => rfl)⟩
      have t2 := t2 ne1
      have om2 := om ne1
      obtain ⟨y1, y2, y3⟩ := fS I2 f2
      refine ⟨Or.inr (Or.inl rfl), y1, t, b, y2, fun J => ?_⟩
      have fJ : ∀ i, ¬ (i = 130 ∨ (140 ≤ i ∧ i ≤ 149)) → fr 130 130 J I2 i = I1 i := fun i hi => by rw [fr_ne (by omega)]; exact f2 i hi
      rw [y3, t2]
      refine ⟨⟨⟨by omega, by omega⟩, by omega, by omega⟩, fun x1 => kS _ 1 (by omega) (by omega) (Or.inr (Or.inr x1)) (Or.inl ⟨z0, rfl⟩) (by decide) fJ, fun x1 => ?_⟩
      have ns : ¬ stillT t b f := fun w => w.elim (fun w1 => by omega) (fun w2 => w2.elim ne1 x1)
      exact ⟨f9, kM _ 0 (by omega) (by omega) ns (Or.inl ⟨z0, rfl⟩) fJ⟩
  · show mWp _ _ _ _ _ _ kX10_settle_0 [some (mR (some 0)), some (mI b), some (mI most), none, none, none, none, none] [] I
    simp only [false_and, and_false, true_or, or_true, false_or, or_false, true_and, and_true, true_implies, false_implies, implies_true, not_true_eq_false, not_false_eq_true, and_self, List.length_cons, List.length_nil, mNoCut_, mCat_n, mCat_I, mCat_L, mCat_R, mIsL_n, mIsL_I, mIsL_R, mIsL_L, Nat.reduceAdd, Nat.reduceSub, Nat.reduceLeDiff, Nat.reduceLT, Nat.reduceEqDiff, Nat.zero_le, Int.reduceEq, Int.reduceLT, Int.reduceLE, Int.reduceNeg, Int.reduceAdd, if_true, if_false, reduceIte, reduceCtorEq, Bool.false_eq_true, ne_eq, qCmp_0, qCmp_1, qCmp_2, qCmp_3, qCmp_4, qCmp_5, ib_0, ib_1, ib_2, lb_0, lb_1, lb_2, dv_0, dv_1, wq_ic, wq_ld_i, wq_ld_a, wq_st_i, wq_iinc, wq_ib, wq_idv, wq_icmp, wq_if, wq_lcmp, wq_goto, wq_get, mGet_0, mGet_1, mGet_2, mGet_3, wq_ald, wq_astI, wq_astL, wq_ret0, wq_ret1, wq_ret2, wq_ret3, wq_ret4, ldI1, wq_callS1_1, ldI2, mrg_0_, mrg_50_, wq_callS3_1, ldR0, wq_callV2_0, stI3, stI4, stI5, ldI5, mrg_1_, mrg_9_, ldI3, stI6, ldI6, ldI4, fk_10_0, fk_7_1, fk_6_0, mrg_m1_, fk_10_6, stI7, ldI7, fk_2_15, fk_10_5, wqinc3, wqinc4, wqinc5, mPut_s, mPut_I0, mPut_R0, mPut_L0, mPut_I1, mPut_R1, mPut_L1, mGo_n, sfxX10_settle_24, cutX10_settle_24, sfxX10_settle_56, cutX10_settle_56, sfxX10_settle_58, cutX10_settle_58, sfxX10_settle_81, cutX10_settle_81, sfxX10_settle_90, cutX10_settle_90, sfxX10_settle_147, cutX10_settle_147, sfxX10_settle_150, cutX10_settle_150, sfxX10_settle_160, cutX10_settle_160, sfxX10_settle_166, cutX10_settle_166, wq_cut, mGo_c, mMask_t, mMask_f, mMask_n, kX10_settle_166, kX10_settle_160, kX10_settle_150, kX10_settle_147, kX10_settle_90, kX10_settle_81, kX10_settle_58, kX10_settle_56, kX10_settle_24, kX10_settle_0, sk_0, al_0, rf_0_0, sk_10, al_10, rf_0_6, sk_140, al_140, rf_0_5, sk_130, al_130, sk_12, al_12, rf_12_0, sk_20, al_20, sn_20, rf_10_1, ald_n, ro0_n, al_ro, SX10_settle_0, SX10_settle_1, SX10_settle_2, SX10_settle_3, SX10_settle_4, shqI_, shqIII_, shqRI_, shqRR_, spX10_needBall, spX10_needNumber, spX10_lay, spX2_bestCell, spX9_meanTop, mrg, mrl, mSet_ap, ncast, Option.some.injEq]
    (try simp only [mrg, mrl] at *) <;> repeat' (first | (with_reducible assumption) | (with_reducible apply And.intro) | intro _)
    all_goals first | omega | assumption | exact h1 (by assumption) | exact h2 (by assumption) (by assumption) | (rename_i kb km J hJ; exact ⟨_, kb, I 201, 0, 0, 0, 0, _, rfl, rfl, stInv_0 km, H.1, fun _ _ _ => rfl, H.ctx kb hJ, fun g g0 g1 => by rw [fr_ne (by decide)]; exact H.s20e g g0 g1, fun i i0 i1 => fr_ne (by omega)⟩) | skip
theorem ctrX10_settle {l : Launch} (hst : l.stackTraces = false) (hT : mTxM l) : mCtr l calX10_settle spX10_settle :=
  mMet (T := TX10_settle) (S := SX10_settle) hst hT cutX10_settle (by decide) okX10_settle ⟨_, _, rfl, rfl⟩ trivial (fun t bs h => by rcases cutsX10_settle h with ⟨-, rfl⟩ <;> rfl) (fun a => match a with
    | 0 => ctrX10_needBall hst hT
    | 1 => ctrX10_needNumber hst hT
    | 2 => ctrX10_lay hst hT
    | 3 => ctrX2_bestCell hst hT
    | 4 => ctrX9_meanTop hst hT
    | _ + 5 => mCtr_no) vcX10_settle

end SPC30
