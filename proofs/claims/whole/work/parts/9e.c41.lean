section SPC41
def frF (I' I : mM) : Prop := (∀ i, i ≠ 100 → i ≠ 102 → ¬ (105 ≤ i ∧ i ≤ 110) → I' i = I i) ∧ (∀ p : Int, ¬ (3 ≤ p ∧ p ≤ 10) → I' 100 p = I 100 p)
def fiC (I' I : mM) (g : rdG) : Prop := frF I' I ∧ (g.1 ≠ 0 → I' 100 3 = g.1 ∧ I' 100 4 = g.2.1) ∧ (g.1 = 0 → I' 100 3 = 0 ∧ I' 100 4 = -1 ∧ I' 102 0 = g.2.2.2 0 ∧ grC I' g.2.2.2)
theorem frF.s {I I1 I2 : mM} (h : frF I1 I) (r : frS I2 I1) : frF I2 I := ⟨fun i i0 i1 i2 => by rw [r.1 i i0 i1 i2]; exact h.1 i i0 i1 i2, fun p hp => by rw [r.2 p (Or.inl hp)]; exact h.2 p hp⟩
theorem frF.set {I I1 : mM} (h : frF I1 I) {A : Nat} (hA : A = 102 ∨ (105 ≤ A ∧ A ≤ 110)) (p v : Int) : frF (mSet I1 A p v) I := ⟨fun i i0 i1 i2 => by rw [set_ne (by omega)]; exact h.1 i i0 i1 i2, fun q hq => by rw [set_ne (by omega)]; exact h.2 q hq⟩
theorem frF.one {I I1 : mM} (h : frF I1 I) {p : Int} (hp : 3 ≤ p ∧ p ≤ 10) (v : Int) : frF (mSet I1 100 p v) I := ⟨fun i i0 i1 i2 => by rw [set_ne i0]; exact h.1 i i0 i1 i2, fun q hq => by rw [set_nq (by omega)]; exact h.2 q hq⟩
theorem grC.lines {I : mM} {t : Int → Int} (H : cnP t) (G : grC I t) (v : Int) : grC I (updS t 0 v) := by
  refine ⟨fun k k0 k1 => ?_, fun q q0 q1 => ?_, fun b b0 b1 => ?_, fun b h b0 b1 i0 i1 => ?_⟩
  · rw [updS_ne _ _ (by omega)]
    exact G.1 k k0 k1
  · rw [updS_ne _ _ (by omega)]
    exact G.2.1 q q0 q1
  · rw [updS_ne _ _ (by omega)]
    exact G.2.2.1 b b0 b1
  · have hb := H b b0 b1
    rw [updS_ne _ _ (by omega)] at i1
    have q := G.2.2.2 b h b0 b1 i0 i1
    unfold rawT at *
    rw [updS_ne _ _ (by omega), updS_ne _ _ (by omega), updS_ne _ _ (by omega), updS_ne _ _ (by omega)]
    exact q
theorem cM_ne (I : mM) {a i : Nat} (lo : Int) (g : Int → Int) (n : Int) (h : i ≠ a) : copyM I a lo g n i = I i := by
  funext q
  exact if_neg (fun w => h w.1)
theorem cM_at (I : mM) (a : Nat) {lo : Int} (g : Int → Int) {n q : Int} (h : lo ≤ q ∧ q < lo + n) : copyM I a lo g n a q = g (q - lo) := if_pos ⟨rfl, h.1, h.2⟩
theorem wh_all {B : Int → Int} {n a : Int} {P : Int → Prop} (h0 : ∀ i : Nat, i < 7 → isW B n i a → P (if i = 0 then 6 else if i = 1 then 5 else (i : Int) - 2)) (h1 : P (-1)) : P (whT B n a) := by
  by_cases e : ∃ i : Nat, i < 7 ∧ isW B n i a
  · obtain ⟨i, hi, hw⟩ := e
    rw [wh_is hi hw]
    exact h0 i hi hw
  · rw [wh_no (fun i hi hw => e ⟨i, hi, hw⟩)]
    exact h1
theorem wh_6 {B : Int → Int} {n a : Int} : whT B n a = 6 → isW B n 0 a := wh_all (P := fun v => v = 6 → isW B n 0 a) (fun i hi hw e => by
    have z : i = 0 := by
      split at e
      · assumption
      · split at e <;> omega
    rw [← z]
    exact hw) (fun e => absurd e (by decide))
theorem wh_5 {B : Int → Int} {n a : Int} : whT B n a = 5 → isW B n 1 a := wh_all (P := fun v => v = 5 → isW B n 1 a) (fun i hi hw e => by
    have z : i = 1 := by
      split at e
      · omega
      · split at e
        · assumption
        · omega
    rw [← z]
    exact hw) (fun e => absurd e (by decide))
theorem wh_tk {B : Int → Int} {n a : Int} : whT B n a ≠ -1 → tkT B n a = 1 := wh_all (P := fun v => v ≠ -1 → tkT B n a = 1) (fun i hi hw e => hw.1) (fun e => absurd rfl e)
def spX5_readField : mSp := shRI (fun _ i n I Q => i = some 100 ∧ mrg n ∧ (0 ≤ n ∧ n ≤ I 100 1) ∧ I 100 1 ≤ 800 ∧ ∃ B : Int → Int, (∀ j : Int, 0 ≤ j → j < 800 → I 101 j = sbT (B j) ∧ 0 ≤ B j ∧ B j ≤ 255) ∧ ∃ t : Int → Int, (∀ q : Int, 0 ≤ q → q < 550 → t q = beT q) ∧ ∀ I' : mM, fiC I' I (fiL B n 802 0 t) → Q (.inl (some (mI (if (fiL B n 802 0 t).1 = 0 then 1 else 0)))) I')
def SX5_readField : Nat → mSp := fun a => match a with
  | 0 => spX3_clear
  | 1 => spX5_advance
  | 2 => spX5_lineNamed
  | 3 => spX5_fail
  | 4 => spX5_readSlow
  | 5 => spX5_readBall
  | 6 => spX5_readSetting
  | 7 => spX5_readSign
  | _ => fun _ _ _ _ => False
theorem SX5_readField_0 : SX5_readField 0 = spX3_clear := Eq.trans rfl rfl
theorem SX5_readField_1 : SX5_readField 1 = spX5_advance := Eq.trans rfl rfl
theorem SX5_readField_2 : SX5_readField 2 = spX5_lineNamed := Eq.trans rfl rfl
theorem SX5_readField_3 : SX5_readField 3 = spX5_fail := Eq.trans rfl rfl
theorem SX5_readField_4 : SX5_readField 4 = spX5_readSlow := Eq.trans rfl rfl
theorem SX5_readField_5 : SX5_readField 5 = spX5_readBall := Eq.trans rfl rfl
theorem SX5_readField_6 : SX5_readField 6 = spX5_readSetting := Eq.trans rfl rfl
theorem SX5_readField_7 : SX5_readField 7 = spX5_readSign := Eq.trans rfl rfl
theorem cutsX5_readField {t : Nat} {bs : List Bool} (h : cutX5_readField t = some bs) : (t = 40 ∧ bs = [true, false, true, false, false]) := by
  unfold cutX5_readField at h
  simp only [mLk] at h
  by_cases h0 : 40 = t
  · subst h0
    simp at h
    exact ⟨rfl, h.symm⟩
  rw [if_neg h0] at h
  cases h
set_option maxRecDepth 100000 in
set_option maxHeartbeats 1000000 in
theorem vcX5_readField (fl : Nat → Bool) (avs : List mV) (I : mM) (Q : mO → mM → Prop) (hsp : spX5_readField fl avs I Q) : mVC SX5_readField fl Q kX5_readField cutX5_readField 5 avs I := by
  obtain ⟨i, N, rfl, h0⟩ := shRI_inv hsp
  obtain ⟨rfl, rn, hN, h8, B, hB, t, ht, h⟩ := h0
  refine ⟨rfl, (fun m pc lv st I1 => st = [] ∧ frF I1 I ∧ tpC I1 B N ∧ I1 100 3 = 0 ∧ I1 100 4 = -1 ∧ ∃ (f : Nat) (x : Int) (t' : Int → Int), lv = [some (mR (some 100)), none, some (mI (t' 0)), none, none] ∧ m = f ∧ f ≤ 802 ∧ tkC I1 B N x ∧ (0 ≤ x ∧ x ≤ N) ∧ fwP t' ∧ grC I1 t' ∧ N - x < f ∧ fiL B N 802 0 t = fiL B N f x t'), ?_, ?_⟩
  · intro n t bs hbs lv st I1 hc
    rcases cutsX5_readField hbs with ⟨rfl, rfl⟩
    rw [sfxX5_readField_40]
    obtain ⟨rfl, hF, hT, e3, e4, f, x, t', rfl, hm, hf8, hK, hx, hw, hG, hf, hR⟩ := hc
    obtain ⟨f', rfl⟩ : ∃ f', f = f' + 1 := ⟨f - 1, by omega⟩
    have k7 := hK.2.2.1
    have k8 := hK.2.1
    have tkb := tk_bd B N x
    have eb := en8 B hx
    have h30 := hw.1.1
    by_cases z : tkT B N x = 0
    · have hR' : fiL B N 802 0 t = (0, 0, x, t') := by rw [hR]; exact if_pos z
      have h := h (mSet I1 102 0 (t' 0))
      rw [hR', if_pos rfl] at h
      have h := h ⟨hF.set (by decide) _ _, fun w => absurd rfl w, fun _ => ⟨by rw [set_ne (by decide)]; exact e3, by rw [set_ne (by decide)]; exact e4, set_eq, by
        refine ⟨fun k k0 k1 => ?_, fun q q0 q1 => ?_, fun b b0 b1 => ?_, fun b h b0 b1 i0 i1 => ?_⟩
        · rw [set_nq (by omega)]
          exact hG.1 k k0 k1
        · rw [set_ne (by decide)]
          exact hG.2.1 q q0 q1
        · rw [set_ne (by decide)]
          exact hG.2.2.1 b b0 b1
        · rw [set_ne (by decide), set_ne (by decide), set_ne (by decide), set_ne (by decide)]
          exact hG.2.2.2 b h b0 b1 i0 i1⟩⟩
      simp only [false_and, and_false, true_or, or_true, false_or, or_false, true_and, and_true, true_implies, false_implies, implies_true, not_true_eq_false, not_false_eq_true, and_self, List.length_cons, List.length_nil, mNoCut_, mCat_n, mCat_I, mCat_L, mCat_R, mIsL_n, mIsL_I, mIsL_R, mIsL_L, Nat.reduceAdd, Nat.reduceSub, Nat.reduceLeDiff, Nat.reduceLT, Nat.reduceEqDiff, Nat.zero_le, Int.reduceEq, Int.reduceLT, Int.reduceLE, Int.reduceNeg, Int.reduceAdd, if_true, if_false, reduceIte, reduceCtorEq, Bool.false_eq_true, ne_eq, qCmp_0, qCmp_1, qCmp_2, qCmp_3, qCmp_4, qCmp_5, ib_0, ib_1, ib_2, lb_0, lb_1, lb_2, dv_0, dv_1, wq_ic, wq_ld_i, wq_ld_a, wq_st_i, wq_iinc, wq_icmp, wq_if, wq_goto, wq_get, mGet_0, mGet_1, mGet_2, mGet_3, wq_putI, wq_putL, wq_ret0, wq_ret1, wq_ret2, wq_ret3, wq_ret4, wq_max, wq_min, wq_abs, wq_lmax, ldR0, ldI1, fk_5_1, fk_5_5, mrg_0_, fk_5_6, fk_5_3, mrg_m1_, fk_5_4, fk_5_2, wq_callV1_0, stI2, ldI2, mrg_30_, fk_5_7, fk_3_0, mrg_1_, stI3, ldI3, mrg_2_, wq_callV2_0, mrg_4_, mrg_5_, mrg_6_, stI4, ldI4, wqinc2, mPut_s, mPut_I0, mPut_R0, mPut_L0, mPut_I1, mPut_R1, mPut_L1, mGo_n, sfxX5_readField_40, cutX5_readField_40, sfxX5_readField_63, cutX5_readField_63, sfxX5_readField_79, cutX5_readField_79, sfxX5_readField_91, cutX5_readField_91, sfxX5_readField_107, cutX5_readField_107, sfxX5_readField_120, cutX5_readField_120, sfxX5_readField_125, cutX5_readField_125, sfxX5_readField_139, cutX5_readField_139, sfxX5_readField_141, cutX5_readField_141, sfxX5_readField_147, cutX5_readField_147, wq_cut, mGo_c, mMask_t, mMask_f, mMask_n, kX5_readField_147, kX5_readField_141, kX5_readField_139, kX5_readField_125, kX5_readField_120, kX5_readField_107, kX5_readField_91, kX5_readField_79, kX5_readField_63, kX5_readField_40, kX5_readField_0, sk_11, al_11, sk_102, al_102, sk_100, al_100, rf_100_2, ↓SX5_readField_0, ↓SX5_readField_1, ↓SX5_readField_2, ↓SX5_readField_3, ↓SX5_readField_4, ↓SX5_readField_5, ↓SX5_readField_6, ↓SX5_readField_7, ↓shqR_, ↓shqRI_, ↓spX3_clear, ↓spX5_advance, ↓spX5_lineNamed, ↓spX5_fail, ↓spX5_readSlow, ↓spX5_readBall, ↓spX5_readSetting, ↓spX5_readSign, mrg, mrl, mSet_ap, ncast, Option.some.injEq, k7, z]
      (try simp only [mrg, mrl] at *) <;> repeat' (first | (with_reducible assumption) | (with_reducible apply And.intro) | intro _)
      all_goals first | omega | exact h | skip
    · have lo := li_ok (B := B) hx hw
      have wb := wh_bd B N x
      have hR' : fiL B N 802 0 t = if (liT B N x t').1 ≠ 0 then liT B N x t' else fiL B N f' (liT B N x t').2.2.1 (liT B N x t').2.2.2 := by rw [hR]; exact if_neg z
      have jn : ∀ (m : Nat), 20 ≤ m → ∀ (I2 I3 : mM) (g : rdG) (w : Int), frC I2 I1 → whT B N x ≠ -1 → t' 0 ≠ 30 → inT B N x t' = g → gsC I3 I2 B N g → mWp SX5_readField (mGo SX5_readField Q (fun E _ I => Q (Sum.inr E) I) fl mRo0 kX5_readField cutX5_readField (fun t_1 lv st I_1 => ∃ n', n' < n ∧ st = [] ∧ frF I_1 I ∧ tpC I_1 B N ∧ I_1 100 3 = 0 ∧ I_1 100 4 = -1 ∧ ∃ (f : Nat) (x : Int) (t' : Int → Int), lv = [some (mR (some 100)), none, some (mI (t' 0)), none, none] ∧ n' = f ∧ f ≤ 802 ∧ tkC I_1 B N x ∧ (0 ≤ x ∧ x ≤ N) ∧ fwP t' ∧ grC I_1 t' ∧ N - x < f ∧ fiL B N 802 0 t = fiL B N f x t') m) Q (fun E _ I => Q (Sum.inr E) I) fl mRo0 kX5_readField_125 [some (mR (some 100)), none, some (mI (t' 0)), some (mI w), none] [mI (if g.1 = 0 then 1 else 0)] I3 := fun m hm I2 I3 g w f2 n1 n30 eg g3 => by
        have p0 : 0 < m := by omega
        have p1 : 0 < m - 1 := by omega
        have p2 : 0 < m - 1 - 1 := by omega
        have p3 : 0 < m - 1 - 1 - 1 := by omega
        have p4 : 0 < m - 1 - 1 - 1 - 1 := by omega
        have p5 : 0 < m - 1 - 1 - 1 - 1 - 1 := by omega
        have p6 : 0 < m - 1 - 1 - 1 - 1 - 1 - 1 := by omega
        have p7 : 0 < m - 1 - 1 - 1 - 1 - 1 - 1 - 1 := by omega
        have p8 : 0 < m - 1 - 1 - 1 - 1 - 1 - 1 - 1 - 1 := by omega
        have io := in_ok (B := B) hx hw n1
        rw [eg] at io
        have el : liT B N x t' = sgT B N g := by rw [← eg]; unfold liT; rw [if_neg n1, if_neg n30]
        have F2 := hF.s f2.s
        have F3 := F2.s g3.1
        have T3 := (hT.s f2.s).s g3.1
        by_cases z0 : g.1 = 0
        · obtain ⟨K3, G3, q3, q4⟩ := g3.2.2 z0
          obtain ⟨i1, i2, i3⟩ := io.2.2 z0
          have tg := tk_bd B N g.2.2.1
          have eg := en8 B io.2.1
          rw [f2.2 3 (by decide), e3] at q3
          rw [f2.2 4 (by decide), e4] at q4
          rw [if_pos z0]
          by_cases z3 : tkT B N g.2.2.1 = 3
          · have sd : sdT B N g.2.2.1 = (0, 0, enT B N g.2.2.1, 0) := if_pos z3
            have sg : sgT B N g = (0, 0, enT B N g.2.2.1, updS g.2.2.2 0 (g.2.2.2 0 + 1)) := by unfold sgT; rw [if_neg (fun w => w z0), if_neg (fun w => w z3)]
            rw [sg] at el
            rw [el, if_neg (fun w => w rfl)] at hR'
            rw [el] at lo
            have lo2 := lo.2.2 rfl
            simp only [false_and, and_false, true_or, or_true, false_or, or_false, true_and, and_true, true_implies, false_implies, implies_true, not_true_eq_false, not_false_eq_true, and_self, List.length_cons, List.length_nil, mNoCut_, mCat_n, mCat_I, mCat_L, mCat_R, mIsL_n, mIsL_I, mIsL_R, mIsL_L, Nat.reduceAdd, Nat.reduceSub, Nat.reduceLeDiff, Nat.reduceLT, Nat.reduceEqDiff, Nat.zero_le, Int.reduceEq, Int.reduceLT, Int.reduceLE, Int.reduceNeg, Int.reduceAdd, if_true, if_false, reduceIte, reduceCtorEq, Bool.false_eq_true, ne_eq, qCmp_0, qCmp_1, qCmp_2, qCmp_3, qCmp_4, qCmp_5, ib_0, ib_1, ib_2, lb_0, lb_1, lb_2, dv_0, dv_1, wq_ic, wq_ld_i, wq_ld_a, wq_st_i, wq_iinc, wq_icmp, wq_if, wq_goto, wq_get, mGet_0, mGet_1, mGet_2, mGet_3, wq_putI, wq_putL, wq_ret0, wq_ret1, wq_ret2, wq_ret3, wq_ret4, wq_max, wq_min, wq_abs, wq_lmax, ldR0, ldI1, fk_5_1, fk_5_5, mrg_0_, fk_5_6, fk_5_3, mrg_m1_, fk_5_4, fk_5_2, wq_callV1_0, stI2, ldI2, mrg_30_, fk_5_7, fk_3_0, mrg_1_, stI3, ldI3, mrg_2_, wq_callV2_0, mrg_4_, mrg_5_, mrg_6_, stI4, ldI4, wqinc2, mPut_s, mPut_I0, mPut_R0, mPut_L0, mPut_I1, mPut_R1, mPut_L1, mGo_n, sfxX5_readField_40, cutX5_readField_40, sfxX5_readField_63, cutX5_readField_63, sfxX5_readField_79, cutX5_readField_79, sfxX5_readField_91, cutX5_readField_91, sfxX5_readField_107, cutX5_readField_107, sfxX5_readField_120, cutX5_readField_120, sfxX5_readField_125, cutX5_readField_125, sfxX5_readField_139, cutX5_readField_139, sfxX5_readField_141, cutX5_readField_141, sfxX5_readField_147, cutX5_readField_147, wq_cut, mGo_c, mMask_t, mMask_f, mMask_n, kX5_readField_147, kX5_readField_141, kX5_readField_139, kX5_readField_125, kX5_readField_120, kX5_readField_107, kX5_readField_91, kX5_readField_79, kX5_readField_63, kX5_readField_40, kX5_readField_0, sk_11, al_11, sk_102, al_102, sk_100, al_100, rf_100_2, ↓SX5_readField_0, ↓SX5_readField_1, ↓SX5_readField_2, ↓SX5_readField_3, ↓SX5_readField_4, ↓SX5_readField_5, ↓SX5_readField_6, ↓SX5_readField_7, ↓shqR_, ↓shqRI_, ↓spX3_clear, ↓spX5_advance, ↓spX5_lineNamed, ↓spX5_fail, ↓spX5_readSlow, ↓spX5_readBall, ↓spX5_readSetting, ↓spX5_readSign, mrg, mrl, mSet_ap, ncast, Option.some.injEq, p0, p1, p2, p3, p4, p5, p6, p7, p8]
            clear h hR
            refine ⟨B, N, g.2.2.1, T3, K3, io.2.1, fun I4 f4 => ?_⟩
            rw [sd] at f4 ⊢
            rw [if_pos (show ((0, 0, enT B N g.2.2.1, 0) : rdR).1 = 0 from rfl)]
            obtain ⟨k4, j3, j4⟩ := f4.2.2.2 rfl
            dsimp only at lo lo2 k4
            exact ⟨⟨by decide, by decide⟩, fun _ => ⟨f', by omega, F3.s f4.s, T3.s f4.s, j3.trans q3, j4.trans q4, f', enT B N g.2.2.1, updS g.2.2.2 0 (g.2.2.2 0 + 1), by rw [updS_eq, i3], rfl, by omega, k4, lo.2.1, lo2.2.1, (G3.of (f4.1 _ (by decide)) (f4.1 _ (by decide)) (f4.1 _ (by decide)) (f4.1 _ (by decide)) (f4.1 _ (by decide)) (f4.1 _ (by decide)) (f4.1 _ (by decide))).lines i2.2.1 _, by omega, hR'⟩, fun w => absurd (show ¬ (1 : Int) = 0 by decide) w⟩
          · have sd : sdT B N g.2.2.1 = erT B N 2 g.2.2.1 0 := if_neg z3
            have sg : sgT B N g = rdE (erT B N 2 g.2.2.1 0) g.2.2.2 := by unfold sgT; rw [if_neg (fun w => w z0), if_pos z3]
            have ek := er_ne B N g.2.2.1
            rw [sg] at el
            rw [el, if_pos ek] at hR'
            rw [hR'] at h
            simp only [false_and, and_false, true_or, or_true, false_or, or_false, true_and, and_true, true_implies, false_implies, implies_true, not_true_eq_false, not_false_eq_true, and_self, List.length_cons, List.length_nil, mNoCut_, mCat_n, mCat_I, mCat_L, mCat_R, mIsL_n, mIsL_I, mIsL_R, mIsL_L, Nat.reduceAdd, Nat.reduceSub, Nat.reduceLeDiff, Nat.reduceLT, Nat.reduceEqDiff, Nat.zero_le, Int.reduceEq, Int.reduceLT, Int.reduceLE, Int.reduceNeg, Int.reduceAdd, if_true, if_false, reduceIte, reduceCtorEq, Bool.false_eq_true, ne_eq, qCmp_0, qCmp_1, qCmp_2, qCmp_3, qCmp_4, qCmp_5, ib_0, ib_1, ib_2, lb_0, lb_1, lb_2, dv_0, dv_1, wq_ic, wq_ld_i, wq_ld_a, wq_st_i, wq_iinc, wq_icmp, wq_if, wq_goto, wq_get, mGet_0, mGet_1, mGet_2, mGet_3, wq_putI, wq_putL, wq_ret0, wq_ret1, wq_ret2, wq_ret3, wq_ret4, wq_max, wq_min, wq_abs, wq_lmax, ldR0, ldI1, fk_5_1, fk_5_5, mrg_0_, fk_5_6, fk_5_3, mrg_m1_, fk_5_4, fk_5_2, wq_callV1_0, stI2, ldI2, mrg_30_, fk_5_7, fk_3_0, mrg_1_, stI3, ldI3, mrg_2_, wq_callV2_0, mrg_4_, mrg_5_, mrg_6_, stI4, ldI4, wqinc2, mPut_s, mPut_I0, mPut_R0, mPut_L0, mPut_I1, mPut_R1, mPut_L1, mGo_n, sfxX5_readField_40, cutX5_readField_40, sfxX5_readField_63, cutX5_readField_63, sfxX5_readField_79, cutX5_readField_79, sfxX5_readField_91, cutX5_readField_91, sfxX5_readField_107, cutX5_readField_107, sfxX5_readField_120, cutX5_readField_120, sfxX5_readField_125, cutX5_readField_125, sfxX5_readField_139, cutX5_readField_139, sfxX5_readField_141, cutX5_readField_141, sfxX5_readField_147, cutX5_readField_147, wq_cut, mGo_c, mMask_t, mMask_f, mMask_n, kX5_readField_147, kX5_readField_141, kX5_readField_139, kX5_readField_125, kX5_readField_120, kX5_readField_107, kX5_readField_91, kX5_readField_79, kX5_readField_63, kX5_readField_40, kX5_readField_0, sk_11, al_11, sk_102, al_102, sk_100, al_100, rf_100_2, ↓SX5_readField_0, ↓SX5_readField_1, ↓SX5_readField_2, ↓SX5_readField_3, ↓SX5_readField_4, ↓SX5_readField_5, ↓SX5_readField_6, ↓SX5_readField_7, ↓shqR_, ↓shqRI_, ↓spX3_clear, ↓spX5_advance, ↓spX5_lineNamed, ↓spX5_fail, ↓spX5_readSlow, ↓spX5_readBall, ↓spX5_readSetting, ↓spX5_readSign, mrg, mrl, mSet_ap, ncast, Option.some.injEq, p0, p1, p2, p3, p4, p5, p6, p7, p8]
            clear hR
            refine ⟨B, N, g.2.2.1, T3, K3, io.2.1, fun I4 f4 => ?_⟩
            rw [sd] at f4 ⊢
            rw [if_neg ek]
            have h := h I4 ⟨F3.s f4.s, fun _ => f4.2.2.1 ek, fun w => absurd w ek⟩
            rw [if_neg (show ¬ (rdE (erT B N 2 g.2.2.1 0) g.2.2.2).1 = 0 from ek)] at h
            exact ⟨⟨by decide, by decide⟩, fun w => absurd rfl w, fun _ => h⟩
        · have sg : sgT B N g = g := if_pos z0
          rw [sg] at el
          rw [el, if_pos z0] at hR'
          rw [hR', if_neg z0] at h
          have h := h I3 ⟨F3, fun _ => g3.2.1 z0, fun w => absurd w z0⟩
          rw [if_neg z0]
          simp only [false_and, and_false, true_or, or_true, false_or, or_false, true_and, and_true, true_implies, false_implies, implies_true, not_true_eq_false, not_false_eq_true, and_self, List.length_cons, List.length_nil, mNoCut_, mCat_n, mCat_I, mCat_L, mCat_R, mIsL_n, mIsL_I, mIsL_R, mIsL_L, Nat.reduceAdd, Nat.reduceSub, Nat.reduceLeDiff, Nat.reduceLT, Nat.reduceEqDiff, Nat.zero_le, Int.reduceEq, Int.reduceLT, Int.reduceLE, Int.reduceNeg, Int.reduceAdd, if_true, if_false, reduceIte, reduceCtorEq, Bool.false_eq_true, ne_eq, qCmp_0, qCmp_1, qCmp_2, qCmp_3, qCmp_4, qCmp_5, ib_0, ib_1, ib_2, lb_0, lb_1, lb_2, dv_0, dv_1, wq_ic, wq_ld_i, wq_ld_a, wq_st_i, wq_iinc, wq_icmp, wq_if, wq_goto, wq_get, mGet_0, mGet_1, mGet_2, mGet_3, wq_putI, wq_putL, wq_ret0, wq_ret1, wq_ret2, wq_ret3, wq_ret4, wq_max, wq_min, wq_abs, wq_lmax, ldR0, ldI1, fk_5_1, fk_5_5, mrg_0_, fk_5_6, fk_5_3, mrg_m1_, fk_5_4, fk_5_2, wq_callV1_0, stI2, ldI2, mrg_30_, fk_5_7, fk_3_0, mrg_1_, stI3, ldI3, mrg_2_, wq_callV2_0, mrg_4_, mrg_5_, mrg_6_, stI4, ldI4, wqinc2, mPut_s, mPut_I0, mPut_R0, mPut_L0, mPut_I1, mPut_R1, mPut_L1, mGo_n, sfxX5_readField_40, cutX5_readField_40, sfxX5_readField_63, cutX5_readField_63, sfxX5_readField_79, cutX5_readField_79, sfxX5_readField_91, cutX5_readField_91, sfxX5_readField_107, cutX5_readField_107, sfxX5_readField_120, cutX5_readField_120, sfxX5_readField_125, cutX5_readField_125, sfxX5_readField_139, cutX5_readField_139, sfxX5_readField_141, cutX5_readField_141, sfxX5_readField_147, cutX5_readField_147, wq_cut, mGo_c, mMask_t, mMask_f, mMask_n, kX5_readField_147, kX5_readField_141, kX5_readField_139, kX5_readField_125, kX5_readField_120, kX5_readField_107, kX5_readField_91, kX5_readField_79, kX5_readField_63, kX5_readField_40, kX5_readField_0, sk_11, al_11, sk_102, al_102, sk_100, al_100, rf_100_2, ↓SX5_readField_0, ↓SX5_readField_1, ↓SX5_readField_2, ↓SX5_readField_3, ↓SX5_readField_4, ↓SX5_readField_5, ↓SX5_readField_6, ↓SX5_readField_7, ↓shqR_, ↓shqRI_, ↓spX3_clear, ↓spX5_advance, ↓spX5_lineNamed, ↓spX5_fail, ↓spX5_readSlow, ↓spX5_readBall, ↓spX5_readSetting, ↓spX5_readSign, mrg, mrl, mSet_ap, ncast, Option.some.injEq, p0, p1, p2, p3, p4, p5, p6, p7, p8]
          (try simp only [mrg, mrl] at *) <;> repeat' (first | (with_reducible assumption) | (with_reducible apply And.intro) | intro _)
          all_goals first | omega | exact h | skip
      simp only [false_and, and_false, true_or, or_true, false_or, or_false, true_and, and_true, true_implies, false_implies, implies_true, not_true_eq_false, not_false_eq_true, and_self, List.length_cons, List.length_nil, mNoCut_, mCat_n, mCat_I, mCat_L, mCat_R, mIsL_n, mIsL_I, mIsL_R, mIsL_L, Nat.reduceAdd, Nat.reduceSub, Nat.reduceLeDiff, Nat.reduceLT, Nat.reduceEqDiff, Nat.zero_le, Int.reduceEq, Int.reduceLT, Int.reduceLE, Int.reduceNeg, Int.reduceAdd, if_true, if_false, reduceIte, reduceCtorEq, Bool.false_eq_true, ne_eq, qCmp_0, qCmp_1, qCmp_2, qCmp_3, qCmp_4, qCmp_5, ib_0, ib_1, ib_2, lb_0, lb_1, lb_2, dv_0, dv_1, wq_ic, wq_ld_i, wq_ld_a, wq_st_i, wq_iinc, wq_icmp, wq_if, wq_goto, wq_get, mGet_0, mGet_1, mGet_2, mGet_3, wq_putI, wq_putL, wq_ret0, wq_ret1, wq_ret2, wq_ret3, wq_ret4, wq_max, wq_min, wq_abs, wq_lmax, ldR0, ldI1, fk_5_1, fk_5_5, mrg_0_, fk_5_6, fk_5_3, mrg_m1_, fk_5_4, fk_5_2, wq_callV1_0, stI2, ldI2, mrg_30_, fk_5_7, fk_3_0, mrg_1_, stI3, ldI3, mrg_2_, wq_callV2_0, mrg_4_, mrg_5_, mrg_6_, stI4, ldI4, wqinc2, mPut_s, mPut_I0, mPut_R0, mPut_L0, mPut_I1, mPut_R1, mPut_L1, mGo_n, sfxX5_readField_40, cutX5_readField_40, sfxX5_readField_63, cutX5_readField_63, sfxX5_readField_79, cutX5_readField_79, sfxX5_readField_91, cutX5_readField_91, sfxX5_readField_107, cutX5_readField_107, sfxX5_readField_120, cutX5_readField_120, sfxX5_readField_125, cutX5_readField_125, sfxX5_readField_139, cutX5_readField_139, sfxX5_readField_141, cutX5_readField_141, sfxX5_readField_147, cutX5_readField_147, wq_cut, mGo_c, mMask_t, mMask_f, mMask_n, kX5_readField_147, kX5_readField_141, kX5_readField_139, kX5_readField_120, kX5_readField_107, kX5_readField_91, kX5_readField_79, kX5_readField_63, kX5_readField_40, kX5_readField_0, sk_11, al_11, sk_102, al_102, sk_100, al_100, rf_100_2, ↓SX5_readField_0, ↓SX5_readField_1, ↓SX5_readField_2, ↓SX5_readField_3, ↓SX5_readField_4, ↓SX5_readField_5, ↓SX5_readField_6, ↓SX5_readField_7, ↓shqR_, ↓shqRI_, ↓spX3_clear, ↓spX5_advance, ↓spX5_lineNamed, ↓spX5_fail, ↓spX5_readSlow, ↓spX5_readBall, ↓spX5_readSetting, ↓spX5_readSign, mrg, mrl, mSet_ap, ncast, Option.some.injEq, k7, z]
      refine ⟨⟨by omega, by omega⟩, fun y => by omega, fun _ => ⟨⟨by omega, by omega⟩, B, N, x, hT, hK, hx, ⟨by omega, by omega⟩, fun y1 => ⟨⟨by omega, by omega⟩, fun y2 => ⟨B, N, enT B N x, hT, hK.1, ⟨by omega, by omega⟩, fun I2 f2 k2 => ⟨⟨by omega, by omega⟩, fun y3 => ⟨⟨by omega, by omega⟩, fun y4 => ⟨⟨by omega, by omega⟩, by rw [f2.2 3 (by decide)]; exact e3, B, N, x, t', hT.s f2.s, k2, hx, hw.2.1, hG.of (f2.1 _ (by decide)) (f2.1 _ (by decide)) (f2.1 _ (by decide)) (f2.1 _ (by decide)) (f2.1 _ (by decide)) (f2.1 _ (by decide)) (f2.1 _ (by decide)), fun I3 g3 => ?_⟩, fun y4 => ⟨B, N, x, t', hT.s f2.s, k2, hx, ?_, hw.2.1, hG.of (f2.1 _ (by decide)) (f2.1 _ (by decide)) (f2.1 _ (by decide)) (f2.1 _ (by decide)) (f2.1 _ (by decide)) (f2.1 _ (by decide)) (f2.1 _ (by decide)), fun I3 g3 => ?_⟩⟩, fun y3 => ⟨B, N, x, t', hT.s f2.s, k2, hx, ?_, hw.2.1, hG.of (f2.1 _ (by decide)) (f2.1 _ (by decide)) (f2.1 _ (by decide)) (f2.1 _ (by decide)) (f2.1 _ (by decide)) (f2.1 _ (by decide)) (f2.1 _ (by decide)), fun I3 g3 => ?_⟩⟩⟩, fun y2 => ?_⟩, fun y1 => ?_⟩⟩
      · exact jn _ (by decide) I2 I3 _ _ f2 y1 y2 (by unfold inT; rw [if_neg y3, if_neg y4]) g3
      · exact wh_6 (by omega)
      · exact jn _ (by decide) I2 I3 _ _ f2 y1 y2 (by unfold inT; rw [if_neg y3, if_pos (by omega)]) g3
      · exact wh_5 (by omega)
      · exact jn _ (by decide) I2 I3 _ _ f2 y1 y2 (by unfold inT; rw [if_pos (by omega)]) g3
      · have y3 : tkT B N x = 1 := wh_tk y1
        have el : liT B N x t' = (4, bgT B N x, x, t') := by unfold liT; rw [if_neg y1, if_pos (by omega)]
        have n4 : ((4, bgT B N x, x, t') : rdG).1 ≠ 0 := show (4 : Int) ≠ 0 by decide
        rw [el, if_pos n4] at hR'
        rw [hR'] at h
        have h := h (mSet (mSet I1 100 3 4) 100 4 (I1 100 8)) ⟨(hF.one (by decide) _).one (by decide) _, fun _ => ⟨by rw [set_nq (by decide), set_eq], by rw [set_eq, k8]⟩, fun w => absurd w n4⟩
        rw [if_neg n4] at h
        rw [y3]
        exact ⟨⟨by decide, by decide⟩, h⟩
      · have el : liT B N x t' = rdE (erT B N 2 x 0) t' := by unfold liT; rw [if_pos (by omega)]
        have ek := er_ne B N x
        rw [el, if_pos (show (rdE (erT B N 2 x 0) t').1 ≠ 0 from ek)] at hR'
        rw [hR'] at h
        have q := wnC.bad hK
        have h := h _ ⟨hF.s q.s, fun _ => q.2.2.1 ek, fun w => absurd w ek⟩
        rw [if_neg (show ¬ (rdE (erT B N 2 x 0) t').1 = 0 from ek), k7] at h
        exact ⟨⟨by omega, by omega⟩, h⟩
  · show mWp _ _ _ _ _ _ kX5_readField_0 [some (mR (some 100)), some (mI N), none, none, none] [] I
    have M : frF (copyM (copyM (mSet (mSet (mSet (mSet (mSet (mSet (mSet (mSet (mSet (mSet I 100 5 (min N (I 100 1))) 100 6 0) 100 3 0) 100 4 (-1)) 102 0 0) 102 1 8) 102 2 9) 102 3 20) 102 4 9) 102 5 1) 105 0 (fun _ => 0) 289) 106 0 (fun _ => 0) 6) I ∧ tpC (copyM (copyM (mSet (mSet (mSet (mSet (mSet (mSet (mSet (mSet (mSet (mSet I 100 5 (min N (I 100 1))) 100 6 0) 100 3 0) 100 4 (-1)) 102 0 0) 102 1 8) 102 2 9) 102 3 20) 102 4 9) 102 5 1) 105 0 (fun _ => 0) 289) 106 0 (fun _ => 0) 6) B N ∧ copyM (copyM (mSet (mSet (mSet (mSet (mSet (mSet (mSet (mSet (mSet (mSet I 100 5 (min N (I 100 1))) 100 6 0) 100 3 0) 100 4 (-1)) 102 0 0) 102 1 8) 102 2 9) 102 3 20) 102 4 9) 102 5 1) 105 0 (fun _ => 0) 289) 106 0 (fun _ => 0) 6 100 6 = 0 ∧ copyM (copyM (mSet (mSet (mSet (mSet (mSet (mSet (mSet (mSet (mSet (mSet I 100 5 (min N (I 100 1))) 100 6 0) 100 3 0) 100 4 (-1)) 102 0 0) 102 1 8) 102 2 9) 102 3 20) 102 4 9) 102 5 1) 105 0 (fun _ => 0) 289) 106 0 (fun _ => 0) 6 100 3 = 0 ∧ copyM (copyM (mSet (mSet (mSet (mSet (mSet (mSet (mSet (mSet (mSet (mSet I 100 5 (min N (I 100 1))) 100 6 0) 100 3 0) 100 4 (-1)) 102 0 0) 102 1 8) 102 2 9) 102 3 20) 102 4 9) 102 5 1) 105 0 (fun _ => 0) 289) 106 0 (fun _ => 0) 6 100 4 = -1 ∧ grC (copyM (copyM (mSet (mSet (mSet (mSet (mSet (mSet (mSet (mSet (mSet (mSet I 100 5 (min N (I 100 1))) 100 6 0) 100 3 0) 100 4 (-1)) 102 0 0) 102 1 8) 102 2 9) 102 3 20) 102 4 9) 102 5 1) 105 0 (fun _ => 0) 289) 106 0 (fun _ => 0) 6) t := by
      refine ⟨⟨fun i i0 i1 i2 => ?_, fun p hp => ?_⟩, ⟨?_, ⟨by omega, by omega⟩, fun j j0 j1 => ?_⟩, ?_, ?_, ?_, fun k k0 k1 => ?_, fun c c0 c1 => ?_, fun b b0 b1 => ?_, fun b h b0 b1 i0 i1 => ?_⟩
      · rw [cM_ne _ _ _ _ (by omega), cM_ne _ _ _ _ (by omega), set_ne i1, set_ne i1, set_ne i1, set_ne i1, set_ne i1, set_ne i1, set_ne i0, set_ne i0, set_ne i0, set_ne i0]
      · rw [cM_ne _ _ _ _ (by decide), cM_ne _ _ _ _ (by decide), set_ne (by decide), set_ne (by decide), set_ne (by decide), set_ne (by decide), set_ne (by decide), set_ne (by decide), set_nq (by omega), set_nq (by omega), set_nq (by omega), set_nq (by omega)]
      · rw [cM_ne _ _ _ _ (by decide), cM_ne _ _ _ _ (by decide), set_ne (by decide), set_ne (by decide), set_ne (by decide), set_ne (by decide), set_ne (by decide), set_ne (by decide), set_nq (by decide), set_nq (by decide), set_nq (by decide), set_eq]
        omega
      · rw [cM_ne _ _ _ _ (by decide), cM_ne _ _ _ _ (by decide), set_ne (by decide), set_ne (by decide), set_ne (by decide), set_ne (by decide), set_ne (by decide), set_ne (by decide), set_ne (by decide), set_ne (by decide), set_ne (by decide), set_ne (by decide)]
        exact hB j j0 j1
      · rw [cM_ne _ _ _ _ (by decide), cM_ne _ _ _ _ (by decide)]
        simp [mSet]
      · rw [cM_ne _ _ _ _ (by decide), cM_ne _ _ _ _ (by decide)]
        simp [mSet]
      · rw [cM_ne _ _ _ _ (by decide), cM_ne _ _ _ _ (by decide)]
        simp [mSet]
      · rw [cM_ne _ _ _ _ (by decide), cM_ne _ _ _ _ (by decide), ht k (by omega) (by omega)]
        have e : k = 1 ∨ k = 2 ∨ k = 3 ∨ k = 4 ∨ k = 5 := by omega
        rcases e with rfl | rfl | rfl | rfl | rfl <;> simp [mSet, beT]
      · rw [cM_ne _ _ _ _ (by decide), cM_at _ _ _ ⟨by omega, by omega⟩, ht _ (by omega) (by omega)]
        unfold beT
        rw [if_neg (by omega), if_neg (by omega), if_neg (by omega), if_neg (by omega), if_neg (by omega)]
      · rw [cM_at _ _ _ ⟨by omega, by omega⟩, ht _ (by omega) (by omega)]
        unfold beT
        rw [if_neg (by omega), if_neg (by omega), if_neg (by omega), if_neg (by omega), if_neg (by omega)]
      · rw [ht _ (by omega) (by omega)] at i1
        unfold beT at i1
        rw [if_neg (by omega), if_neg (by omega), if_neg (by omega), if_neg (by omega), if_neg (by omega)] at i1
        omega
    simp only [false_and, and_false, true_or, or_true, false_or, or_false, true_and, and_true, true_implies, false_implies, implies_true, not_true_eq_false, not_false_eq_true, and_self, List.length_cons, List.length_nil, mNoCut_, mCat_n, mCat_I, mCat_L, mCat_R, mIsL_n, mIsL_I, mIsL_R, mIsL_L, Nat.reduceAdd, Nat.reduceSub, Nat.reduceLeDiff, Nat.reduceLT, Nat.reduceEqDiff, Nat.zero_le, Int.reduceEq, Int.reduceLT, Int.reduceLE, Int.reduceNeg, Int.reduceAdd, if_true, if_false, reduceIte, reduceCtorEq, Bool.false_eq_true, ne_eq, qCmp_0, qCmp_1, qCmp_2, qCmp_3, qCmp_4, qCmp_5, ib_0, ib_1, ib_2, lb_0, lb_1, lb_2, dv_0, dv_1, wq_ic, wq_ld_i, wq_ld_a, wq_st_i, wq_iinc, wq_icmp, wq_if, wq_goto, wq_get, mGet_0, mGet_1, mGet_2, mGet_3, wq_putI, wq_putL, wq_ret0, wq_ret1, wq_ret2, wq_ret3, wq_ret4, wq_max, wq_min, wq_abs, wq_lmax, ldR0, ldI1, fk_5_1, fk_5_5, mrg_0_, fk_5_6, fk_5_3, mrg_m1_, fk_5_4, fk_5_2, wq_callV1_0, stI2, ldI2, mrg_30_, fk_5_7, fk_3_0, mrg_1_, stI3, ldI3, mrg_2_, wq_callV2_0, mrg_4_, mrg_5_, mrg_6_, stI4, ldI4, wqinc2, mPut_s, mPut_I0, mPut_R0, mPut_L0, mPut_I1, mPut_R1, mPut_L1, mGo_n, sfxX5_readField_40, cutX5_readField_40, sfxX5_readField_63, cutX5_readField_63, sfxX5_readField_79, cutX5_readField_79, sfxX5_readField_91, cutX5_readField_91, sfxX5_readField_107, cutX5_readField_107, sfxX5_readField_120, cutX5_readField_120, sfxX5_readField_125, cutX5_readField_125, sfxX5_readField_139, cutX5_readField_139, sfxX5_readField_141, cutX5_readField_141, sfxX5_readField_147, cutX5_readField_147, wq_cut, mGo_c, mMask_t, mMask_f, mMask_n, kX5_readField_147, kX5_readField_141, kX5_readField_139, kX5_readField_125, kX5_readField_120, kX5_readField_107, kX5_readField_91, kX5_readField_79, kX5_readField_63, kX5_readField_40, kX5_readField_0, sk_11, al_11, sk_102, al_102, sk_100, al_100, rf_100_2, ↓SX5_readField_0, ↓SX5_readField_1, ↓SX5_readField_2, ↓SX5_readField_3, ↓SX5_readField_4, ↓SX5_readField_5, ↓SX5_readField_6, ↓SX5_readField_7, ↓shqR_, ↓shqRI_, ↓spX3_clear, ↓spX5_advance, ↓spX5_lineNamed, ↓spX5_fail, ↓spX5_readSlow, ↓spX5_readBall, ↓spX5_readSetting, ↓spX5_readSign, mrg, mrl, mSet_ap, ncast, Option.some.injEq, set_over1]
    refine ⟨⟨rn, ⟨by omega, by omega⟩⟩, B, N, 0, M.2.1, M.2.2.1, ⟨by decide, hN.1⟩, fun I1 f1 k1 => ⟨802, M.1.s f1.s, M.2.1.s f1.s, by rw [f1.2 3 (by decide)]; exact M.2.2.2.1, by rw [f1.2 4 (by decide)]; exact M.2.2.2.2.1, 802, 0, t, by rw [ht 0 (by decide) (by decide)]; rfl, rfl, Nat.le_refl _, k1, ⟨by decide, hN.1⟩, beT_fw ht, M.2.2.2.2.2.of (f1.1 _ (by decide)) (f1.1 _ (by decide)) (f1.1 _ (by decide)) (f1.1 _ (by decide)) (f1.1 _ (by decide)) (f1.1 _ (by decide)) (f1.1 _ (by decide)), by omega, rfl⟩⟩
theorem ctrX5_readField {l : Launch} (hst : l.stackTraces = false) (hT : mTxM l) : mCtr l calX5_readField spX5_readField :=
  mMet (T := TX5_readField) (S := SX5_readField) hst hT cutX5_readField (by decide) okX5_readField ⟨_, _, rfl, rfl⟩ trivial (fun t bs h => by rcases cutsX5_readField h with ⟨-, rfl⟩ <;> rfl) (fun a => match a with
    | 0 => ctrX3_clear hst hT
    | 1 => ctrX5_advance hst hT
    | 2 => ctrX5_lineNamed hst hT
    | 3 => ctrX5_fail hst hT
    | 4 => ctrX5_readSlow hst hT
    | 5 => ctrX5_readBall hst hT
    | 6 => ctrX5_readSetting hst hT
    | 7 => ctrX5_readSign hst hT
    | _ + 8 => mCtr_no) vcX5_readField

end SPC41
