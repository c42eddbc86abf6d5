section SPM26
/-- as rdR, with the row that is told -/
abbrev rdG := Int × Int × Int × (Int → Int)
abbrev rdE (r : rdR) (t : Int → Int) : rdG := (r.1, r.2.1, r.2.2.1, t)
def slL (B : Int → Int) (n v : Int) : Nat → Int → (Int → Int) → rdG
  | 0, a, t => (0, 0, a, t)
  | f + 1, a, t => if tkT B n a = 2 then (if (numT B n 0 288 a).1 ≠ 0 then rdE (numT B n 0 288 a) t else slL B n v f (numT B n 0 288 a).2.2.1 (updS t (20 + (numT B n 0 288 a).2.2.2) v)) else (0, 0, a, t)
noncomputable def slT (B : Int → Int) (n a : Int) (t : Int → Int) : rdG :=
  if (tolT B n 1 0 20 a).1 ≠ 0 then rdE (tolT B n 1 0 20 a) t
  else if (tolT B n 7 0 288 (tolT B n 1 0 20 a).2.2.1).1 ≠ 0 then rdE (tolT B n 7 0 288 (tolT B n 1 0 20 a).2.2.1) t
  else slL B n (tolT B n 1 0 20 a).2.2.2 802 (tolT B n 7 0 288 (tolT B n 1 0 20 a).2.2.1).2.2.1 (updS t (20 + (tolT B n 7 0 288 (tolT B n 1 0 20 a).2.2.1).2.2.2) (tolT B n 1 0 20 a).2.2.2)
def frG (I' I : mM) : Prop := (∀ i, i ≠ 200 → i ≠ 205 → I' i = I i) ∧ (∀ p : Int, ¬ (8 ≤ p ∧ p ≤ 13) → I' 200 p = I 200 p)
theorem frG.refl (I : mM) : frG I I := ⟨fun _ _ _ => rfl, fun _ _ => rfl⟩
theorem frG.tr {I I1 I2 : mM} (h : frG I1 I) (h2 : frG I2 I1) : frG I2 I := ⟨fun i hi h5 => by rw [h2.1 i hi h5, h.1 i hi h5], fun p hp => by rw [h2.2 p hp, h.2 p hp]⟩
theorem frB.g {I' I : mM} (h : frB I' I) : frG I' I := ⟨fun i hi _ => h.1 i hi, h.2⟩
theorem frG.set {I' I : mM} (h : frG I' I) (p v : Int) : frG (mSet I' 205 p v) I := ⟨fun i hi h5 => by rw [set_ne h5]; exact h.1 i hi h5, fun p hp => by rw [set_ne (by decide)]; exact h.2 p hp⟩
theorem tpS.frg {I I' : mM} {B : Int → Int} {n : Int} (h : tpS I B n) (f : frG I' I) : tpS I' B n := by
  unfold tpS at *
  rw [f.1 204 (by decide) (by decide), f.2 7 (by decide)]
  exact h
theorem tkS.set {I : mM} {B : Int → Int} {n a : Int} (h : tkS I B n a) (p v : Int) : tkS (mSet I 205 p v) B n a := by
  unfold tkS at *
  rw [set_ne (by decide)]
  exact h
theorem set_upd (I : mM) (p v : Int) : mSet I 205 p v 205 = updS (I 205) p v := by
  funext q
  simp [mSet, updS]
def gdS (I' I : mM) (B : Int → Int) (n : Int) (g : rdG) : Prop := frG I' I ∧ tkS I' B n g.2.2.1 ∧ I' 200 12 = g.1 ∧ (g.1 ≠ 0 → I' 200 13 = g.2.1) ∧ (g.1 = 0 → I' 205 = g.2.2.2)
theorem gdS.of {I I1 I2 : mM} {B : Int → Int} {n : Int} {r : rdR} (f : frG I1 I) (h : rdS I2 I1 B n r.1 r.2.1 r.2.2.1) (h0 : r.1 ≠ 0) (t : Int → Int) : gdS I2 I B n (rdE r t) := ⟨f.tr h.1.g, h.2.1, h.2.2.1, h.2.2.2, fun w => absurd w h0⟩
theorem sl_bd {B : Int → Int} {n v : Int} : ∀ (f : Nat) (a : Int) (t : Int → Int), 0 ≤ a ∧ a ≤ n → 0 ≤ (slL B n v f a t).1 ∧ (slL B n v f a t).1 ≤ 5 ∧ 0 ≤ (slL B n v f a t).2.2.1 ∧ (slL B n v f a t).2.2.1 ≤ n ∧ a ≤ (slL B n v f a t).2.2.1
  | 0, a, t, h => by
    simp only [slL]
    omega
  | f + 1, a, t, h => by
    have nb := num_bd (B := B) (n := n) (lo := 0) (hi := 288) h (by decide)
    simp only [slL]
    by_cases z : tkT B n a = 2
    · rw [if_pos z]
      by_cases z1 : (numT B n 0 288 a).1 ≠ 0
      · rw [if_pos z1]
        have en := en_bd B h.2
        have e2 : a ≤ (numT B n 0 288 a).2.2.1 := by
          have bb := bg_bd B h.2
          unfold numT erT
          repeat' split
          all_goals (dsimp only; omega)
        dsimp only [rdE]
        omega
      · rw [if_neg z1]
        have ih := sl_bd (B := B) (v := v) f (numT B n 0 288 a).2.2.1 (updS t (20 + (numT B n 0 288 a).2.2.2) v) nb.1
        have := nb.2.2.2 (by omega)
        omega
    · rw [if_neg z]
      dsimp only
      omega
def spX11_readSlow : mSp := shR (fun _ i I Q => i = some 200 ∧ ∃ B n a, tpS I B n ∧ tkS I B n a ∧ (0 ≤ a ∧ a ≤ n) ∧ I 200 12 = 0 ∧ ∀ I' : mM, gdS I' I B n (slT B n a (I 205)) → Q (.inl none) I')
def SX11_readSlow : Nat → mSp := fun a => match a with
  | 0 => spX11_told
  | 1 => spX11_number
  | _ => fun _ _ _ _ => False
theorem SX11_readSlow_0 : SX11_readSlow 0 = spX11_told := Eq.trans rfl rfl
theorem SX11_readSlow_1 : SX11_readSlow 1 = spX11_number := Eq.trans rfl rfl
theorem cutsX11_readSlow {t : Nat} {bs : List Bool} (h : cutX11_readSlow t = some bs) : (t = 38 ∧ bs = [true, true, false]) := by
  unfold cutX11_readSlow at h
  simp only [mLk] at h
  by_cases h0 : 38 = t
  · subst h0
    simp at h
    exact ⟨rfl, h.symm⟩
  rw [if_neg h0] at h
  cases h
set_option maxRecDepth 100000 in
set_option maxHeartbeats 1000000 in
theorem vcX11_readSlow (fl : Nat → Bool) (avs : List mV) (I : mM) (Q : mO → mM → Prop) (hsp : spX11_readSlow fl avs I Q) : mVC SX11_readSlow fl Q kX11_readSlow cutX11_readSlow 3 avs I := by
  obtain ⟨i, rfl, h0⟩ := shR_inv hsp
  obtain ⟨rfl, B, N, a, hT, hK, han, h12, h⟩ := h0
  have t2 := hT.2.1
  refine ⟨rfl, (fun m pc lv st I1 => st = [] ∧ ∃ v : Int, lv = [some (mR (some 200)), some (mI v), none] ∧ mrg v ∧ frG I1 I ∧ ((m = 0 ∧ I1 200 12 ≠ 0 ∧ mrg (I1 200 12) ∧ gdS I1 I B N (slT B N a (I 205))) ∨ (∃ (f : Nat) (x : Int), m = f ∧ I1 200 12 = 0 ∧ tkS I1 B N x ∧ (0 ≤ x ∧ x ≤ N) ∧ N - x < f ∧ slT B N a (I 205) = slL B N v f x (I1 205)))), ?_, ?_⟩
  · intro n t bs hbs lv st I1 hc
    rcases cutsX11_readSlow hbs with ⟨rfl, rfl⟩
    rw [sfxX11_readSlow_38]
    obtain ⟨rfl, v, rfl, rv, hF, hc⟩ := hc
    rcases hc with ⟨hm, hb, rb, hG⟩ | ⟨f, x, hm, hb, hK1, hx, hf, hR⟩
    · have h := h I1 hG
      simp only [false_and, and_false, true_or, or_true, false_or, or_false, true_and, and_true, true_implies, false_implies, implies_true, not_true_eq_false, not_false_eq_true, and_self, List.length_cons, List.length_nil, mNoCut_, mCat_n, mCat_I, mCat_L, mCat_R, mIsL_n, mIsL_I, mIsL_R, mIsL_L, Nat.reduceAdd, Nat.reduceSub, Nat.reduceLeDiff, Nat.reduceLT, Nat.reduceEqDiff, Nat.zero_le, Int.reduceEq, Int.reduceLT, Int.reduceLE, Int.reduceNeg, Int.reduceAdd, if_true, if_false, reduceIte, reduceCtorEq, Bool.false_eq_true, ne_eq, qCmp_0, qCmp_1, qCmp_2, qCmp_3, qCmp_4, qCmp_5, ib_0, ib_1, ib_2, lb_0, lb_1, lb_2, dv_0, dv_1, wq_ic, wq_ld_i, wq_ld_a, wq_st_i, wq_ib, wq_icmp, wq_if, wq_goto, wq_get, mGet_0, mGet_1, mGet_2, mGet_3, wq_astI, wq_astL, wq_ret0, wq_ret1, wq_ret2, wq_ret3, wq_ret4, wq_tx, ldR0, mrg_0_, mrg_20_, wq_callV4_0, stI1, mrg_288_, stI2, fk_11_12, fk_11_5, ldI2, ldI1, fk_11_10, mrg_2_, wq_callV3_0, mPut_s, mPut_I0, mPut_R0, mPut_L0, mPut_I1, mPut_R1, mPut_L1, mGo_n, sfxX11_readSlow_38, cutX11_readSlow_38, sfxX11_readSlow_82, cutX11_readSlow_82, wq_cut, mGo_c, mMask_t, mMask_f, mMask_n, kX11_readSlow_82, kX11_readSlow_38, kX11_readSlow_0, sk_200, al_200, rf_200_5, sk_205, al_205, sn_205, ↓SX11_readSlow_0, ↓SX11_readSlow_1, ↓shqRRII_, ↓shqRII_, ↓spX11_told, ↓spX11_number, mrg, mrl, mSet_ap, ncast, Option.some.injEq]
      (try simp only [mrg, mrl] at *) <;> repeat' (first | (with_reducible assumption) | (with_reducible apply And.intro) | intro _)
      all_goals first | omega | exact h | skip
    · obtain ⟨f', rfl⟩ : ∃ f', f = f' + 1 := ⟨f - 1, by omega⟩
      have k10 := hK1.2.2.1
      have tkb := tk_bd B N x
      by_cases z : tkT B N x = 2
      · have nb := num_bd (B := B) (n := N) (lo := 0) (hi := 288) hx (by decide)
        have hR' : slT B N a (I 205) = if (numT B N 0 288 x).1 ≠ 0 then rdE (numT B N 0 288 x) (I1 205) else slL B N v f' (numT B N 0 288 x).2.2.1 (updS (I1 205) (20 + (numT B N 0 288 x).2.2.2) v) := by rw [hR]; exact if_pos z
        clear hR h
        simp only [false_and, and_false, true_or, or_true, false_or, or_false, true_and, and_true, true_implies, false_implies, implies_true, not_true_eq_false, not_false_eq_true, and_self, List.length_cons, List.length_nil, mNoCut_, mCat_n, mCat_I, mCat_L, mCat_R, mIsL_n, mIsL_I, mIsL_R, mIsL_L, Nat.reduceAdd, Nat.reduceSub, Nat.reduceLeDiff, Nat.reduceLT, Nat.reduceEqDiff, Nat.zero_le, Int.reduceEq, Int.reduceLT, Int.reduceLE, Int.reduceNeg, Int.reduceAdd, if_true, if_false, reduceIte, reduceCtorEq, Bool.false_eq_true, ne_eq, qCmp_0, qCmp_1, qCmp_2, qCmp_3, qCmp_4, qCmp_5, ib_0, ib_1, ib_2, lb_0, lb_1, lb_2, dv_0, dv_1, wq_ic, wq_ld_i, wq_ld_a, wq_st_i, wq_ib, wq_icmp, wq_if, wq_goto, wq_get, mGet_0, mGet_1, mGet_2, mGet_3, wq_astI, wq_astL, wq_ret0, wq_ret1, wq_ret2, wq_ret3, wq_ret4, wq_tx, ldR0, mrg_0_, mrg_20_, wq_callV4_0, stI1, mrg_288_, stI2, fk_11_12, fk_11_5, ldI2, ldI1, fk_11_10, mrg_2_, wq_callV3_0, mPut_s, mPut_I0, mPut_R0, mPut_L0, mPut_I1, mPut_R1, mPut_L1, mGo_n, sfxX11_readSlow_38, cutX11_readSlow_38, sfxX11_readSlow_82, cutX11_readSlow_82, wq_cut, mGo_c, mMask_t, mMask_f, mMask_n, kX11_readSlow_82, kX11_readSlow_38, kX11_readSlow_0, sk_200, al_200, rf_200_5, sk_205, al_205, sn_205, ↓SX11_readSlow_0, ↓SX11_readSlow_1, ↓shqRRII_, ↓shqRII_, ↓spX11_told, ↓spX11_number, mrg, mrl, mSet_ap, ncast, Option.some.injEq, hb, k10, z]
        refine ⟨B, N, x, hT.frg hF, hK1, hx, fun I2 r => ?_⟩
        have e12 := r.2.2.1
        refine ⟨⟨by omega, by omega⟩, fun y => ⟨0, by omega, v, rfl, rv, hF.tr r.1.g, Or.inl ⟨rfl, y, ⟨by omega, by omega⟩, ?_⟩⟩, fun y => ⟨⟨by omega, by omega⟩, f', by omega, v, rfl, rv, (hF.tr r.1.g).set _ _, Or.inr ⟨f', (numT B N 0 288 x).2.2.1, rfl, by omega, r.2.1.set _ _, nb.1, by omega, ?_⟩⟩⟩
        · rw [hR', if_pos (show (numT B N 0 288 x).1 ≠ 0 by omega)]
          exact gdS.of hF r (by omega) _
        · rw [hR', if_neg (show ¬ (numT B N 0 288 x).1 ≠ 0 by omega), set_upd, r.1.1 205 (by decide)]
      · rw [show slL B N v (f' + 1) x (I1 205) = (0, 0, x, I1 205) from if_neg z] at hR
        have h := h I1 (by rw [hR]; exact ⟨hF, hK1, hb, fun w => absurd rfl w, fun _ => rfl⟩)
        simp only [false_and, and_false, true_or, or_true, false_or, or_false, true_and, and_true, true_implies, false_implies, implies_true, not_true_eq_false, not_false_eq_true, and_self, List.length_cons, List.length_nil, mNoCut_, mCat_n, mCat_I, mCat_L, mCat_R, mIsL_n, mIsL_I, mIsL_R, mIsL_L, Nat.reduceAdd, Nat.reduceSub, Nat.reduceLeDiff, Nat.reduceLT, Nat.reduceEqDiff, Nat.zero_le, Int.reduceEq, Int.reduceLT, Int.reduceLE, Int.reduceNeg, Int.reduceAdd, if_true, if_false, reduceIte, reduceCtorEq, Bool.false_eq_true, ne_eq, qCmp_0, qCmp_1, qCmp_2, qCmp_3, qCmp_4, qCmp_5, ib_0, ib_1, ib_2, lb_0, lb_1, lb_2, dv_0, dv_1, wq_ic, wq_ld_i, wq_ld_a, wq_st_i, wq_ib, wq_icmp, wq_if, wq_goto, wq_get, mGet_0, mGet_1, mGet_2, mGet_3, wq_astI, wq_astL, wq_ret0, wq_ret1, wq_ret2, wq_ret3, wq_ret4, wq_tx, ldR0, mrg_0_, mrg_20_, wq_callV4_0, stI1, mrg_288_, stI2, fk_11_12, fk_11_5, ldI2, ldI1, fk_11_10, mrg_2_, wq_callV3_0, mPut_s, mPut_I0, mPut_R0, mPut_L0, mPut_I1, mPut_R1, mPut_L1, mGo_n, sfxX11_readSlow_38, cutX11_readSlow_38, sfxX11_readSlow_82, cutX11_readSlow_82, wq_cut, mGo_c, mMask_t, mMask_f, mMask_n, kX11_readSlow_82, kX11_readSlow_38, kX11_readSlow_0, sk_200, al_200, rf_200_5, sk_205, al_205, sn_205, ↓SX11_readSlow_0, ↓SX11_readSlow_1, ↓shqRRII_, ↓shqRII_, ↓spX11_told, ↓spX11_number, mrg, mrl, mSet_ap, ncast, Option.some.injEq, hb, k10]
        (try simp only [mrg, mrl] at *) <;> repeat' (first | (with_reducible assumption) | (with_reducible apply And.intro) | intro _)
        all_goals first | omega | exact h | skip
  · show mWp _ _ _ _ _ _ kX11_readSlow_0 [some (mR (some 200)), none, none] [] I
    simp only [false_and, and_false, true_or, or_true, false_or, or_false, true_and, and_true, true_implies, false_implies, implies_true, not_true_eq_false, not_false_eq_true, and_self, List.length_cons, List.length_nil, mNoCut_, mCat_n, mCat_I, mCat_L, mCat_R, mIsL_n, mIsL_I, mIsL_R, mIsL_L, Nat.reduceAdd, Nat.reduceSub, Nat.reduceLeDiff, Nat.reduceLT, Nat.reduceEqDiff, Nat.zero_le, Int.reduceEq, Int.reduceLT, Int.reduceLE, Int.reduceNeg, Int.reduceAdd, if_true, if_false, reduceIte, reduceCtorEq, Bool.false_eq_true, ne_eq, qCmp_0, qCmp_1, qCmp_2, qCmp_3, qCmp_4, qCmp_5, ib_0, ib_1, ib_2, lb_0, lb_1, lb_2, dv_0, dv_1, wq_ic, wq_ld_i, wq_ld_a, wq_st_i, wq_ib, wq_icmp, wq_if, wq_goto, wq_get, mGet_0, mGet_1, mGet_2, mGet_3, wq_astI, wq_astL, wq_ret0, wq_ret1, wq_ret2, wq_ret3, wq_ret4, wq_tx, ldR0, mrg_0_, mrg_20_, wq_callV4_0, stI1, mrg_288_, stI2, fk_11_12, fk_11_5, ldI2, ldI1, fk_11_10, mrg_2_, wq_callV3_0, mPut_s, mPut_I0, mPut_R0, mPut_L0, mPut_I1, mPut_R1, mPut_L1, mGo_n, sfxX11_readSlow_38, cutX11_readSlow_38, sfxX11_readSlow_82, cutX11_readSlow_82, wq_cut, mGo_c, mMask_t, mMask_f, mMask_n, kX11_readSlow_82, kX11_readSlow_38, kX11_readSlow_0, sk_200, al_200, rf_200_5, sk_205, al_205, sn_205, ↓SX11_readSlow_0, ↓SX11_readSlow_1, ↓shqRRII_, ↓shqRII_, ↓spX11_told, ↓spX11_number, mrg, mrl, mSet_ap, ncast, Option.some.injEq]
    have b1 := tol_bd (B := B) (n := N) (lo := 0) (hi := 20) (w := 1) han (by decide)
    have sD : slT B N a (I 205) = if (tolT B N 1 0 20 a).1 ≠ 0 then rdE (tolT B N 1 0 20 a) (I 205) else if (tolT B N 7 0 288 (tolT B N 1 0 20 a).2.2.1).1 ≠ 0 then rdE (tolT B N 7 0 288 (tolT B N 1 0 20 a).2.2.1) (I 205) else slL B N (tolT B N 1 0 20 a).2.2.2 802 (tolT B N 7 0 288 (tolT B N 1 0 20 a).2.2.1).2.2.1 (updS (I 205) (20 + (tolT B N 7 0 288 (tolT B N 1 0 20 a).2.2.1).2.2.2) (tolT B N 1 0 20 a).2.2.2) := rfl
    clear h
    refine ⟨1, rfl, by decide, by decide, B, N, a, hT, hK, han, ⟨by omega, by omega⟩, fun w => absurd h12 w, fun _ I1 r1 => ?_⟩
    have e12 := r1.2.2.1
    generalize tolT B N 1 0 20 a = R1 at *
    by_cases z1 : R1.1 = 0
    · rw [if_neg (fun w => w z1)] at sD
      have b2 := tol_bd (B := B) (n := N) (lo := 0) (hi := 288) (w := 7) b1.1 (by decide)
      refine ⟨7, rfl, by decide, by decide, B, N, R1.2.2.1, hT.fr r1.1, r1.2.1, b1.1, ⟨by omega, by omega⟩, fun w => absurd (e12.trans z1) w, fun _ I2 r2 => ?_⟩
      have f12 := r2.2.2.1
      generalize tolT B N 7 0 288 R1.2.2.1 = R2 at *
      have FG : frG I2 I := r1.1.g.tr r2.1.g
      refine ⟨⟨by omega, by omega⟩, fun y => ⟨0, R1.2.2.2, rfl, ⟨by omega, by omega⟩, FG, Or.inl ⟨rfl, y, ⟨by omega, by omega⟩, ?_⟩⟩, fun y => ⟨⟨by omega, by omega⟩, 802, R1.2.2.2, rfl, ⟨by omega, by omega⟩, FG.set _ _, Or.inr ⟨802, R2.2.2.1, rfl, by omega, r2.2.1.set _ _, b2.1, by omega, ?_⟩⟩⟩
      · rw [sD, if_pos (show R2.1 ≠ 0 by omega)]
        exact gdS.of r1.1.g r2 (by omega) _
      · rw [sD, if_neg (show ¬ R2.1 ≠ 0 by omega), set_upd, r2.1.1 205 (by decide), r1.1.1 205 (by decide)]
    · rw [if_pos z1] at sD
      have y : I1 200 12 ≠ 0 := by omega
      refine ⟨7, rfl, by decide, by decide, B, N, R1.2.2.1, hT.fr r1.1, r1.2.1, b1.1, ⟨by omega, by omega⟩, fun _ => ⟨⟨by omega, by omega⟩, fun _ => ⟨0, R1.2.2.2, rfl, ⟨by omega, by omega⟩, r1.1.g, Or.inl ⟨rfl, y, ⟨by omega, by omega⟩, ?_⟩⟩, fun w => absurd y w⟩, fun w => absurd w y⟩
      rw [sD]
      exact gdS.of (frG.refl I) r1 z1 _
theorem ctrX11_readSlow {l : Launch} (hst : l.stackTraces = false) (hT : mTxM l) : mCtr l calX11_readSlow spX11_readSlow :=
  mMet (T := TX11_readSlow) (S := SX11_readSlow) hst hT cutX11_readSlow (by decide) okX11_readSlow ⟨_, _, rfl, rfl⟩ trivial (fun t bs h => by rcases cutsX11_readSlow h with ⟨-, rfl⟩ <;> rfl) (fun a => match a with
    | 0 => ctrX11_told hst hT
    | 1 => ctrX11_number hst hT
    | _ + 2 => mCtr_no) vcX11_readSlow

/-- a HIT of BALL b more: way, pace, air, for -/
def htU (t : Int → Int) (b w p r f : Int) : Int → Int := updS (updS (updS (updS (updS (updS t (310 + 5 * (8 * b + t (13 + b))) w) (310 + 5 * (8 * b + t (13 + b)) + 1) p) (310 + 5 * (8 * b + t (13 + b)) + 2) r) (310 + 5 * (8 * b + t (13 + b)) + 3) f) (310 + 5 * (8 * b + t (13 + b)) + 4) 0) (13 + b) (t (13 + b) + 1)
noncomputable def arT (B : Int → Int) (n a : Int) : rdR := @ite rdR (isW B n 10 a) (Classical.propDecidable _) (tolT B n 10 1 8 a) (0, 0, a, 0)
noncomputable def hiT (B : Int → Int) (n b a : Int) (t : Int → Int) : rdG := @ite rdG (isW B n 8 a ∧ t (13 + b) = 8) (Classical.propDecidable _) (5, bgT B n a, a, t)
  (if (tolT B n 8 0 15 a).1 ≠ 0 then rdE (tolT B n 8 0 15 a) t
  else if (tolT B n 9 1 9 (tolT B n 8 0 15 a).2.2.1).1 ≠ 0 then rdE (tolT B n 9 1 9 (tolT B n 8 0 15 a).2.2.1) t
  else if (arT B n (tolT B n 9 1 9 (tolT B n 8 0 15 a).2.2.1).2.2.1).1 ≠ 0 then rdE (arT B n (tolT B n 9 1 9 (tolT B n 8 0 15 a).2.2.1).2.2.1) t
  else if (tolT B n 11 1 99 (arT B n (tolT B n 9 1 9 (tolT B n 8 0 15 a).2.2.1).2.2.1).2.2.1).1 ≠ 0 then rdE (tolT B n 11 1 99 (arT B n (tolT B n 9 1 9 (tolT B n 8 0 15 a).2.2.1).2.2.1).2.2.1) t
  else (0, 0, (tolT B n 11 1 99 (arT B n (tolT B n 9 1 9 (tolT B n 8 0 15 a).2.2.1).2.2.1).2.2.1).2.2.1, htU t b (tolT B n 8 0 15 a).2.2.2 (tolT B n 9 1 9 (tolT B n 8 0 15 a).2.2.1).2.2.2 (arT B n (tolT B n 9 1 9 (tolT B n 8 0 15 a).2.2.1).2.2.1).2.2.2 (tolT B n 11 1 99 (arT B n (tolT B n 9 1 9 (tolT B n 8 0 15 a).2.2.1).2.2.1).2.2.1).2.2.2))
theorem ht_gd {M I : mM} {B : Int → Int} {N x b : Int} (FG : frG M I) (hk : tkS M B N x) (h12 : M 200 12 = 0) (e205 : M 205 = I 205) (w p r f : Int) : gdS (mSet (mSet (mSet (mSet (mSet (mSet M 205 ((310 + 5 * (8 * b + I 205 (13 + b))) + 0) w) 205 ((310 + 5 * (8 * b + I 205 (13 + b))) + 1) p) 205 ((310 + 5 * (8 * b + I 205 (13 + b))) + 2) r) 205 ((310 + 5 * (8 * b + I 205 (13 + b))) + 3) f) 205 ((310 + 5 * (8 * b + I 205 (13 + b))) + 4) 0) 205 (13 + b) (I 205 (13 + b) + 1)) I B N (0, 0, x, htU (I 205) b w p r f) := by
  refine ⟨(((((FG.set _ _).set _ _).set _ _).set _ _).set _ _).set _ _, (((((hk.set _ _).set _ _).set _ _).set _ _).set _ _).set _ _, ?_, fun e => absurd rfl e, fun _ => ?_⟩
  · rw [set_ne (by decide), set_ne (by decide), set_ne (by decide), set_ne (by decide), set_ne (by decide), set_ne (by decide)]
    exact h12
  · rw [set_upd, set_upd, set_upd, set_upd, set_upd, set_upd, e205, Int.add_zero]
    rfl
def spX11_readHit : mSp := shRI (fun _ i b I Q => i = some 200 ∧ (0 ≤ b ∧ b < 6) ∧ (0 ≤ I 205 (13 + b) ∧ I 205 (13 + b) ≤ 8) ∧ ∃ B n a, tpS I B n ∧ tkS I B n a ∧ (0 ≤ a ∧ a ≤ n) ∧ I 200 12 = 0 ∧ ∀ I' : mM, gdS I' I B n (hiT B n b a (I 205)) → Q (.inl none) I')
def SX11_readHit : Nat → mSp := fun a => match a with
  | 0 => spX11_isWord
  | 1 => spX11_blames
  | 2 => spX11_told
  | _ => fun _ _ _ _ => False
theorem SX11_readHit_0 : SX11_readHit 0 = spX11_isWord := Eq.trans rfl rfl
theorem SX11_readHit_1 : SX11_readHit 1 = spX11_blames := Eq.trans rfl rfl
theorem SX11_readHit_2 : SX11_readHit 2 = spX11_told := Eq.trans rfl rfl
set_option maxRecDepth 100000 in
set_option maxHeartbeats 1000000 in
theorem vcX11_readHit (fl : Nat → Bool) (avs : List mV) (I : mM) (Q : mO → mM → Prop) (hsp : spX11_readHit fl avs I Q) : mVC0 SX11_readHit fl Q kX11_readHit 7 avs I := by
  obtain ⟨i, b, rfl, h0⟩ := shRI_inv hsp
  obtain ⟨rfl, hb, hc8, B, N, a, hT, hK, han, h12, h⟩ := h0
  refine ⟨rfl, ?_⟩
  show mWp _ _ _ _ _ _ kX11_readHit_0 [some (mR (some 200)), some (mI b), none, none, none, none, none] [] I
  have sD : isW B N 8 a ∧ I 205 (13 + b) = 8 → hiT B N b a (I 205) = (5, bgT B N a, a, I 205) := fun w => if_pos w
  have sE : ¬ (isW B N 8 a ∧ I 205 (13 + b) = 8) → hiT B N b a (I 205) = (if (tolT B N 8 0 15 a).1 ≠ 0 then rdE (tolT B N 8 0 15 a) (I 205)
  else if (tolT B N 9 1 9 (tolT B N 8 0 15 a).2.2.1).1 ≠ 0 then rdE (tolT B N 9 1 9 (tolT B N 8 0 15 a).2.2.1) (I 205)
  else if (arT B N (tolT B N 9 1 9 (tolT B N 8 0 15 a).2.2.1).2.2.1).1 ≠ 0 then rdE (arT B N (tolT B N 9 1 9 (tolT B N 8 0 15 a).2.2.1).2.2.1) (I 205)
  else if (tolT B N 11 1 99 (arT B N (tolT B N 9 1 9 (tolT B N 8 0 15 a).2.2.1).2.2.1).2.2.1).1 ≠ 0 then rdE (tolT B N 11 1 99 (arT B N (tolT B N 9 1 9 (tolT B N 8 0 15 a).2.2.1).2.2.1).2.2.1) (I 205)
  else (0, 0, (tolT B N 11 1 99 (arT B N (tolT B N 9 1 9 (tolT B N 8 0 15 a).2.2.1).2.2.1).2.2.1).2.2.1, htU (I 205) b (tolT B N 8 0 15 a).2.2.2 (tolT B N 9 1 9 (tolT B N 8 0 15 a).2.2.1).2.2.2 (arT B N (tolT B N 9 1 9 (tolT B N 8 0 15 a).2.2.1).2.2.1).2.2.2 (tolT B N 11 1 99 (arT B N (tolT B N 9 1 9 (tolT B N 8 0 15 a).2.2.1).2.2.1).2.2.1).2.2.2)) := fun w => if_neg w
  simp only [false_and, and_false, true_or, or_true, false_or, or_false, true_and, and_true, true_implies, false_implies, implies_true, not_true_eq_false, not_false_eq_true, and_self, List.length_cons, List.length_nil, mNoCut_, mCat_n, mCat_I, mCat_L, mCat_R, mIsL_n, mIsL_I, mIsL_R, mIsL_L, Nat.reduceAdd, Nat.reduceSub, Nat.reduceLeDiff, Nat.reduceLT, Nat.reduceEqDiff, Nat.zero_le, Int.reduceEq, Int.reduceLT, Int.reduceLE, Int.reduceNeg, Int.reduceAdd, if_true, if_false, reduceIte, reduceCtorEq, Bool.false_eq_true, ne_eq, qCmp_0, qCmp_1, qCmp_2, qCmp_3, qCmp_4, qCmp_5, ib_0, ib_1, ib_2, lb_0, lb_1, lb_2, dv_0, dv_1, wq_ic, wq_ld_i, wq_ld_a, wq_st_i, wq_ib, wq_icmp, wq_if, wq_goto, wq_get, mGet_0, mGet_1, mGet_2, mGet_3, wq_ald, wq_astI, wq_astL, wq_dup2, dup2_IR, wq_ret0, wq_ret1, wq_ret2, wq_ret3, wq_ret4, wq_tx, ldR0, wq_callV2_0, fk_11_5, mrg_13_, ldI1, mrg_8_, mrg_5_, mrg_0_, mrg_15_, wq_callV4_0, stI2, mrg_1_, mrg_9_, stI3, stI4, mrg_99_, stI5, fk_11_12, mrg_310_, stI6, ldI6, ldI2, ldI3, mrg_2_, ldI4, mrg_3_, ldI5, mrg_4_, mPut_s, mPut_I0, mPut_R0, mPut_L0, mPut_I1, mPut_R1, mPut_L1, mGo_n, sfxX11_readHit_28, cutX11_readHit_28, sfxX11_readHit_69, cutX11_readHit_69, sfxX11_readHit_70, cutX11_readHit_70, sfxX11_readHit_91, cutX11_readHit_91, kX11_readHit_91, kX11_readHit_70, kX11_readHit_69, kX11_readHit_28, kX11_readHit_0, sk_200, al_200, rf_200_5, sk_205, al_205, sn_205, ald_n, ro0_n, al_ro, ↓SX11_readHit_0, ↓SX11_readHit_1, ↓SX11_readHit_2, ↓shqRR_, ↓shqRI_, ↓shqRRII_, ↓spX11_isWord, ↓spX11_blames, ↓spX11_told, mrg, mrl, mSet_ap, ncast, Option.some.injEq]
  refine ⟨8, rfl, by decide, by decide, B, N, a, hT, hK, han, ⟨by omega, by omega⟩, fun hw => ⟨⟨by omega, by omega⟩, ⟨by omega, by omega⟩, fun h8 => ?_, fun h8 => ?_⟩, fun hw => ?_⟩
  · have sE := sE (fun w => h8 w.2)
    have b1 := tol_bd (B := B) (n := N) (lo := 0) (hi := 15) (w := 8) han (by decide)
    refine ⟨8, rfl, by decide, by decide, B, N, a, hT, hK, han, ⟨by omega, by omega⟩, fun w => absurd h12 w, fun _ I1 r1 => ?_⟩
    have e1 := r1.2.2.1
    generalize tolT B N 8 0 15 a = R1 at *
    have T1 := hT.fr r1.1
    by_cases z1 : R1.1 = 0
    · rw [if_neg (fun w => w z1)] at sE
      have b2 := tol_bd (B := B) (n := N) (lo := 1) (hi := 9) (w := 9) b1.1 (by decide)
      refine ⟨9, rfl, by decide, by decide, B, N, _, T1, r1.2.1, b1.1, ⟨by omega, by omega⟩, fun w => absurd (e1.trans z1) w, fun _ I2 r2 => ?_⟩
      have e2 := r2.2.2.1
      generalize tolT B N 9 1 9 R1.2.2.1 = R2 at *
      have T2 := T1.fr r2.1
      have F2 := r1.1.tr r2.1
      by_cases z2 : R2.1 = 0
      · rw [if_neg (fun w => w z2)] at sE
        refine ⟨10, rfl, by decide, by decide, B, N, _, T2, r2.2.1, b2.1, ⟨by omega, by omega⟩, fun w10 => ?_, fun w10 => ?_⟩
        · have eA : arT B N R2.2.2.1 = tolT B N 10 1 8 R2.2.2.1 := if_pos w10.2
          rw [eA] at sE
          have b3 := tol_bd (B := B) (n := N) (lo := 1) (hi := 8) (w := 10) b2.1 (by decide)
          refine ⟨10, rfl, by decide, by decide, B, N, _, T2, r2.2.1, b2.1, ⟨by omega, by omega⟩, fun w => absurd (e2.trans z2) w, fun _ I3 r3 => ?_⟩
          have e3 := r3.2.2.1
          generalize tolT B N 10 1 8 R2.2.2.1 = R3 at *
          have T3 := T2.fr r3.1
          by_cases z3 : R3.1 = 0
          · rw [if_neg (fun w => w z3)] at sE
            have b4 := tol_bd (B := B) (n := N) (lo := 1) (hi := 99) (w := 11) b3.1 (by decide)
            refine ⟨11, rfl, by decide, by decide, B, N, _, T3, r3.2.1, b3.1, ⟨by omega, by omega⟩, fun w => absurd (e3.trans z3) w, fun _ I4 r4 => ?_⟩
            have e4 := r4.2.2.1
            generalize tolT B N 11 1 99 R3.2.2.1 = R4 at *
            have F4 := (F2.tr r3.1).tr r4.1
            by_cases z4 : R4.1 = 0
            · rw [if_neg (fun w => w z4)] at sE
              have e205 := F4.1 205 (by decide)
              simp only [e205]
              rw [if_neg (by omega), if_neg (by omega), if_neg (by omega), if_neg (by omega), if_neg (by omega)]
              have q := h _ (by rw [sE]; exact ht_gd F4.g r4.2.1 (e4.trans z4) e205 _ _ _ _)
              exact ⟨⟨by omega, by omega⟩, fun _ => ⟨⟨by omega, by omega⟩, ⟨by omega, by omega⟩, ⟨by omega, by omega⟩, ⟨by omega, by omega⟩, ⟨by omega, by omega⟩, ⟨by omega, by omega⟩, ⟨by omega, by omega⟩, ⟨by omega, by omega⟩, q⟩, fun w => absurd (e4.trans z4) w⟩
            · rw [if_pos z4] at sE
              have badB : I4 200 12 ≠ 0 := by omega
              have rngB : -2147483648 ≤ I4 200 12 ∧ I4 200 12 < 2147483648 := ⟨by omega, by omega⟩
              refine ⟨rngB, fun w => absurd w badB, fun _ => h I4 ?_⟩
              rw [sE]
              exact gdS.of (F2.tr r3.1).g r4 z4 _
          · rw [if_pos z3] at sE
            have badB : I3 200 12 ≠ 0 := by omega
            have rngB : -2147483648 ≤ I3 200 12 ∧ I3 200 12 < 2147483648 := ⟨by omega, by omega⟩
            refine ⟨11, rfl, by decide, by decide, B, N, _, T3, r3.2.1, b3.1, rngB, fun _ => ?_, fun w => absurd w badB⟩
            refine ⟨rngB, fun w => absurd w badB, fun _ => ?_⟩
            refine h I3 ?_
            rw [sE]
            exact gdS.of F2.g r3 z3 _
        · have eA : arT B N R2.2.2.1 = (0, 0, R2.2.2.1, 0) := if_neg (fun w => w10 ⟨e2.trans z2, w⟩)
          rw [eA, if_neg (show ¬ ((0 : Int) ≠ 0) by decide)] at sE
          have b4 := tol_bd (B := B) (n := N) (lo := 1) (hi := 99) (w := 11) b2.1 (by decide)
          refine ⟨11, rfl, by decide, by decide, B, N, _, T2, r2.2.1, b2.1, ⟨by omega, by omega⟩, fun w => absurd (e2.trans z2) w, fun _ I4 r4 => ?_⟩
          have e4 := r4.2.2.1
          generalize tolT B N 11 1 99 R2.2.2.1 = R4 at *
          have F4 := (F2).tr r4.1
          by_cases z4 : R4.1 = 0
          · rw [if_neg (fun w => w z4)] at sE
            have e205 := F4.1 205 (by decide)
            simp only [e205]
            rw [if_neg (by omega), if_neg (by omega), if_neg (by omega), if_neg (by omega), if_neg (by omega)]
            have q := h _ (by rw [sE]; exact ht_gd F4.g r4.2.1 (e4.trans z4) e205 _ _ _ _)
            exact ⟨⟨by omega, by omega⟩, fun _ => ⟨⟨by omega, by omega⟩, ⟨by omega, by omega⟩, ⟨by omega, by omega⟩, ⟨by omega, by omega⟩, ⟨by omega, by omega⟩, ⟨by omega, by omega⟩, ⟨by omega, by omega⟩, ⟨by omega, by omega⟩, q⟩, fun w => absurd (e4.trans z4) w⟩
          · rw [if_pos z4] at sE
            have badB : I4 200 12 ≠ 0 := by omega
            have rngB : -2147483648 ≤ I4 200 12 ∧ I4 200 12 < 2147483648 := ⟨by omega, by omega⟩
            refine ⟨rngB, fun w => absurd w badB, fun _ => h I4 ?_⟩
            rw [sE]
            exact gdS.of (F2).g r4 z4 _
      · rw [if_pos z2] at sE
        have badB : I2 200 12 ≠ 0 := by omega
        have rngB : -2147483648 ≤ I2 200 12 ∧ I2 200 12 < 2147483648 := ⟨by omega, by omega⟩
        refine ⟨10, rfl, by decide, by decide, B, N, _, T2, r2.2.1, b2.1, rngB, fun w => absurd w.1 badB, fun _ => ?_⟩
        refine ⟨11, rfl, by decide, by decide, B, N, _, T2, r2.2.1, b2.1, rngB, fun _ => ?_, fun w => absurd w badB⟩
        refine ⟨rngB, fun w => absurd w badB, fun _ => ?_⟩
        refine h I2 ?_
        rw [sE]
        exact gdS.of r1.1.g r2 z2 _
    · rw [if_pos z1] at sE
      have badB : I1 200 12 ≠ 0 := by omega
      have rngB : -2147483648 ≤ I1 200 12 ∧ I1 200 12 < 2147483648 := ⟨by omega, by omega⟩
      refine ⟨9, rfl, by decide, by decide, B, N, _, T1, r1.2.1, b1.1, rngB, fun _ => ?_, fun w => absurd w badB⟩
      refine ⟨10, rfl, by decide, by decide, B, N, _, T1, r1.2.1, b1.1, rngB, fun w => absurd w.1 badB, fun _ => ?_⟩
      refine ⟨11, rfl, by decide, by decide, B, N, _, T1, r1.2.1, b1.1, rngB, fun _ => ?_, fun w => absurd w badB⟩
      refine ⟨rngB, fun w => absurd w badB, fun _ => ?_⟩
      refine h I1 ?_
      rw [sE]
      exact gdS.of (frG.refl I) r1 z1 _
  · have c8 : I 205 (13 + b) = 8 := by omega
    have sD := sD ⟨hw.2, c8⟩
    have k10 : I 200 10 = 1 := by rw [hK.2.2.1]; exact hw.2.1
    have hM : Q (.inl none) (mSet (mSet I 200 12 5) 200 13 (I 200 9)) := by
      refine h _ ?_
      rw [sD]
      have q := rdS.bad hK 5
      rw [k10] at q
      exact ⟨q.1.g, q.2.1, by rw [set_nq (by decide), set_eq], fun _ => by rw [set_eq]; exact hK.2.1, fun w => absurd w (show ¬ (5 : Int) = 0 by decide)⟩
    have tkB : tkS (mSet (mSet I 200 12 5) 200 13 (I 200 9)) B N a := hK.bad _ _
    have tpB : tpS (mSet (mSet I 200 12 5) 200 13 (I 200 9)) B N := hT.fr ⟨fun i hi => by rw [set_ne hi, set_ne hi], fun p hp => by rw [set_nq (by omega), set_nq (by omega)]⟩
    rw [k10]
    refine ⟨⟨by omega, by omega⟩, ⟨by decide, by decide⟩, fun w => absurd h12 w, fun _ => ?_⟩
    rw [if_neg (show ¬ (1 : Int) = 4 by decide)]
    have badB : (5 : Int) ≠ 0 := by decide
    have rngB : -2147483648 ≤ (5 : Int) ∧ (5 : Int) < 2147483648 := by decide
    refine ⟨8, rfl, by decide, by decide, B, N, _, tpB, tkB, han, rngB, fun _ => ?_, fun w => absurd w badB⟩
    refine ⟨9, rfl, by decide, by decide, B, N, _, tpB, tkB, han, rngB, fun _ => ?_, fun w => absurd w badB⟩
    refine ⟨10, rfl, by decide, by decide, B, N, _, tpB, tkB, han, rngB, fun w => absurd w.1 badB, fun _ => ?_⟩
    refine ⟨11, rfl, by decide, by decide, B, N, _, tpB, tkB, han, rngB, fun _ => ?_, fun w => absurd w badB⟩
    exact ⟨rngB, fun w => absurd w badB, fun _ => hM⟩
  · have sE := sE (fun w => hw ⟨h12, w.1⟩)
    have b1 := tol_bd (B := B) (n := N) (lo := 0) (hi := 15) (w := 8) han (by decide)
    refine ⟨8, rfl, by decide, by decide, B, N, a, hT, hK, han, ⟨by omega, by omega⟩, fun w => absurd h12 w, fun _ I1 r1 => ?_⟩
    have e1 := r1.2.2.1
    have eR : (tolT B N 8 0 15 a).1 ≠ 0 := by
      rw [show tolT B N 8 0 15 a = erT B N 2 a 0 from if_neg (fun w => hw ⟨h12, w⟩)]
      unfold erT
      dsimp only
      split <;> omega
    generalize tolT B N 8 0 15 a = R1 at *
    have T1 := hT.fr r1.1
    by_cases z1 : R1.1 = 0
    · exact absurd z1 eR
    · rw [if_pos z1] at sE
      have badB : I1 200 12 ≠ 0 := by omega
      have rngB : -2147483648 ≤ I1 200 12 ∧ I1 200 12 < 2147483648 := ⟨by omega, by omega⟩
      refine ⟨9, rfl, by decide, by decide, B, N, _, T1, r1.2.1, b1.1, rngB, fun _ => ?_, fun w => absurd w badB⟩
      refine ⟨10, rfl, by decide, by decide, B, N, _, T1, r1.2.1, b1.1, rngB, fun w => absurd w.1 badB, fun _ => ?_⟩
      refine ⟨11, rfl, by decide, by decide, B, N, _, T1, r1.2.1, b1.1, rngB, fun _ => ?_, fun w => absurd w badB⟩
      refine ⟨rngB, fun w => absurd w badB, fun _ => ?_⟩
      refine h I1 ?_
      rw [sE]
      exact gdS.of (frG.refl I) r1 z1 _
theorem ctrX11_readHit {l : Launch} (hst : l.stackTraces = false) (hT : mTxM l) : mCtr l calX11_readHit spX11_readHit :=
  mMet0 (T := TX11_readHit) (S := SX11_readHit) hst hT (by decide) okX11_readHit ⟨_, _, rfl, rfl⟩ (fun a => match a with
    | 0 => ctrX11_isWord hst hT
    | 1 => ctrX11_blames hst hT
    | 2 => ctrX11_told hst hT
    | _ + 3 => mCtr_no) vcX11_readHit

end SPM26
