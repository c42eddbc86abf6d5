section SPC33
def spX10_rest : mSp := shRIIII (fun _ i a b c w I Q => i = some 0 ∧ clsI I ∧ mrg a ∧ mrg b ∧ mrg c ∧ mrg w ∧ (¬ (wayP a ∧ wayP b ∧ ballP c) → Q (.inr (mEx 0)) I) ∧ (wayP a ∧ wayP b ∧ ballP c → ¬ (0 ≤ w ∧ w ≤ 1) → Q (.inr (mEx 1)) I) ∧ (wayP a ∧ wayP b ∧ ballP c → (0 ≤ w ∧ w ≤ 1) → ¬ (keptP (I 201) a ∧ keptP (I 201) b) → Q (.inr (mEx 2)) I) ∧ (wayP a ∧ wayP b ∧ ballP c → (0 ≤ w ∧ w ≤ 1) → (keptP (I 201) a ∧ keptP (I 201) b) → I 201 (13 + c) = 0 → ∀ I', cPost I I' 0 0 → Q (.inl (some (mI 0))) I') ∧ (wayP a ∧ wayP b ∧ ballP c → (keptP (I 201) a ∧ keptP (I 201) b) → ¬ I 201 (13 + c) = 0 → w = 0 → ∀ I', cPost I I' (upT (restT (I 201) a b c).1 (restT (I 201) a b c).2.1) (loT (restT (I 201) a b c).1 (restT (I 201) a b c).2.1) → Q (.inl (some (mI 1))) I') ∧ (wayP a ∧ wayP b ∧ ballP c → (keptP (I 201) a ∧ keptP (I 201) b) → ¬ I 201 (13 + c) = 0 → w = 1 → ∀ I', cPost I I' (upT (restT (I 201) a b c).2.2 (100 * (restT (I 201) a b c).2.1)) (loT (restT (I 201) a b c).2.2 (100 * (restT (I 201) a b c).2.1)) → Q (.inl (some (mI 1))) I'))
def SX10_rest : Nat → mSp := fun a => match a with
  | 0 => spX10_needWay
  | 1 => spX10_needBall
  | 2 => spX10_needNumber
  | 3 => spX10_needKept
  | 4 => spX10_lay
  | 5 => spX6_standAs
  | 6 => spX9_costsInto
  | 7 => spX4_solve
  | 8 => spX10_tell
  | _ => fun _ _ _ _ => False
theorem SX10_rest_0 : SX10_rest 0 = spX10_needWay := Eq.trans rfl rfl
theorem SX10_rest_1 : SX10_rest 1 = spX10_needBall := Eq.trans rfl rfl
theorem SX10_rest_2 : SX10_rest 2 = spX10_needNumber := Eq.trans rfl rfl
theorem SX10_rest_3 : SX10_rest 3 = spX10_needKept := Eq.trans rfl rfl
theorem SX10_rest_4 : SX10_rest 4 = spX10_lay := Eq.trans rfl rfl
theorem SX10_rest_5 : SX10_rest 5 = spX6_standAs := Eq.trans rfl rfl
theorem SX10_rest_6 : SX10_rest 6 = spX9_costsInto := Eq.trans rfl rfl
theorem SX10_rest_7 : SX10_rest 7 = spX4_solve := Eq.trans rfl rfl
theorem SX10_rest_8 : SX10_rest 8 = spX10_tell := Eq.trans rfl rfl
set_option maxRecDepth 100000 in
set_option maxHeartbeats 4000000 in
theorem vcX10_rest (fl : Nat → Bool) (avs : List mV) (I : mM) (Q : mO → mM → Prop) (hsp : spX10_rest fl avs I Q) : mVC0 SX10_rest fl Q kX10_rest 5 avs I := by
  obtain ⟨i, a, b, c, w, rfl, h0⟩ := shRIIII_inv hsp
  refine ⟨rfl, ?_⟩
  show mWp _ _ _ _ _ _ kX10_rest_0 [some (mR i), some (mI a), some (mI b), some (mI c), some (mI w)] [] I
  obtain ⟨rfl, H, ra, rb, rc, rw', h1, h2, h3, h4, h5, h6⟩ := h0
  simp only [false_and, and_false, true_or, or_true, false_or, or_false, true_and, and_true, true_implies, false_implies, implies_true, not_true_eq_false, not_false_eq_true, and_self, List.length_cons, List.length_nil, mNoCut_, mCat_n, mCat_I, mCat_L, mCat_R, mIsL_n, mIsL_I, mIsL_R, mIsL_L, Nat.reduceAdd, Nat.reduceSub, Nat.reduceLeDiff, Nat.reduceLT, Nat.reduceEqDiff, Nat.zero_le, Int.reduceEq, Int.reduceLT, Int.reduceLE, Int.reduceNeg, Int.reduceAdd, if_true, if_false, reduceIte, reduceCtorEq, Bool.false_eq_true, ne_eq, qCmp_0, qCmp_1, qCmp_2, qCmp_3, qCmp_4, qCmp_5, ib_0, ib_1, ib_2, lb_0, lb_1, lb_2, dv_0, dv_1, wq_ic, wq_lc, wq_ld_i, wq_ld_a, wq_lb, wq_if, wq_goto, wq_get, mGet_0, mGet_1, mGet_2, mGet_3, wq_ret0, wq_ret1, wq_ret2, wq_ret3, wq_ret4, ldI1, wq_callS1_1, ldI2, ldI3, ldI4, mrg_0_, mrg_1_, wq_callS3_1, ldR0, wq_callV2_0, fk_10_0, fk_7_1, fk_10_8, wq_callV3_0, fk_10_5, fk_10_7, fk_4_0, fk_4_1, fk_10_4, fk_0_0, fk_4_3, fk_4_4, fk_4_5, mGo_n, sfxX10_rest_140, cutX10_rest_140, sfxX10_rest_162, cutX10_rest_162, kX10_rest_162, kX10_rest_140, kX10_rest_0, sk_120, al_120, sk_0, al_0, rf_0_0, sk_10, al_10, rf_0_8, sk_3, al_3, sn_3, rf_0_5, sk_130, al_130, rf_0_7, sk_160, al_160, rf_0_4, rf_160_0, sk_161, al_161, sn_161, rf_160_1, sk_162, al_162, sn_162, rf_10_1, sk_12, al_12, ↓SX10_rest_0, ↓SX10_rest_1, ↓SX10_rest_2, ↓SX10_rest_3, ↓SX10_rest_4, ↓SX10_rest_5, ↓SX10_rest_6, ↓SX10_rest_7, ↓SX10_rest_8, ↓shqI_, ↓shqIII_, ↓shqRI_, ↓shqRIR_, ↓shqRRR_, ↓shqRLL_, ↓spX10_needWay, ↓spX10_needBall, ↓spX10_needNumber, ↓spX10_needKept, ↓spX10_lay, ↓spX6_standAs, ↓spX9_costsInto, ↓spX4_solve, ↓spX10_tell, mrg, mrl, mSet_ap, ncast, Option.some.injEq, Option.getD_some]
  refine ⟨ra, fun ka => ⟨rb, fun kb => ⟨rc, fun kc => ⟨rw', fun kw => ⟨H, ka, fun kea => ⟨H, kb, fun keb => ⟨H, kc, fun J hJ => ?_⟩, fun z => h3 ⟨ka, kb, kc⟩ kw (fun w => z w.2)⟩, fun z => h3 ⟨ka, kb, kc⟩ kw (fun w => z w.1)⟩, fun z => h2 ⟨ka, kb, kc⟩ z⟩, fun z => h1 (fun w => z w.2.2)⟩, fun z => h1 (fun w => z w.2.1)⟩, fun z => h1 (fun w => z w.1)⟩
  have h4 := h4 ⟨ka, kb, kc⟩ kw ⟨kea, keb⟩
  have h5 := h5 ⟨ka, kb, kc⟩ ⟨kea, keb⟩
  have h6 := h6 ⟨ka, kb, kc⟩ ⟨kea, keb⟩
  clear h1 h2 h3
  have hn := H.1.2.1 c kc.1 kc.2
  have qa := H.kept ka kea
  have qb := H.kept kb keb
  have ba : stB (keptS (I 201) a) := H.1.kept ka
  have bb : stB (keptS (I 201) b) := H.1.kept kb
  have e25 : fr 120 127 J I 25 = I 25 := fr_ne (by decide)
  have m1 : ∀ f : Int, 0 ≤ f → f < 9 → mCpy (fr 120 127 J I) 25 3 (a * 9) 0 9 3 f = keptS (I 201) a f := fun f f0 f1 => by
    rw [mCpy_at _ _ _ _ ⟨by omega, by omega⟩, e25, show a * 9 + (f - 0) = 9 * a + f by omega]
    exact qa f f0 f1
  have HC := H.ctx kc hJ
  refine ⟨ka, fun f f0 f1 => by rw [m1 f f0 f1]; exact ba f f0 f1, I 201, c, ctxU_of (fun i hi => mCpy_ne _ _ _ _ (by omega)) HC, fun I1 f1 g1 => ?_⟩
  have e25' : I1 25 = I 25 := by rw [f1 25 (by decide) (by decide), mCpy_ne _ _ _ _ (by decide), e25]
  have m2 : ∀ f : Int, 0 ≤ f → f < 9 → mCpy I1 25 3 (b * 9) 0 9 3 f = keptS (I 201) b f := fun f f0 f1 => by
    rw [mCpy_at _ _ _ _ ⟨by omega, by omega⟩, e25', show b * 9 + (f - 0) = 9 * b + f by omega]
    exact qb f f0 f1
  refine ⟨kb, fun f f0 f1 => by rw [m2 f f0 f1]; exact bb f f0 f1, I 201, c, ctxU_of (fun i hi => by rw [mCpy_ne _ _ _ _ (by omega), f1 i (by omega) (by omega), mCpy_ne _ _ _ _ (by omega)]) HC, fun I2 f2 g2 => ?_⟩
  have n120 : I2 120 0 = I 201 (13 + c) := by
    rw [f2 120 (by decide) (by decide), mCpy_ne _ _ _ _ (by decide), f1 120 (by decide) (by decide), mCpy_ne _ _ _ _ (by decide)]
    exact HC.2.2.1.1
  have c1 : ∀ h : Int, 0 ≤ h → h < I 201 (13 + c) → I2 161 h = cstS (I 201) a c h := fun h h0 h1 => by
    rw [f2 161 (by decide) (by decide), mCpy_ne _ _ _ _ (by decide), g1 h h0 h1, ← coS_eq H.1 _ kc ⟨h0, by omega⟩, stR_cong _ m1]
    rfl
  have c2 : ∀ h : Int, 0 ≤ h → h < I 201 (13 + c) → I2 162 h = cstS (I 201) b c h := fun h h0 h1 => by
    rw [g2 h h0 h1, ← coS_eq H.1 _ kc ⟨h0, by omega⟩, stR_cong _ m2]
    rfl
  rw [n120]
  have hcc : ∀ g : Int, 0 ≤ g → g < (I 201 (13 + c)).toNat → cstP (cstS (I 201) a c g) ∧ cstP (cstS (I 201) b c g) := fun g g0 g1 => by
    have q1 := cstS_bd H.1 (h := g) ka kc ⟨g0, by omega⟩
    have q2 := cstS_bd H.1 (h := g) kb kc ⟨g0, by omega⟩
    omega
  have rb := restOut_bd hcc (I 201 (13 + c)).toNat (Nat.le_refl _)
  have rc : restOut (I2 161) (I2 162) (I 201 (13 + c)).toNat (I 201 (13 + c)).toNat = restT (I 201) a b c := restOut_cong (fun g g0 g1 => ⟨c1 g g0 (by omega), c2 g g0 (by omega)⟩) _ (Nat.le_refl _)
  refine ⟨⟨by omega, by omega⟩, fun h h0 h1 => by rw [c1 h h0 h1, c2 h h0 h1]; exact hcc h h0 (by omega), fun I3 f3 z1 z2 => ?_⟩
  rw [rc] at z2
  have fI : ∀ i, ¬ ((3 ≤ i ∧ i ≤ 7) ∨ (120 ≤ i ∧ i ≤ 163)) → I3 i = I i := fun i hi => by
    rw [f3 i (by omega), f2 i (by omega) (by omega), mCpy_ne _ _ _ _ (by omega), f1 i (by omega) (by omega), mCpy_ne _ _ _ _ (by omega), fr_ne (by omega)]
  have tb : triP (restT (I 201) a b c) ∧ 1 ≤ (restT (I 201) a b c).2.1 := rb
  have P0 : cPost I I3 (I 0 13) (I 0 14) := ⟨fun i _ h2 => fI i h2, by rw [fI 0 (by decide)], by rw [fI 0 (by decide)]⟩
  have Pf := fun x y => P0.frac x y
  by_cases hz : I 201 (13 + c) = 0
  · obtain ⟨y3, y4, y5⟩ := z1 hz
    have h4 := h4 hz _ (Pf 0 0)
    rw [y3, y4, y5]
    exact ⟨rw', fun _ => ⟨⟨by decide, by decide⟩, ⟨by decide, by decide⟩, fun _ => h4, fun q => absurd rfl q⟩, fun _ => ⟨⟨by decide, by decide⟩, ⟨by decide, by decide⟩, fun _ => h4, fun q => absurd rfl q⟩⟩
  · have z2 := z2 hz
    have y3 : I3 160 3 = (restT (I 201) a b c).1 := congrArg (fun p => p.1) z2
    have y4 : I3 160 4 = (restT (I 201) a b c).2.1 := congrArg (fun p => p.2.1) z2
    have y5 : I3 160 5 = (restT (I 201) a b c).2.2 := congrArg (fun p => p.2.2) z2
    have h5 := fun w0 => h5 hz w0 _ (Pf _ _)
    have h6 := fun w0 => h6 hz w0 _ (Pf _ _)
    rw [y3, y4, y5]
    clear z2 y3 y4 y5 rb rc
    obtain ⟨⟨t1, t2, t3⟩, t4⟩ := tb
    exact ⟨rw', fun q => ⟨⟨by omega, by omega⟩, ⟨by omega, by omega⟩, fun y => by omega, fun _ => h6 (by omega)⟩, fun q => ⟨⟨by omega, by omega⟩, ⟨by omega, by omega⟩, fun y => by omega, fun _ => h5 (by omega)⟩⟩
theorem ctrX10_rest {l : Launch} (hst : l.stackTraces = false) (hT : mTxM l) : mCtr l calX10_rest spX10_rest :=
  mMet0 (T := TX10_rest) (S := SX10_rest) hst hT (by decide) okX10_rest ⟨_, _, rfl, rfl⟩ (fun a => match a with
    | 0 => ctrX10_needWay hst hT
    | 1 => ctrX10_needBall hst hT
    | 2 => ctrX10_needNumber hst hT
    | 3 => ctrX10_needKept hst hT
    | 4 => ctrX10_lay hst hT
    | 5 => ctrX6_standAs hst hT
    | 6 => ctrX9_costsInto hst hT
    | 7 => ctrX4_solve hst hT
    | 8 => ctrX10_tell hst hT
    | _ + 9 => mCtr_no) vcX10_rest

end SPC33
