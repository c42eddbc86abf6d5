section SPM28
noncomputable def whT (B : Int → Int) (n a : Int) : Int := @ite Int (isW B n 2 a) (Classical.propDecidable _) 0 (@ite Int (isW B n 3 a) (Classical.propDecidable _) 1 (@ite Int (isW B n 4 a) (Classical.propDecidable _) 2 (@ite Int (isW B n 5 a) (Classical.propDecidable _) 3 (@ite Int (isW B n 6 a) (Classical.propDecidable _) 4 (@ite Int (isW B n 1 a) (Classical.propDecidable _) 5 (@ite Int (isW B n 0 a) (Classical.propDecidable _) 6 (-1)))))))
def lowT (w : Int) : Int := if w = 0 then 2 else if w = 1 then 1 else 0
def topT (w : Int) : Int := if w = 0 ∨ w = 4 then 8 else if w = 1 then 60 else if w = 2 then 99 else 9
def seT (B : Int → Int) (n w a : Int) (t : Int → Int) : rdG := if (numT B n (lowT w) (topT w) a).1 ≠ 0 then rdE (numT B n (lowT w) (topT w) a) t else (0, 0, (numT B n (lowT w) (topT w) a).2.2.1, updS t (1 + w) (numT B n (lowT w) (topT w) a).2.2.2)
/-- what stands behind the word of a line -/
noncomputable def inT (B : Int → Int) (n a : Int) (t : Int → Int) : rdG := if whT B n a = 5 then slT B n a t else if whT B n a = 6 then baT B n a t else seT B n (whT B n a) (enT B n a) t
/-- the sign behind a line -/
def sgT (B : Int → Int) (n : Int) (g : rdG) : rdG := if g.1 ≠ 0 then g else if tkT B n g.2.2.1 ≠ 3 then rdE (erT B n 2 g.2.2.1 0) g.2.2.2 else (0, 0, enT B n g.2.2.1, updS g.2.2.2 0 (g.2.2.2 0 + 1))
noncomputable def liT (B : Int → Int) (n a : Int) (t : Int → Int) : rdG := if whT B n a = -1 then rdE (erT B n 2 a 0) t else if t 0 = 30 then (4, bgT B n a, a, t) else sgT B n (inT B n a t)
def spX11_readLine : mSp := shR (fun _ i I Q => i = some 200 ∧ cnP (I 205) ∧ (0 ≤ I 205 0 ∧ I 205 0 ≤ 30) ∧ ∃ B n a, tpS I B n ∧ tkS I B n a ∧ (0 ≤ a ∧ a ≤ n) ∧ I 200 12 = 0 ∧ ∀ I' : mM, gdS I' I B n (liT B n a (I 205)) → Q (.inl none) I')
def SX11_readLine : Nat → mSp := fun a => match a with
  | 0 => spX11_isWord
  | 1 => spX11_blames
  | 2 => spX11_readSlow
  | 3 => spX11_readBall
  | 4 => spX11_reads
  | 5 => spX11_number
  | _ => fun _ _ _ _ => False
theorem SX11_readLine_0 : SX11_readLine 0 = spX11_isWord := Eq.trans rfl rfl
theorem SX11_readLine_1 : SX11_readLine 1 = spX11_blames := Eq.trans rfl rfl
theorem SX11_readLine_2 : SX11_readLine 2 = spX11_readSlow := Eq.trans rfl rfl
theorem SX11_readLine_3 : SX11_readLine 3 = spX11_readBall := Eq.trans rfl rfl
theorem SX11_readLine_4 : SX11_readLine 4 = spX11_reads := Eq.trans rfl rfl
theorem SX11_readLine_5 : SX11_readLine 5 = spX11_number := Eq.trans rfl rfl
set_option maxRecDepth 100000 in
set_option maxHeartbeats 1000000 in
theorem vcX11_readLine (fl : Nat → Bool) (avs : List mV) (I : mM) (Q : mO → mM → Prop) (hsp : spX11_readLine fl avs I Q) : mVC0 SX11_readLine fl Q kX11_readLine 2 avs I := by
  obtain ⟨i, rfl, h0⟩ := shR_inv hsp
  obtain ⟨rfl, hcn, h30, B, N, a, hT, hK, han, h12, h⟩ := h0
  refine ⟨rfl, ?_⟩
  show mWp _ _ _ _ _ _ kX11_readLine_0 [some (mR (some 200)), none] [] I
  have k8 := hK.1
  have k10 := hK.2.2.1
  have k11 := hK.2.2.2.2
  have tkb := tk_bd B N a
  have eb := en_bd B han.2
  have bb := bg_bd B han.2
  have r226 : ∀ (m : Nat), 15 ≤ m → ∀ (c : Int) (I1 : mM) (g : rdG), gdS I1 I B N g → (0 ≤ g.2.2.1 ∧ g.2.2.1 ≤ N) → (0 ≤ g.1 ∧ g.1 ≤ 5) → (∀ I' : mM, gdS I' I B N (sgT B N g) → Q (.inl none) I') → mWp SX11_readLine (mGo SX11_readLine Q (fun E _ I => Q (.inr E) I) fl mRo0 kX11_readLine mNoCut (fun _ _ _ _ => False) m) Q (fun E _ I => Q (.inr E) I) fl mRo0 kX11_readLine_226 [some (mR (some 200)), some (mI c)] [] I1 := fun m hm c I1 g hG hx hk hq => by
    have p0 : 0 < m := by omega
    have p1 : 0 < m - 1 := by omega
    have p2 : 0 < m - 1 - 1 := by omega
    have p3 : 0 < m - 1 - 1 - 1 := by omega
    have p4 : 0 < m - 1 - 1 - 1 - 1 := by omega
    have p5 : 0 < m - 1 - 1 - 1 - 1 - 1 := by omega
    have p6 : 0 < m - 1 - 1 - 1 - 1 - 1 - 1 := by omega
    have p7 : 0 < m - 1 - 1 - 1 - 1 - 1 - 1 - 1 := by omega
    have p8 : 0 < m - 1 - 1 - 1 - 1 - 1 - 1 - 1 - 1 := by omega
    have e12 := hG.2.2.1
    have tg := tk_bd B N g.2.2.1
    have eg := en_bd B hx.2
    have bg := bg_bd B hx.2
    have T1 := hT.frg hG.1
    have e10 := hG.2.1.2.2.1
    by_cases z : g.1 = 0
    · have e0 : I1 200 12 = 0 := e12.trans z
      by_cases z3 : tkT B N g.2.2.1 = 3
      · have hq := fun I' => hq I'
        rw [show sgT B N g = (0, 0, enT B N g.2.2.1, updS g.2.2.2 0 (g.2.2.2 0 + 1)) from by unfold sgT; rw [if_neg (fun w => w z), if_neg (fun w => w z3)]] at hq
        simp only [false_and, and_false, true_or, or_true, false_or, or_false, true_and, and_true, true_implies, false_implies, implies_true, not_true_eq_false, not_false_eq_true, and_self, List.length_cons, List.length_nil, mNoCut_, mCat_n, mCat_I, mCat_L, mCat_R, mIsL_n, mIsL_I, mIsL_R, mIsL_L, Nat.reduceAdd, Nat.reduceSub, Nat.reduceLeDiff, Nat.reduceLT, Nat.reduceEqDiff, Nat.zero_le, Int.reduceEq, Int.reduceLT, Int.reduceLE, Int.reduceNeg, Int.reduceAdd, if_true, if_false, reduceIte, reduceCtorEq, Bool.false_eq_true, ne_eq, qCmp_0, qCmp_1, qCmp_2, qCmp_3, qCmp_4, qCmp_5, ib_0, ib_1, ib_2, lb_0, lb_1, lb_2, dv_0, dv_1, wq_ic, wq_ld_i, wq_ld_a, wq_st_i, wq_ib, wq_icmp, wq_if, wq_goto, wq_get, mGet_0, mGet_1, mGet_2, mGet_3, wq_ald, wq_astI, wq_astL, wq_dup2, dup2_IR, wq_ret0, wq_ret1, wq_ret2, wq_ret3, wq_ret4, wq_tx, ldR0, wq_callV2_0, mrg_0_, mrg_1_, mrg_2_, mrg_3_, mrg_4_, mrg_5_, mrg_6_, mrg_m1_, stI1, ldI1, fk_11_5, mrg_30_, fk_11_12, wq_callV1_0, mrg_8_, mrg_60_, mrg_99_, mrg_9_, wq_callV3_0, fk_11_10, mPut_s, mPut_I0, mPut_R0, mPut_L0, mPut_I1, mPut_R1, mPut_L1, mGo_n, sfxX11_readLine_13, cutX11_readLine_13, sfxX11_readLine_26, cutX11_readLine_26, sfxX11_readLine_39, cutX11_readLine_39, sfxX11_readLine_52, cutX11_readLine_52, sfxX11_readLine_65, cutX11_readLine_65, sfxX11_readLine_78, cutX11_readLine_78, sfxX11_readLine_92, cutX11_readLine_92, sfxX11_readLine_93, cutX11_readLine_93, sfxX11_readLine_107, cutX11_readLine_107, sfxX11_readLine_123, cutX11_readLine_123, sfxX11_readLine_131, cutX11_readLine_131, sfxX11_readLine_143, cutX11_readLine_143, sfxX11_readLine_156, cutX11_readLine_156, sfxX11_readLine_176, cutX11_readLine_176, sfxX11_readLine_185, cutX11_readLine_185, sfxX11_readLine_186, cutX11_readLine_186, sfxX11_readLine_195, cutX11_readLine_195, sfxX11_readLine_200, cutX11_readLine_200, sfxX11_readLine_210, cutX11_readLine_210, sfxX11_readLine_220, cutX11_readLine_220, sfxX11_readLine_222, cutX11_readLine_222, sfxX11_readLine_226, cutX11_readLine_226, sfxX11_readLine_239, cutX11_readLine_239, sfxX11_readLine_247, cutX11_readLine_247, kX11_readLine_247, kX11_readLine_239, kX11_readLine_226, kX11_readLine_222, kX11_readLine_220, kX11_readLine_210, kX11_readLine_200, kX11_readLine_195, kX11_readLine_186, kX11_readLine_185, kX11_readLine_176, kX11_readLine_156, kX11_readLine_143, kX11_readLine_131, kX11_readLine_123, kX11_readLine_107, kX11_readLine_93, kX11_readLine_92, kX11_readLine_78, kX11_readLine_65, kX11_readLine_52, kX11_readLine_39, kX11_readLine_26, kX11_readLine_13, kX11_readLine_0, sk_200, al_200, rf_200_5, sk_205, al_205, sn_205, ald_n, ro0_n, al_ro, ↓SX11_readLine_0, ↓SX11_readLine_1, ↓SX11_readLine_2, ↓SX11_readLine_3, ↓SX11_readLine_4, ↓SX11_readLine_5, ↓shqRR_, ↓shqRI_, ↓shqR_, ↓shqRII_, ↓spX11_isWord, ↓spX11_blames, ↓spX11_readSlow, ↓spX11_readBall, ↓spX11_reads, ↓spX11_number, mrg, mrl, mSet_ap, ncast, Option.some.injEq, p0, p1, p2, p3, p4, p5, p6, p7, p8, e0, e10, z3]
        refine ⟨B, N, enT B N g.2.2.1, T1, hG.2.1.1, ⟨by omega, by omega⟩, hG.2.1.2.2.2.2, fun I2 f2 k2 => hq _ ⟨(hG.1.tr f2.b.g).set _ _, k2.set _ _, ?_, fun w => absurd rfl w, fun _ => ?_⟩⟩
        · rw [set_ne (by decide), f2.2 12 (by decide)]
          exact e0
        · rw [set_upd, f2.1 205 (by decide), hG.2.2.2.2 z]
      · have hq := fun I' => hq I'
        rw [show sgT B N g = rdE (erT B N 2 g.2.2.1 0) g.2.2.2 from by unfold sgT; rw [if_neg (fun w => w z), if_pos z3]] at hq
        have q := rdS.bad (I := I1) hG.2.1 2
        have ek : (erT B N 2 g.2.2.1 0).1 ≠ 0 := by
          unfold erT
          dsimp only
          split <;> omega
        have hM := hq _ (gdS.of hG.1 q ek _)
        have x0 : ∃ x : Int, x = (if tkT B N g.2.2.1 = 4 then 1 else 2) ∧ (x = 1 ∨ x = 2) := by
          by_cases y : tkT B N g.2.2.1 = 4
          · exact ⟨1, (if_pos y).symm, Or.inl rfl⟩
          · exact ⟨2, (if_neg y).symm, Or.inr rfl⟩
        obtain ⟨x, hx1, hx2⟩ := x0
        rw [e10, ← hx1] at hM
        clear hq q
        simp only [false_and, and_false, true_or, or_true, false_or, or_false, true_and, and_true, true_implies, false_implies, implies_true, not_true_eq_false, not_false_eq_true, and_self, List.length_cons, List.length_nil, mNoCut_, mCat_n, mCat_I, mCat_L, mCat_R, mIsL_n, mIsL_I, mIsL_R, mIsL_L, Nat.reduceAdd, Nat.reduceSub, Nat.reduceLeDiff, Nat.reduceLT, Nat.reduceEqDiff, Nat.zero_le, Int.reduceEq, Int.reduceLT, Int.reduceLE, Int.reduceNeg, Int.reduceAdd, if_true, if_false, reduceIte, reduceCtorEq, Bool.false_eq_true, ne_eq, qCmp_0, qCmp_1, qCmp_2, qCmp_3, qCmp_4, qCmp_5, ib_0, ib_1, ib_2, lb_0, lb_1, lb_2, dv_0, dv_1, wq_ic, wq_ld_i, wq_ld_a, wq_st_i, wq_ib, wq_icmp, wq_if, wq_goto, wq_get, mGet_0, mGet_1, mGet_2, mGet_3, wq_ald, wq_astI, wq_astL, wq_dup2, dup2_IR, wq_ret0, wq_ret1, wq_ret2, wq_ret3, wq_ret4, wq_tx, ldR0, wq_callV2_0, mrg_0_, mrg_1_, mrg_2_, mrg_3_, mrg_4_, mrg_5_, mrg_6_, mrg_m1_, stI1, ldI1, fk_11_5, mrg_30_, fk_11_12, wq_callV1_0, mrg_8_, mrg_60_, mrg_99_, mrg_9_, wq_callV3_0, fk_11_10, mPut_s, mPut_I0, mPut_R0, mPut_L0, mPut_I1, mPut_R1, mPut_L1, mGo_n, sfxX11_readLine_13, cutX11_readLine_13, sfxX11_readLine_26, cutX11_readLine_26, sfxX11_readLine_39, cutX11_readLine_39, sfxX11_readLine_52, cutX11_readLine_52, sfxX11_readLine_65, cutX11_readLine_65, sfxX11_readLine_78, cutX11_readLine_78, sfxX11_readLine_92, cutX11_readLine_92, sfxX11_readLine_93, cutX11_readLine_93, sfxX11_readLine_107, cutX11_readLine_107, sfxX11_readLine_123, cutX11_readLine_123, sfxX11_readLine_131, cutX11_readLine_131, sfxX11_readLine_143, cutX11_readLine_143, sfxX11_readLine_156, cutX11_readLine_156, sfxX11_readLine_176, cutX11_readLine_176, sfxX11_readLine_185, cutX11_readLine_185, sfxX11_readLine_186, cutX11_readLine_186, sfxX11_readLine_195, cutX11_readLine_195, sfxX11_readLine_200, cutX11_readLine_200, sfxX11_readLine_210, cutX11_readLine_210, sfxX11_readLine_220, cutX11_readLine_220, sfxX11_readLine_222, cutX11_readLine_222, sfxX11_readLine_226, cutX11_readLine_226, sfxX11_readLine_239, cutX11_readLine_239, sfxX11_readLine_247, cutX11_readLine_247, kX11_readLine_247, kX11_readLine_239, kX11_readLine_226, kX11_readLine_222, kX11_readLine_220, kX11_readLine_210, kX11_readLine_200, kX11_readLine_195, kX11_readLine_186, kX11_readLine_185, kX11_readLine_176, kX11_readLine_156, kX11_readLine_143, kX11_readLine_131, kX11_readLine_123, kX11_readLine_107, kX11_readLine_93, kX11_readLine_92, kX11_readLine_78, kX11_readLine_65, kX11_readLine_52, kX11_readLine_39, kX11_readLine_26, kX11_readLine_13, kX11_readLine_0, sk_200, al_200, rf_200_5, sk_205, al_205, sn_205, ald_n, ro0_n, al_ro, ↓SX11_readLine_0, ↓SX11_readLine_1, ↓SX11_readLine_2, ↓SX11_readLine_3, ↓SX11_readLine_4, ↓SX11_readLine_5, ↓shqRR_, ↓shqRI_, ↓shqR_, ↓shqRII_, ↓spX11_isWord, ↓spX11_blames, ↓spX11_readSlow, ↓spX11_readBall, ↓spX11_reads, ↓spX11_number, mrg, mrl, mSet_ap, ncast, Option.some.injEq, p0, p1, p2, p3, p4, p5, p6, p7, p8, e0, e10, z3]
        rw [← hx1]
        (try simp only [mrg, mrl] at *) <;> repeat' (first | (with_reducible assumption) | (with_reducible apply And.intro) | intro _)
        all_goals first | omega | exact hM | exact absurd (by assumption) (show ¬ x = 0 by omega) | skip
        all_goals (trace_state; sorry)
    · have hM : Q (.inl none) I1 := hq _ (by rw [show sgT B N g = g from if_pos z]; exact hG)
      clear hq
      simp only [false_and, and_false, true_or, or_true, false_or, or_false, true_and, and_true, true_implies, false_implies, implies_true, not_true_eq_false, not_false_eq_true, and_self, List.length_cons, List.length_nil, mNoCut_, mCat_n, mCat_I, mCat_L, mCat_R, mIsL_n, mIsL_I, mIsL_R, mIsL_L, Nat.reduceAdd, Nat.reduceSub, Nat.reduceLeDiff, Nat.reduceLT, Nat.reduceEqDiff, Nat.zero_le, Int.reduceEq, Int.reduceLT, Int.reduceLE, Int.reduceNeg, Int.reduceAdd, if_true, if_false, reduceIte, reduceCtorEq, Bool.false_eq_true, ne_eq, qCmp_0, qCmp_1, qCmp_2, qCmp_3, qCmp_4, qCmp_5, ib_0, ib_1, ib_2, lb_0, lb_1, lb_2, dv_0, dv_1, wq_ic, wq_ld_i, wq_ld_a, wq_st_i, wq_ib, wq_icmp, wq_if, wq_goto, wq_get, mGet_0, mGet_1, mGet_2, mGet_3, wq_ald, wq_astI, wq_astL, wq_dup2, dup2_IR, wq_ret0, wq_ret1, wq_ret2, wq_ret3, wq_ret4, wq_tx, ldR0, wq_callV2_0, mrg_0_, mrg_1_, mrg_2_, mrg_3_, mrg_4_, mrg_5_, mrg_6_, mrg_m1_, stI1, ldI1, fk_11_5, mrg_30_, fk_11_12, wq_callV1_0, mrg_8_, mrg_60_, mrg_99_, mrg_9_, wq_callV3_0, fk_11_10, mPut_s, mPut_I0, mPut_R0, mPut_L0, mPut_I1, mPut_R1, mPut_L1, mGo_n, sfxX11_readLine_13, cutX11_readLine_13, sfxX11_readLine_26, cutX11_readLine_26, sfxX11_readLine_39, cutX11_readLine_39, sfxX11_readLine_52, cutX11_readLine_52, sfxX11_readLine_65, cutX11_readLine_65, sfxX11_readLine_78, cutX11_readLine_78, sfxX11_readLine_92, cutX11_readLine_92, sfxX11_readLine_93, cutX11_readLine_93, sfxX11_readLine_107, cutX11_readLine_107, sfxX11_readLine_123, cutX11_readLine_123, sfxX11_readLine_131, cutX11_readLine_131, sfxX11_readLine_143, cutX11_readLine_143, sfxX11_readLine_156, cutX11_readLine_156, sfxX11_readLine_176, cutX11_readLine_176, sfxX11_readLine_185, cutX11_readLine_185, sfxX11_readLine_186, cutX11_readLine_186, sfxX11_readLine_195, cutX11_readLine_195, sfxX11_readLine_200, cutX11_readLine_200, sfxX11_readLine_210, cutX11_readLine_210, sfxX11_readLine_220, cutX11_readLine_220, sfxX11_readLine_222, cutX11_readLine_222, sfxX11_readLine_226, cutX11_readLine_226, sfxX11_readLine_239, cutX11_readLine_239, sfxX11_readLine_247, cutX11_readLine_247, kX11_readLine_247, kX11_readLine_239, kX11_readLine_226, kX11_readLine_222, kX11_readLine_220, kX11_readLine_210, kX11_readLine_200, kX11_readLine_195, kX11_readLine_186, kX11_readLine_185, kX11_readLine_176, kX11_readLine_156, kX11_readLine_143, kX11_readLine_131, kX11_readLine_123, kX11_readLine_107, kX11_readLine_93, kX11_readLine_92, kX11_readLine_78, kX11_readLine_65, kX11_readLine_52, kX11_readLine_39, kX11_readLine_26, kX11_readLine_13, kX11_readLine_0, sk_200, al_200, rf_200_5, sk_205, al_205, sn_205, ald_n, ro0_n, al_ro, ↓SX11_readLine_0, ↓SX11_readLine_1, ↓SX11_readLine_2, ↓SX11_readLine_3, ↓SX11_readLine_4, ↓SX11_readLine_5, ↓shqRR_, ↓shqRI_, ↓shqR_, ↓shqRII_, ↓spX11_isWord, ↓spX11_blames, ↓spX11_readSlow, ↓spX11_readBall, ↓spX11_reads, ↓spX11_number, mrg, mrl, mSet_ap, ncast, Option.some.injEq, p0, p1, p2, p3, p4, p5, p6, p7, p8, e10]
      (try simp only [mrg, mrl] at *) <;> repeat' (first | (with_reducible assumption) | (with_reducible apply And.intro) | intro _)
      all_goals first | omega | exact hM | skip
      all_goals (trace_state; sorry)
  have r131 : ∀ (m : Nat), 24 ≤ m → ∀ (c : Int), (0 ≤ c ∧ c ≤ 6) → whT B N a = c → (∀ I' : mM, gdS I' I B N (sgT B N (inT B N a (I 205))) → Q (.inl none) I') → mWp SX11_readLine (mGo SX11_readLine Q (fun E _ I => Q (.inr E) I) fl mRo0 kX11_readLine mNoCut (fun _ _ _ _ => False) m) Q (fun E _ I => Q (.inr E) I) fl mRo0 kX11_readLine_131 [some (mR (some 200)), some (mI c)] [] I := fun m hm c hc hw hq => by
    have p0 : 0 < m := by omega
    have p1 : 0 < m - 1 := by omega
    have p2 : 0 < m - 1 - 1 := by omega
    have p3 : 0 < m - 1 - 1 - 1 := by omega
    have p4 : 0 < m - 1 - 1 - 1 - 1 := by omega
    have p5 : 0 < m - 1 - 1 - 1 - 1 - 1 := by omega
    have p6 : 0 < m - 1 - 1 - 1 - 1 - 1 - 1 := by omega
    have p7 : 0 < m - 1 - 1 - 1 - 1 - 1 - 1 - 1 := by omega
    have p8 : 0 < m - 1 - 1 - 1 - 1 - 1 - 1 - 1 - 1 := by omega
    have hset : ∀ (lo hi c' : Int), c = c' → ¬ c' = 5 → ¬ c' = 6 → lowT c' = lo → topT c' = hi → lo ≤ hi → (0 ≤ c' ∧ c' < 7) → ∀ I' : mM, frR I' I → tkS I' B N (enT B N a) → ∀ I2 : mM, rdS I2 I' B N (numT B N lo hi (enT B N a)).1 (numT B N lo hi (enT B N a)).2.1 (numT B N lo hi (enT B N a)).2.2.1 → ∀ n : Nat, 15 ≤ n → mWp SX11_readLine (mGo SX11_readLine Q (fun E _ I => Q (.inr E) I) fl mRo0 kX11_readLine mNoCut (fun _ _ _ _ => False) n) Q (fun E _ I => Q (.inr E) I) fl mRo0 kX11_readLine_226 [some (mR (some 200)), some (mI c')] [] (mSet I2 205 (1 + c') (numT B N lo hi (enT B N a)).2.2.2) := fun lo hi c' e5 n5 n6 el eh lh c7 I' f1 k1 I2 r2 n hn => by
      have nb := num_bd (B := B) (n := N) (lo := lo) (hi := hi) (a := enT B N a) ⟨by omega, by omega⟩ lh
      have eI : inT B N a (I 205) = seT B N c' (enT B N a) (I 205) := by
        unfold inT
        rw [hw, e5, if_neg n5, if_neg n6]
      have eS : seT B N c' (enT B N a) (I 205) = if (numT B N lo hi (enT B N a)).1 ≠ 0 then rdE (numT B N lo hi (enT B N a)) (I 205) else (0, 0, (numT B N lo hi (enT B N a)).2.2.1, updS (I 205) (1 + c') (numT B N lo hi (enT B N a)).2.2.2) := by
        unfold seT
        rw [el, eh]
      have F2 : frG I2 I := f1.b.g.tr r2.1.g
      by_cases z : (numT B N lo hi (enT B N a)).1 = 0
      · rw [if_neg (fun w => w z)] at eS
        exact r226 n hn c' _ (seT B N c' (enT B N a) (I 205)) (by rw [eS]; exact ⟨F2.set _ _, r2.2.1.set _ _, by rw [set_ne (by decide)]; exact r2.2.2.1.trans z, fun w => absurd rfl w, fun _ => by rw [set_upd, r2.1.1 205 (by decide), f1.1 205 (by decide)]⟩) (by rw [eS]; exact nb.1) (by rw [eS]; dsimp only; omega) (by rw [← eI]; exact hq)
      · rw [if_pos z] at eS
        exact r226 n hn c' _ (seT B N c' (enT B N a) (I 205)) (by rw [eS]; exact ⟨F2.set _ _, r2.2.1.set _ _, by rw [set_ne (by decide)]; exact r2.2.2.1, fun w => by rw [set_ne (by decide)]; exact r2.2.2.2 w, fun w => absurd w z⟩) (by rw [eS]; exact nb.1) (by rw [eS]; exact nb.2.2.1) (by rw [← eI]; exact hq)
    have e : c = 0 ∨ c = 1 ∨ c = 2 ∨ c = 3 ∨ c = 4 ∨ c = 5 ∨ c = 6 := by omega
    rcases e with rfl | rfl | rfl | rfl | rfl | rfl | rfl
    · simp only [false_and, and_false, true_or, or_true, false_or, or_false, true_and, and_true, true_implies, false_implies, implies_true, not_true_eq_false, not_false_eq_true, and_self, List.length_cons, List.length_nil, mNoCut_, mCat_n, mCat_I, mCat_L, mCat_R, mIsL_n, mIsL_I, mIsL_R, mIsL_L, Nat.reduceAdd, Nat.reduceSub, Nat.reduceLeDiff, Nat.reduceLT, Nat.reduceEqDiff, Nat.zero_le, Int.reduceEq, Int.reduceLT, Int.reduceLE, Int.reduceNeg, Int.reduceAdd, if_true, if_false, reduceIte, reduceCtorEq, Bool.false_eq_true, ne_eq, qCmp_0, qCmp_1, qCmp_2, qCmp_3, qCmp_4, qCmp_5, ib_0, ib_1, ib_2, lb_0, lb_1, lb_2, dv_0, dv_1, wq_ic, wq_ld_i, wq_ld_a, wq_st_i, wq_ib, wq_icmp, wq_if, wq_goto, wq_get, mGet_0, mGet_1, mGet_2, mGet_3, wq_ald, wq_astI, wq_astL, wq_dup2, dup2_IR, wq_ret0, wq_ret1, wq_ret2, wq_ret3, wq_ret4, wq_tx, ldR0, wq_callV2_0, mrg_0_, mrg_1_, mrg_2_, mrg_3_, mrg_4_, mrg_5_, mrg_6_, mrg_m1_, stI1, ldI1, fk_11_5, mrg_30_, fk_11_12, wq_callV1_0, mrg_8_, mrg_60_, mrg_99_, mrg_9_, wq_callV3_0, fk_11_10, mPut_s, mPut_I0, mPut_R0, mPut_L0, mPut_I1, mPut_R1, mPut_L1, mGo_n, sfxX11_readLine_13, cutX11_readLine_13, sfxX11_readLine_26, cutX11_readLine_26, sfxX11_readLine_39, cutX11_readLine_39, sfxX11_readLine_52, cutX11_readLine_52, sfxX11_readLine_65, cutX11_readLine_65, sfxX11_readLine_78, cutX11_readLine_78, sfxX11_readLine_92, cutX11_readLine_92, sfxX11_readLine_93, cutX11_readLine_93, sfxX11_readLine_107, cutX11_readLine_107, sfxX11_readLine_123, cutX11_readLine_123, sfxX11_readLine_131, cutX11_readLine_131, sfxX11_readLine_143, cutX11_readLine_143, sfxX11_readLine_156, cutX11_readLine_156, sfxX11_readLine_176, cutX11_readLine_176, sfxX11_readLine_185, cutX11_readLine_185, sfxX11_readLine_186, cutX11_readLine_186, sfxX11_readLine_195, cutX11_readLine_195, sfxX11_readLine_200, cutX11_readLine_200, sfxX11_readLine_210, cutX11_readLine_210, sfxX11_readLine_220, cutX11_readLine_220, sfxX11_readLine_222, cutX11_readLine_222, sfxX11_readLine_226, cutX11_readLine_226, sfxX11_readLine_239, cutX11_readLine_239, sfxX11_readLine_247, cutX11_readLine_247, kX11_readLine_247, kX11_readLine_239, kX11_readLine_222, kX11_readLine_220, kX11_readLine_210, kX11_readLine_200, kX11_readLine_195, kX11_readLine_186, kX11_readLine_185, kX11_readLine_176, kX11_readLine_156, kX11_readLine_143, kX11_readLine_131, kX11_readLine_123, kX11_readLine_107, kX11_readLine_93, kX11_readLine_92, kX11_readLine_78, kX11_readLine_65, kX11_readLine_52, kX11_readLine_39, kX11_readLine_26, kX11_readLine_13, kX11_readLine_0, sk_200, al_200, rf_200_5, sk_205, al_205, sn_205, ald_n, ro0_n, al_ro, ↓SX11_readLine_0, ↓SX11_readLine_1, ↓SX11_readLine_2, ↓SX11_readLine_3, ↓SX11_readLine_4, ↓SX11_readLine_5, ↓shqRR_, ↓shqRI_, ↓shqR_, ↓shqRII_, ↓spX11_isWord, ↓spX11_blames, ↓spX11_readSlow, ↓spX11_readBall, ↓spX11_reads, ↓spX11_number, mrg, mrl, mSet_ap, ncast, Option.some.injEq, p0, p1, p2, p3, p4, p5, p6, p7, p8]
      trace_state
      sorry
    · sorry
    · sorry
    · sorry
    · sorry
    · simp only [false_and, and_false, true_or, or_true, false_or, or_false, true_and, and_true, true_implies, false_implies, implies_true, not_true_eq_false, not_false_eq_true, and_self, List.length_cons, List.length_nil, mNoCut_, mCat_n, mCat_I, mCat_L, mCat_R, mIsL_n, mIsL_I, mIsL_R, mIsL_L, Nat.reduceAdd, Nat.reduceSub, Nat.reduceLeDiff, Nat.reduceLT, Nat.reduceEqDiff, Nat.zero_le, Int.reduceEq, Int.reduceLT, Int.reduceLE, Int.reduceNeg, Int.reduceAdd, if_true, if_false, reduceIte, reduceCtorEq, Bool.false_eq_true, ne_eq, qCmp_0, qCmp_1, qCmp_2, qCmp_3, qCmp_4, qCmp_5, ib_0, ib_1, ib_2, lb_0, lb_1, lb_2, dv_0, dv_1, wq_ic, wq_ld_i, wq_ld_a, wq_st_i, wq_ib, wq_icmp, wq_if, wq_goto, wq_get, mGet_0, mGet_1, mGet_2, mGet_3, wq_ald, wq_astI, wq_astL, wq_dup2, dup2_IR, wq_ret0, wq_ret1, wq_ret2, wq_ret3, wq_ret4, wq_tx, ldR0, wq_callV2_0, mrg_0_, mrg_1_, mrg_2_, mrg_3_, mrg_4_, mrg_5_, mrg_6_, mrg_m1_, stI1, ldI1, fk_11_5, mrg_30_, fk_11_12, wq_callV1_0, mrg_8_, mrg_60_, mrg_99_, mrg_9_, wq_callV3_0, fk_11_10, mPut_s, mPut_I0, mPut_R0, mPut_L0, mPut_I1, mPut_R1, mPut_L1, mGo_n, sfxX11_readLine_13, cutX11_readLine_13, sfxX11_readLine_26, cutX11_readLine_26, sfxX11_readLine_39, cutX11_readLine_39, sfxX11_readLine_52, cutX11_readLine_52, sfxX11_readLine_65, cutX11_readLine_65, sfxX11_readLine_78, cutX11_readLine_78, sfxX11_readLine_92, cutX11_readLine_92, sfxX11_readLine_93, cutX11_readLine_93, sfxX11_readLine_107, cutX11_readLine_107, sfxX11_readLine_123, cutX11_readLine_123, sfxX11_readLine_131, cutX11_readLine_131, sfxX11_readLine_143, cutX11_readLine_143, sfxX11_readLine_156, cutX11_readLine_156, sfxX11_readLine_176, cutX11_readLine_176, sfxX11_readLine_185, cutX11_readLine_185, sfxX11_readLine_186, cutX11_readLine_186, sfxX11_readLine_195, cutX11_readLine_195, sfxX11_readLine_200, cutX11_readLine_200, sfxX11_readLine_210, cutX11_readLine_210, sfxX11_readLine_220, cutX11_readLine_220, sfxX11_readLine_222, cutX11_readLine_222, sfxX11_readLine_226, cutX11_readLine_226, sfxX11_readLine_239, cutX11_readLine_239, sfxX11_readLine_247, cutX11_readLine_247, kX11_readLine_247, kX11_readLine_239, kX11_readLine_222, kX11_readLine_220, kX11_readLine_210, kX11_readLine_200, kX11_readLine_195, kX11_readLine_186, kX11_readLine_185, kX11_readLine_176, kX11_readLine_156, kX11_readLine_143, kX11_readLine_131, kX11_readLine_123, kX11_readLine_107, kX11_readLine_93, kX11_readLine_92, kX11_readLine_78, kX11_readLine_65, kX11_readLine_52, kX11_readLine_39, kX11_readLine_26, kX11_readLine_13, kX11_readLine_0, sk_200, al_200, rf_200_5, sk_205, al_205, sn_205, ald_n, ro0_n, al_ro, ↓SX11_readLine_0, ↓SX11_readLine_1, ↓SX11_readLine_2, ↓SX11_readLine_3, ↓SX11_readLine_4, ↓SX11_readLine_5, ↓shqRR_, ↓shqRI_, ↓shqR_, ↓shqRII_, ↓spX11_isWord, ↓spX11_blames, ↓spX11_readSlow, ↓spX11_readBall, ↓spX11_reads, ↓spX11_number, mrg, mrl, mSet_ap, ncast, Option.some.injEq, p0, p1, p2, p3, p4, p5, p6, p7, p8]
      trace_state
      sorry
    · simp only [false_and, and_false, true_or, or_true, false_or, or_false, true_and, and_true, true_implies, false_implies, implies_true, not_true_eq_false, not_false_eq_true, and_self, List.length_cons, List.length_nil, mNoCut_, mCat_n, mCat_I, mCat_L, mCat_R, mIsL_n, mIsL_I, mIsL_R, mIsL_L, Nat.reduceAdd, Nat.reduceSub, Nat.reduceLeDiff, Nat.reduceLT, Nat.reduceEqDiff, Nat.zero_le, Int.reduceEq, Int.reduceLT, Int.reduceLE, Int.reduceNeg, Int.reduceAdd, if_true, if_false, reduceIte, reduceCtorEq, Bool.false_eq_true, ne_eq, qCmp_0, qCmp_1, qCmp_2, qCmp_3, qCmp_4, qCmp_5, ib_0, ib_1, ib_2, lb_0, lb_1, lb_2, dv_0, dv_1, wq_ic, wq_ld_i, wq_ld_a, wq_st_i, wq_ib, wq_icmp, wq_if, wq_goto, wq_get, mGet_0, mGet_1, mGet_2, mGet_3, wq_ald, wq_astI, wq_astL, wq_dup2, dup2_IR, wq_ret0, wq_ret1, wq_ret2, wq_ret3, wq_ret4, wq_tx, ldR0, wq_callV2_0, mrg_0_, mrg_1_, mrg_2_, mrg_3_, mrg_4_, mrg_5_, mrg_6_, mrg_m1_, stI1, ldI1, fk_11_5, mrg_30_, fk_11_12, wq_callV1_0, mrg_8_, mrg_60_, mrg_99_, mrg_9_, wq_callV3_0, fk_11_10, mPut_s, mPut_I0, mPut_R0, mPut_L0, mPut_I1, mPut_R1, mPut_L1, mGo_n, sfxX11_readLine_13, cutX11_readLine_13, sfxX11_readLine_26, cutX11_readLine_26, sfxX11_readLine_39, cutX11_readLine_39, sfxX11_readLine_52, cutX11_readLine_52, sfxX11_readLine_65, cutX11_readLine_65, sfxX11_readLine_78, cutX11_readLine_78, sfxX11_readLine_92, cutX11_readLine_92, sfxX11_readLine_93, cutX11_readLine_93, sfxX11_readLine_107, cutX11_readLine_107, sfxX11_readLine_123, cutX11_readLine_123, sfxX11_readLine_131, cutX11_readLine_131, sfxX11_readLine_143, cutX11_readLine_143, sfxX11_readLine_156, cutX11_readLine_156, sfxX11_readLine_176, cutX11_readLine_176, sfxX11_readLine_185, cutX11_readLine_185, sfxX11_readLine_186, cutX11_readLine_186, sfxX11_readLine_195, cutX11_readLine_195, sfxX11_readLine_200, cutX11_readLine_200, sfxX11_readLine_210, cutX11_readLine_210, sfxX11_readLine_220, cutX11_readLine_220, sfxX11_readLine_222, cutX11_readLine_222, sfxX11_readLine_226, cutX11_readLine_226, sfxX11_readLine_239, cutX11_readLine_239, sfxX11_readLine_247, cutX11_readLine_247, kX11_readLine_247, kX11_readLine_239, kX11_readLine_222, kX11_readLine_220, kX11_readLine_210, kX11_readLine_200, kX11_readLine_195, kX11_readLine_186, kX11_readLine_185, kX11_readLine_176, kX11_readLine_156, kX11_readLine_143, kX11_readLine_131, kX11_readLine_123, kX11_readLine_107, kX11_readLine_93, kX11_readLine_92, kX11_readLine_78, kX11_readLine_65, kX11_readLine_52, kX11_readLine_39, kX11_readLine_26, kX11_readLine_13, kX11_readLine_0, sk_200, al_200, rf_200_5, sk_205, al_205, sn_205, ald_n, ro0_n, al_ro, ↓SX11_readLine_0, ↓SX11_readLine_1, ↓SX11_readLine_2, ↓SX11_readLine_3, ↓SX11_readLine_4, ↓SX11_readLine_5, ↓shqRR_, ↓shqRI_, ↓shqR_, ↓shqRII_, ↓spX11_isWord, ↓spX11_blames, ↓spX11_readSlow, ↓spX11_readBall, ↓spX11_reads, ↓spX11_number, mrg, mrl, mSet_ap, ncast, Option.some.injEq, p0, p1, p2, p3, p4, p5, p6, p7, p8]
      trace_state
      sorry
  sorry
theorem ctrX11_readLine {l : Launch} (hst : l.stackTraces = false) (hT : mTxM l) : mCtr l calX11_readLine spX11_readLine :=
  mMet0 (T := TX11_readLine) (S := SX11_readLine) hst hT (by decide) okX11_readLine ⟨_, _, rfl, rfl⟩ (fun a => match a with
    | 0 => ctrX11_isWord hst hT
    | 1 => ctrX11_blames hst hT
    | 2 => ctrX11_readSlow hst hT
    | 3 => ctrX11_readBall hst hT
    | 4 => ctrX11_reads hst hT
    | 5 => ctrX11_number hst hT
    | _ + 6 => mCtr_no) vcX11_readLine

end SPM28
