section SPC27
theorem wk_facts {t : Int → Int} (H : WFt t) (s : Int → Int) {b h : Int} (but : Int) (hb : 0 ≤ b ∧ b < 6) (hh : 0 ≤ h ∧ h < 8) : (spS t s b h but = -1 ∧ woS t s b h but = -1) ∨ ((airT t b h + 1 ≤ spS t s b h but ∧ spS t s b h but ≤ stepsT t b h) ∧ woS t s b h but = soonT s (pcT t) (cellT t b h (spS t s b h but)) (tickT t b h (spS t s b h but)) but ∧ 0 ≤ woS t s b h but ∧ woS t s b h but < 9) := by
  have e : woS t s b h but = if spS t s b h but = -1 then -1 else soonT s (pcT t) (cellT t b h (spS t s b h but)) (tickT t b h (spS t s b h but)) but := rfl
  have ha := H.air hb hh
  rcases spS_bd H s but hb hh with z | ⟨z1, z2, z3⟩
  · rw [if_pos z] at e
    exact Or.inl ⟨z, e⟩
  · rw [if_neg (by omega)] at e
    have sb := soonT_bd s (pcT t) (cellT t b h (spS t s b h but)) (tickT t b h (spS t s b h but)) but
    exact Or.inr ⟨⟨z1, z2⟩, e, by omega, by omega⟩
def spX2_runsWith : mSp := shRIII (fun _ i h f c I Q => i = some 140 ∧ (0 ≤ f ∧ f < 9) ∧ (0 ≤ c ∧ c < 289) ∧ ∃ t b, ctxU I t b ∧ hitB t b h ∧ stB (I 141) ∧ I 141 f = -1 ∧ Wd I t (I 141) b h ∧ Q (.inl (some (mI (rnS t (updS (I 141) f c) b h (ctS t (I 141) b h))))) I)
def SX2_runsWith : Nat → mSp := fun a => match a with
  | 0 => spX0_cellAt
  | 1 => spX9_timeTo
  | 2 => spX2_goesFirst
  | 3 => spX0_tickAt
  | 4 => spX9_runsBy
  | _ => fun _ _ _ _ => False
theorem SX2_runsWith_0 : SX2_runsWith 0 = spX0_cellAt := Eq.trans rfl rfl
theorem SX2_runsWith_1 : SX2_runsWith 1 = spX9_timeTo := Eq.trans rfl rfl
theorem SX2_runsWith_2 : SX2_runsWith 2 = spX2_goesFirst := Eq.trans rfl rfl
theorem SX2_runsWith_3 : SX2_runsWith 3 = spX0_tickAt := Eq.trans rfl rfl
theorem SX2_runsWith_4 : SX2_runsWith 4 = spX9_runsBy := Eq.trans rfl rfl
theorem cutsX2_runsWith {t : Nat} {bs : List Bool} (h : cutX2_runsWith t = some bs) : (t = 43 ∧ bs = [true, true, true, true, true, true, false, false]) := by
  unfold cutX2_runsWith at h
  simp only [mLk] at h
  by_cases h0 : 43 = t
  · subst h0
    simp at h
    exact ⟨rfl, h.symm⟩
  rw [if_neg h0] at h
  cases h
set_option maxRecDepth 100000 in
set_option maxHeartbeats 1000000 in
theorem vcX2_runsWith (fl : Nat → Bool) (avs : List mV) (I : mM) (Q : mO → mM → Prop) (hsp : spX2_runsWith fl avs I Q) : mVC SX2_runsWith fl Q kX2_runsWith cutX2_runsWith 8 avs I := by
  obtain ⟨i, hh, f, c, rfl, h0⟩ := shRIII_inv hsp
  obtain ⟨rfl, hf, hc1, t, b, H, hh1, hB, hO, hW, h⟩ := h0
  have h8 := H.h8 hh1.1 hh1.2
  have lh := H.lh hh1.1 hh1.2
  have st8 := (steps_spec H.1 H.2.1 h8).1
  have ha := H.1.air H.2.1 h8
  have wk := wk_facts H.1 (I 141) (ctS t (I 141) b hh) H.2.1 h8
  have e3 := lh.2.2.1
  have e5 := lh.2.2.2.2.1
  have w6 := hW.2.2.2.2.1
  have w7 := hW.2.2.2.2.2.1
  have w8 := hW.2.2.2.2.2.2.1
  have w9 := hW.2.2.2.2.2.2.2
  have ct := catcherT_bd (I 141) (pcT t) (cellT t b hh) (tickT t b hh) (airT t b hh) (stepsT t b hh)
  have fb : f ≠ ctS t (I 141) b hh := fun w => by
    by_cases z : ctS t (I 141) b hh = -1
    · omega
    · have := (ct.2.2 z).2
      exact this ((congrArg (I 141) w).symm.trans hO)
  obtain ⟨L, hL⟩ : ∃ L, L = if woS t (I 141) b hh (ctS t (I 141) b hh) = -1 then stepsT t b hh else spS t (I 141) b hh (ctS t (I 141) b hh) := ⟨_, rfl⟩
  have lb : 0 ≤ L ∧ L ≤ 8 := by
    rcases wk with ⟨k1, k2⟩ | ⟨k1, k2, k3⟩
    · rw [if_pos k2] at hL
      omega
    · rw [if_neg (by omega)] at hL
      omega
  have su : ∀ k : Int, soonT (updS (I 141) f c) (pcT t) (cellT t b hh k) (tickT t b hh k) (ctS t (I 141) b hh) = if far c (cellT t b hh k) * pcT t f ≤ tickT t b hh k ∧ frst (I 141) (pcT t) f c (cellT t b hh k) (soonT (I 141) (pcT t) (cellT t b hh k) (tickT t b hh k) (ctS t (I 141) b hh)) then f else soonT (I 141) (pcT t) (cellT t b hh k) (tickT t b hh k) (ctS t (I 141) b hh) := fun k => soonT_upd hO (by omega) hf _ _ fb
  refine ⟨rfl, (fun m pc lv st I1 => st = [] ∧ I1 = I ∧ ∃ k : Int, lv = [some (mR (some 140)), some (mI hh), some (mI f), some (mI c), some (mI L), some (mI k), none, none] ∧ (airT t b hh < k ∧ 1 ≤ k ∧ k ≤ 10) ∧ m = (20 - k).toNat ∧ ((∀ j : Int, airT t b hh < j → j ≤ stepsT t b hh → j < k → soonT (updS (I 141) f c) (pcT t) (cellT t b hh j) (tickT t b hh j) (ctS t (I 141) b hh) = -1) ∨ (k = L + 1 ∧ rnS t (updS (I 141) f c) b hh (ctS t (I 141) b hh) = rnS t (I 141) b hh (ctS t (I 141) b hh)))), ?_, ?_⟩
  · intro n t bs hbs lv st I1 hc
    rcases cutsX2_runsWith hbs with ⟨rfl, rfl⟩
    rw [sfxX2_runsWith_43]
    obtain ⟨rfl, rfl, k, rfl, hk, hm, hD⟩ := hc
    rcases Int.lt_or_le L k with z | z
    · have hfin : rnS t (updS (I1 141) f c) b hh (ctS t (I1 141) b hh) = rnS t (I1 141) b hh (ctS t (I1 141) b hh) := by
        rcases hD with hD | hD
        · rcases wk with ⟨k1, k2⟩ | ⟨k1, k2, k3⟩
          · rw [if_pos k2] at hL
            rw [rnS_none k1, rnS_none (spS_none (fun i i0 i1 => hD i i0 i1 (by omega)))]
          · rw [if_neg (by omega)] at hL
            have q := hD L (by omega) (by omega) z
            rw [su L, hL, ← k2] at q
            split at q <;> omega
        · exact hD.2
      rw [hfin, ← w9] at h
      clear hD su wk
      simp only [false_and, and_false, true_or, or_true, false_or, or_false, true_and, and_true, true_implies, false_implies, implies_true, not_true_eq_false, not_false_eq_true, and_self, List.length_cons, List.length_nil, mNoCut_, mCat_n, mCat_I, mCat_L, mCat_R, mIsL_n, mIsL_I, mIsL_R, mIsL_L, Nat.reduceAdd, Nat.reduceSub, Nat.reduceLeDiff, Nat.reduceLT, Nat.reduceEqDiff, Nat.zero_le, Int.reduceEq, Int.reduceLT, Int.reduceLE, Int.reduceNeg, Int.reduceAdd, if_true, if_false, reduceIte, reduceCtorEq, Bool.false_eq_true, ne_eq, qCmp_0, qCmp_1, qCmp_2, qCmp_3, qCmp_4, qCmp_5, ib_0, ib_1, ib_2, lb_0, lb_1, lb_2, dv_0, dv_1, wq_ic, wq_ld_i, wq_ld_a, wq_st_i, wq_iinc, wq_ib, wq_icmp, wq_if, wq_goto, wq_get, mGet_0, mGet_1, mGet_2, mGet_3, wq_ald, wq_ret0, wq_ret1, wq_ret2, wq_ret3, wq_ret4, ldR0, fk_2_9, ldI1, mrg_m1_, fk_2_2, fk_0_7, fk_2_10, stI4, fk_0_5, mrg_1_, stI5, ldI5, ldI4, fk_2_3, ldI2, ldI3, wq_callV3_0, wq_callV4_0, stI6, ldI6, fk_2_11, wq_callS4_1, mrg_0_, stI7, ldI7, wqinc5, fk_2_12, mPut_s, mPut_I0, mPut_R0, mPut_L0, mPut_I1, mPut_R1, mPut_L1, mGo_n, sfxX2_runsWith_22, cutX2_runsWith_22, sfxX2_runsWith_28, cutX2_runsWith_28, sfxX2_runsWith_43, cutX2_runsWith_43, sfxX2_runsWith_103, cutX2_runsWith_103, sfxX2_runsWith_107, cutX2_runsWith_107, sfxX2_runsWith_108, cutX2_runsWith_108, sfxX2_runsWith_142, cutX2_runsWith_142, sfxX2_runsWith_148, cutX2_runsWith_148, wq_cut, mGo_c, mMask_t, mMask_f, mMask_n, kX2_runsWith_148, kX2_runsWith_142, kX2_runsWith_108, kX2_runsWith_107, kX2_runsWith_103, kX2_runsWith_43, kX2_runsWith_28, kX2_runsWith_22, kX2_runsWith_0, sk_120, al_120, rf_120_7, sk_125, al_125, sn_125, rf_120_5, sk_123, al_123, sn_123, sk_140, al_140, rf_140_9, sk_146, al_146, sn_146, rf_140_2, rf_140_10, sk_147, al_147, sn_147, rf_140_3, sk_130, al_130, rf_140_11, sk_148, al_148, sn_148, rf_140_12, sk_149, al_149, sn_149, ald_n, ro0_n, al_ro, SX2_runsWith_0, SX2_runsWith_1, SX2_runsWith_2, SX2_runsWith_3, SX2_runsWith_4, shqRII_, shqRIII_, shqIIII_, spX0_cellAt, spX9_timeTo, spX2_goesFirst, spX0_tickAt, spX9_runsBy, mrg, mrl, mSet_ap, ncast, Option.some.injEq]
      (try simp only [mrg, mrl] at *) <;> repeat' (first | (with_reducible assumption) | (with_reducible apply And.intro) | intro _)
      all_goals first | omega | exact h | skip
    · have hkS : k ≤ stepsT t b hh := by
        split at hL
        · omega
        · omega
      have lk := lh.2.2.2.2.2 k hk.2.1 hkS
      have cl := cell_in H.1 H.2.1 h8 (k := k) ⟨by omega, hkS⟩
      have pp := (H.2.2.2.1 f hf.1 hf.2).1
      rcases hD with hD | hD
      · have sk := su k
        have stp := H.1.2.2
        obtain ⟨o, ho⟩ : ∃ o, o = soonT (I1 141) (pcT t) (cellT t b hh k) (tickT t b hh k) (ctS t (I1 141) b hh) := ⟨_, rfl⟩
        rw [← ho] at sk
        have hA : ∀ _ : Unit, far c (cellT t b hh k) * pcT t f ≤ tickT t b hh k → frst (I1 141) (pcT t) f c (cellT t b hh k) o → Q (.inl (some (mI (runsByT (amT t) (cellT t b hh) (tickT t b hh) (t 2) f k)))) I1 := fun _ y1 y2 => by
          rw [if_pos ⟨y1, y2⟩] at sk
          have q := rnS_at (spS_at (by omega) hkS (fun i i0 i1 => hD i i0 (by omega) i1) (by rw [sk]; omega)) (show k ≠ -1 by omega)
          rw [sk] at q
          rw [q] at h
          exact h
        have hN1 : ∀ _ : Unit, o = -1 → ¬ far c (cellT t b hh k) * pcT t f ≤ tickT t b hh k → ∀ j : Int, airT t b hh < j → j ≤ stepsT t b hh → j < k + 1 → soonT (updS (I1 141) f c) (pcT t) (cellT t b hh j) (tickT t b hh j) (ctS t (I1 141) b hh) = -1 := fun _ y1 y2 j j0 j1 j2 => by
          by_cases e : j = k
          · rw [e, sk, if_neg (fun w => y2 w.1)]
            exact y1
          · exact hD j j0 j1 (by omega)
        have hN2 : ∀ _ : Unit, k = spS t (I1 141) b hh (ctS t (I1 141) b hh) → o ≠ -1 → ¬ (far c (cellT t b hh k) * pcT t f ≤ tickT t b hh k ∧ frst (I1 141) (pcT t) f c (cellT t b hh k) o) → rnS t (updS (I1 141) f c) b hh (ctS t (I1 141) b hh) = rnS t (I1 141) b hh (ctS t (I1 141) b hh) := fun _ y1 y2 y3 => by
          rw [if_neg y3] at sk
          have q := rnS_at (spS_at (by omega) hkS (fun i i0 i1 => hD i i0 (by omega) i1) (by rw [sk]; exact y2)) (show k ≠ -1 by omega)
          rw [q, rnS_at y1.symm (by omega), sk, ho]
        by_cases e : k = spS t (I1 141) b hh (ctS t (I1 141) b hh)
        · rcases wk with ⟨k1, k2⟩ | ⟨k1, k2, k3⟩
          · omega
          · rw [← e, ← ho] at k2
            rw [k2] at k3 w6
            rw [k2, ← e, if_neg (by omega)] at w8
            rw [← e] at w7
            rw [k2, if_neg (by omega), ← e] at hL
            clear h su hD sk ct fb
            have tk := tickT_bd H.1 H.2.1 h8 (k := k) (by omega) (by omega)
            have fj := (H.1.fld (f := f) hf).2.1
            have p1 := prod_bd (far_bd (b := cellT t b hh k) hc1 cl) (y := pcT t f) (b := 9) ⟨by omega, fj.2⟩
            have so := (soonT_bd (I1 141) (pcT t) (cellT t b hh k) (tickT t b hh k) (ctS t (I1 141) b hh)).2.2
            rw [← ho] at so
            have so := so (by omega)
            have bo := hB o k3.1 k3.2
            have fo := (H.1.fld (f := o) k3).2.1
            have p2 := prod_bd (far_bd (a := I1 141 o) (b := cellT t b hh k) ⟨by omega, by omega⟩ cl) (y := pcT t o) (b := 9) ⟨by omega, fo.2⟩
            simp only [false_and, and_false, true_or, or_true, false_or, or_false, true_and, and_true, true_implies, false_implies, implies_true, not_true_eq_false, not_false_eq_true, and_self, List.length_cons, List.length_nil, mNoCut_, mCat_n, mCat_I, mCat_L, mCat_R, mIsL_n, mIsL_I, mIsL_R, mIsL_L, Nat.reduceAdd, Nat.reduceSub, Nat.reduceLeDiff, Nat.reduceLT, Nat.reduceEqDiff, Nat.zero_le, Int.reduceEq, Int.reduceLT, Int.reduceLE, Int.reduceNeg, Int.reduceAdd, if_true, if_false, reduceIte, reduceCtorEq, Bool.false_eq_true, ne_eq, qCmp_0, qCmp_1, qCmp_2, qCmp_3, qCmp_4, qCmp_5, ib_0, ib_1, ib_2, lb_0, lb_1, lb_2, dv_0, dv_1, wq_ic, wq_ld_i, wq_ld_a, wq_st_i, wq_iinc, wq_ib, wq_icmp, wq_if, wq_goto, wq_get, mGet_0, mGet_1, mGet_2, mGet_3, wq_ald, wq_ret0, wq_ret1, wq_ret2, wq_ret3, wq_ret4, ldR0, fk_2_9, ldI1, mrg_m1_, fk_2_2, fk_0_7, fk_2_10, stI4, fk_0_5, mrg_1_, stI5, ldI5, ldI4, fk_2_3, ldI2, ldI3, wq_callV3_0, wq_callV4_0, stI6, ldI6, fk_2_11, wq_callS4_1, mrg_0_, stI7, ldI7, wqinc5, fk_2_12, mPut_s, mPut_I0, mPut_R0, mPut_L0, mPut_I1, mPut_R1, mPut_L1, mGo_n, sfxX2_runsWith_22, cutX2_runsWith_22, sfxX2_runsWith_28, cutX2_runsWith_28, sfxX2_runsWith_43, cutX2_runsWith_43, sfxX2_runsWith_103, cutX2_runsWith_103, sfxX2_runsWith_107, cutX2_runsWith_107, sfxX2_runsWith_108, cutX2_runsWith_108, sfxX2_runsWith_142, cutX2_runsWith_142, sfxX2_runsWith_148, cutX2_runsWith_148, wq_cut, mGo_c, mMask_t, mMask_f, mMask_n, kX2_runsWith_148, kX2_runsWith_142, kX2_runsWith_108, kX2_runsWith_107, kX2_runsWith_103, kX2_runsWith_43, kX2_runsWith_28, kX2_runsWith_22, kX2_runsWith_0, sk_120, al_120, rf_120_7, sk_125, al_125, sn_125, rf_120_5, sk_123, al_123, sn_123, sk_140, al_140, rf_140_9, sk_146, al_146, sn_146, rf_140_2, rf_140_10, sk_147, al_147, sn_147, rf_140_3, sk_130, al_130, rf_140_11, sk_148, al_148, sn_148, rf_140_12, sk_149, al_149, sn_149, ald_n, ro0_n, al_ro, SX2_runsWith_0, SX2_runsWith_1, SX2_runsWith_2, SX2_runsWith_3, SX2_runsWith_4, shqRII_, shqRIII_, shqIIII_, spX0_cellAt, spX9_timeTo, spX2_goesFirst, spX0_tickAt, spX9_runsBy, mrg, mrl, mSet_ap, ncast, Option.some.injEq, w6, w7, w8, w9, lk, pp, e3]
            (try simp only [mrg, mrl] at *) <;> repeat' (first | (with_reducible assumption) | (with_reducible apply And.intro) | intro _ | (refine Exists.intro t (Exists.intro b ?_)) | (refine Exists.intro t ?_) | fail)
            all_goals first | omega | (rw [if_neg (by omega)]; exact hA () (by omega) (by omega)) | exact ⟨(20 - (k + 1)).toNat, by omega, k + 1, rfl, by omega, rfl, Or.inr ⟨by omega, hN2 () e (by omega) (by omega)⟩⟩ | skip
        · have o1 : o = -1 := by
            rw [ho]
            refine spS_pre ha.1 hk.1 hkS ?_
            rcases wk with ⟨k1, k2⟩ | ⟨k1, k2, k3⟩
            · exact Or.inl k1
            · rw [if_neg (by omega)] at hL
              exact Or.inr (by omega)
          clear h su hD sk ct fb
          have tk := tickT_bd H.1 H.2.1 h8 (k := k) (by omega) (by omega)
          have fj := (H.1.fld (f := f) hf).2.1
          have p1 := prod_bd (far_bd (b := cellT t b hh k) hc1 cl) (y := pcT t f) (b := 9) ⟨by omega, fj.2⟩
          simp only [false_and, and_false, true_or, or_true, false_or, or_false, true_and, and_true, true_implies, false_implies, implies_true, not_true_eq_false, not_false_eq_true, and_self, List.length_cons, List.length_nil, mNoCut_, mCat_n, mCat_I, mCat_L, mCat_R, mIsL_n, mIsL_I, mIsL_R, mIsL_L, Nat.reduceAdd, Nat.reduceSub, Nat.reduceLeDiff, Nat.reduceLT, Nat.reduceEqDiff, Nat.zero_le, Int.reduceEq, Int.reduceLT, Int.reduceLE, Int.reduceNeg, Int.reduceAdd, if_true, if_false, reduceIte, reduceCtorEq, Bool.false_eq_true, ne_eq, qCmp_0, qCmp_1, qCmp_2, qCmp_3, qCmp_4, qCmp_5, ib_0, ib_1, ib_2, lb_0, lb_1, lb_2, dv_0, dv_1, wq_ic, wq_ld_i, wq_ld_a, wq_st_i, wq_iinc, wq_ib, wq_icmp, wq_if, wq_goto, wq_get, mGet_0, mGet_1, mGet_2, mGet_3, wq_ald, wq_ret0, wq_ret1, wq_ret2, wq_ret3, wq_ret4, ldR0, fk_2_9, ldI1, mrg_m1_, fk_2_2, fk_0_7, fk_2_10, stI4, fk_0_5, mrg_1_, stI5, ldI5, ldI4, fk_2_3, ldI2, ldI3, wq_callV3_0, wq_callV4_0, stI6, ldI6, fk_2_11, wq_callS4_1, mrg_0_, stI7, ldI7, wqinc5, fk_2_12, mPut_s, mPut_I0, mPut_R0, mPut_L0, mPut_I1, mPut_R1, mPut_L1, mGo_n, sfxX2_runsWith_22, cutX2_runsWith_22, sfxX2_runsWith_28, cutX2_runsWith_28, sfxX2_runsWith_43, cutX2_runsWith_43, sfxX2_runsWith_103, cutX2_runsWith_103, sfxX2_runsWith_107, cutX2_runsWith_107, sfxX2_runsWith_108, cutX2_runsWith_108, sfxX2_runsWith_142, cutX2_runsWith_142, sfxX2_runsWith_148, cutX2_runsWith_148, wq_cut, mGo_c, mMask_t, mMask_f, mMask_n, kX2_runsWith_148, kX2_runsWith_142, kX2_runsWith_108, kX2_runsWith_107, kX2_runsWith_103, kX2_runsWith_43, kX2_runsWith_28, kX2_runsWith_22, kX2_runsWith_0, sk_120, al_120, rf_120_7, sk_125, al_125, sn_125, rf_120_5, sk_123, al_123, sn_123, sk_140, al_140, rf_140_9, sk_146, al_146, sn_146, rf_140_2, rf_140_10, sk_147, al_147, sn_147, rf_140_3, sk_130, al_130, rf_140_11, sk_148, al_148, sn_148, rf_140_12, sk_149, al_149, sn_149, ald_n, ro0_n, al_ro, SX2_runsWith_0, SX2_runsWith_1, SX2_runsWith_2, SX2_runsWith_3, SX2_runsWith_4, shqRII_, shqRIII_, shqIIII_, spX0_cellAt, spX9_timeTo, spX2_goesFirst, spX0_tickAt, spX9_runsBy, mrg, mrl, mSet_ap, ncast, Option.some.injEq, w6, w7, w8, w9, lk, pp, e3, e]
          (try simp only [mrg, mrl] at *) <;> repeat' (first | (with_reducible assumption) | (with_reducible apply And.intro) | intro _ | (refine Exists.intro t (Exists.intro b ?_)) | (refine Exists.intro t ?_) | fail)
          all_goals first | omega | (rw [if_neg (by omega)]; exact hA () (by omega) (by omega)) | exact ⟨(20 - (k + 1)).toNat, by omega, k + 1, rfl, by omega, rfl, Or.inl (hN1 () o1 (by omega))⟩ | skip
      · omega
  · show mWp _ _ _ _ _ _ kX2_runsWith_0 [some (mR (some 140)), some (mI hh), some (mI f), some (mI c), none, none, none, none] [] I
    clear h su
    have key : ∀ x : Int, x = L → ∃ n : Nat, ∃ k : Int, [some (mR (some 140)), some (mI hh), some (mI f), some (mI c), some (mI x), some (mI (airT t b hh + 1)), none, none] = [some (mR (some 140)), some (mI hh), some (mI f), some (mI c), some (mI L), some (mI k), none, none] ∧ (airT t b hh < k ∧ 1 ≤ k ∧ k ≤ 10) ∧ n = (20 - k).toNat ∧ ((∀ j : Int, airT t b hh < j → j ≤ stepsT t b hh → j < k → soonT (updS (I 141) f c) (pcT t) (cellT t b hh j) (tickT t b hh j) (ctS t (I 141) b hh) = -1) ∨ (k = L + 1 ∧ rnS t (updS (I 141) f c) b hh (ctS t (I 141) b hh) = rnS t (I 141) b hh (ctS t (I 141) b hh))) := fun x hx => ⟨_, airT t b hh + 1, by rw [hx], by omega, rfl, Or.inl (fun j j0 _ j1 => by omega)⟩
    by_cases z : woS t (I 141) b hh (ctS t (I 141) b hh) = -1
    · rw [if_pos z] at hL
      simp only [false_and, and_false, true_or, or_true, false_or, or_false, true_and, and_true, true_implies, false_implies, implies_true, not_true_eq_false, not_false_eq_true, and_self, List.length_cons, List.length_nil, mNoCut_, mCat_n, mCat_I, mCat_L, mCat_R, mIsL_n, mIsL_I, mIsL_R, mIsL_L, Nat.reduceAdd, Nat.reduceSub, Nat.reduceLeDiff, Nat.reduceLT, Nat.reduceEqDiff, Nat.zero_le, Int.reduceEq, Int.reduceLT, Int.reduceLE, Int.reduceNeg, Int.reduceAdd, if_true, if_false, reduceIte, reduceCtorEq, Bool.false_eq_true, ne_eq, qCmp_0, qCmp_1, qCmp_2, qCmp_3, qCmp_4, qCmp_5, ib_0, ib_1, ib_2, lb_0, lb_1, lb_2, dv_0, dv_1, wq_ic, wq_ld_i, wq_ld_a, wq_st_i, wq_iinc, wq_ib, wq_icmp, wq_if, wq_goto, wq_get, mGet_0, mGet_1, mGet_2, mGet_3, wq_ald, wq_ret0, wq_ret1, wq_ret2, wq_ret3, wq_ret4, ldR0, fk_2_9, ldI1, mrg_m1_, fk_2_2, fk_0_7, fk_2_10, stI4, fk_0_5, mrg_1_, stI5, ldI5, ldI4, fk_2_3, ldI2, ldI3, wq_callV3_0, wq_callV4_0, stI6, ldI6, fk_2_11, wq_callS4_1, mrg_0_, stI7, ldI7, wqinc5, fk_2_12, mPut_s, mPut_I0, mPut_R0, mPut_L0, mPut_I1, mPut_R1, mPut_L1, mGo_n, sfxX2_runsWith_22, cutX2_runsWith_22, sfxX2_runsWith_28, cutX2_runsWith_28, sfxX2_runsWith_43, cutX2_runsWith_43, sfxX2_runsWith_103, cutX2_runsWith_103, sfxX2_runsWith_107, cutX2_runsWith_107, sfxX2_runsWith_108, cutX2_runsWith_108, sfxX2_runsWith_142, cutX2_runsWith_142, sfxX2_runsWith_148, cutX2_runsWith_148, wq_cut, mGo_c, mMask_t, mMask_f, mMask_n, kX2_runsWith_148, kX2_runsWith_142, kX2_runsWith_108, kX2_runsWith_107, kX2_runsWith_103, kX2_runsWith_43, kX2_runsWith_28, kX2_runsWith_22, kX2_runsWith_0, sk_120, al_120, rf_120_7, sk_125, al_125, sn_125, rf_120_5, sk_123, al_123, sn_123, sk_140, al_140, rf_140_9, sk_146, al_146, sn_146, rf_140_2, rf_140_10, sk_147, al_147, sn_147, rf_140_3, sk_130, al_130, rf_140_11, sk_148, al_148, sn_148, rf_140_12, sk_149, al_149, sn_149, ald_n, ro0_n, al_ro, SX2_runsWith_0, SX2_runsWith_1, SX2_runsWith_2, SX2_runsWith_3, SX2_runsWith_4, shqRII_, shqRIII_, shqIIII_, spX0_cellAt, spX9_timeTo, spX2_goesFirst, spX0_tickAt, spX9_runsBy, mrg, mrl, mSet_ap, ncast, Option.some.injEq, w6, w7, e3, e5, z]
      (try simp only [mrg, mrl] at *) <;> repeat' (first | (with_reducible assumption) | (with_reducible apply And.intro) | intro _)
      all_goals first | omega | exact key _ hL.symm | skip
    · rw [if_neg z] at hL
      simp only [false_and, and_false, true_or, or_true, false_or, or_false, true_and, and_true, true_implies, false_implies, implies_true, not_true_eq_false, not_false_eq_true, and_self, List.length_cons, List.length_nil, mNoCut_, mCat_n, mCat_I, mCat_L, mCat_R, mIsL_n, mIsL_I, mIsL_R, mIsL_L, Nat.reduceAdd, Nat.reduceSub, Nat.reduceLeDiff, Nat.reduceLT, Nat.reduceEqDiff, Nat.zero_le, Int.reduceEq, Int.reduceLT, Int.reduceLE, Int.reduceNeg, Int.reduceAdd, if_true, if_false, reduceIte, reduceCtorEq, Bool.false_eq_true, ne_eq, qCmp_0, qCmp_1, qCmp_2, qCmp_3, qCmp_4, qCmp_5, ib_0, ib_1, ib_2, lb_0, lb_1, lb_2, dv_0, dv_1, wq_ic, wq_ld_i, wq_ld_a, wq_st_i, wq_iinc, wq_ib, wq_icmp, wq_if, wq_goto, wq_get, mGet_0, mGet_1, mGet_2, mGet_3, wq_ald, wq_ret0, wq_ret1, wq_ret2, wq_ret3, wq_ret4, ldR0, fk_2_9, ldI1, mrg_m1_, fk_2_2, fk_0_7, fk_2_10, stI4, fk_0_5, mrg_1_, stI5, ldI5, ldI4, fk_2_3, ldI2, ldI3, wq_callV3_0, wq_callV4_0, stI6, ldI6, fk_2_11, wq_callS4_1, mrg_0_, stI7, ldI7, wqinc5, fk_2_12, mPut_s, mPut_I0, mPut_R0, mPut_L0, mPut_I1, mPut_R1, mPut_L1, mGo_n, sfxX2_runsWith_22, cutX2_runsWith_22, sfxX2_runsWith_28, cutX2_runsWith_28, sfxX2_runsWith_43, cutX2_runsWith_43, sfxX2_runsWith_103, cutX2_runsWith_103, sfxX2_runsWith_107, cutX2_runsWith_107, sfxX2_runsWith_108, cutX2_runsWith_108, sfxX2_runsWith_142, cutX2_runsWith_142, sfxX2_runsWith_148, cutX2_runsWith_148, wq_cut, mGo_c, mMask_t, mMask_f, mMask_n, kX2_runsWith_148, kX2_runsWith_142, kX2_runsWith_108, kX2_runsWith_107, kX2_runsWith_103, kX2_runsWith_43, kX2_runsWith_28, kX2_runsWith_22, kX2_runsWith_0, sk_120, al_120, rf_120_7, sk_125, al_125, sn_125, rf_120_5, sk_123, al_123, sn_123, sk_140, al_140, rf_140_9, sk_146, al_146, sn_146, rf_140_2, rf_140_10, sk_147, al_147, sn_147, rf_140_3, sk_130, al_130, rf_140_11, sk_148, al_148, sn_148, rf_140_12, sk_149, al_149, sn_149, ald_n, ro0_n, al_ro, SX2_runsWith_0, SX2_runsWith_1, SX2_runsWith_2, SX2_runsWith_3, SX2_runsWith_4, shqRII_, shqRIII_, shqIIII_, spX0_cellAt, spX9_timeTo, spX2_goesFirst, spX0_tickAt, spX9_runsBy, mrg, mrl, mSet_ap, ncast, Option.some.injEq, w6, w7, e3, e5, z]
      (try simp only [mrg, mrl] at *) <;> repeat' (first | (with_reducible assumption) | (with_reducible apply And.intro) | intro _)
      all_goals first | omega | exact key _ hL.symm | skip
theorem ctrX2_runsWith {l : Launch} (hst : l.stackTraces = false) (hT : mTxM l) : mCtr l calX2_runsWith spX2_runsWith :=
  mMet (T := TX2_runsWith) (S := SX2_runsWith) hst hT cutX2_runsWith (by decide) okX2_runsWith ⟨_, _, rfl, rfl⟩ trivial (fun t bs h => by rcases cutsX2_runsWith h with ⟨-, rfl⟩ <;> rfl) (fun a => match a with
    | 0 => ctrX0_cellAt hst hT
    | 1 => ctrX9_timeTo hst hT
    | 2 => ctrX2_goesFirst hst hT
    | 3 => ctrX0_tickAt hst hT
    | 4 => ctrX9_runsBy hst hT
    | _ + 5 => mCtr_no) vcX2_runsWith

def spX2_costWith : mSp := shRIII (fun _ i h f c I Q => i = some 140 ∧ (0 ≤ f ∧ f < 9) ∧ (0 ≤ c ∧ c < 289) ∧ ∃ t b, ctxU I t b ∧ hitB t b h ∧ stB (I 141) ∧ I 141 f = -1 ∧ Wd I t (I 141) b h ∧ Q (.inl (some (mI (coS t (updS (I 141) f c) b h)))) I)
def SX2_costWith : Nat → mSp := fun a => match a with
  | 0 => spX0_isHigh
  | 1 => spX0_cellAt
  | 2 => spX10_apart
  | 3 => spX0_tickAt
  | 4 => spX2_goesFirst
  | 5 => spX9_chanceAt
  | 6 => spX9_price
  | 7 => spX2_runsWith
  | _ => fun _ _ _ _ => False
theorem SX2_costWith_0 : SX2_costWith 0 = spX0_isHigh := Eq.trans rfl rfl
theorem SX2_costWith_1 : SX2_costWith 1 = spX0_cellAt := Eq.trans rfl rfl
theorem SX2_costWith_2 : SX2_costWith 2 = spX10_apart := Eq.trans rfl rfl
theorem SX2_costWith_3 : SX2_costWith 3 = spX0_tickAt := Eq.trans rfl rfl
theorem SX2_costWith_4 : SX2_costWith 4 = spX2_goesFirst := Eq.trans rfl rfl
theorem SX2_costWith_5 : SX2_costWith 5 = spX9_chanceAt := Eq.trans rfl rfl
theorem SX2_costWith_6 : SX2_costWith 6 = spX9_price := Eq.trans rfl rfl
theorem SX2_costWith_7 : SX2_costWith 7 = spX2_runsWith := Eq.trans rfl rfl
set_option maxRecDepth 100000 in
set_option maxHeartbeats 1000000 in
theorem vcX2_costWith (fl : Nat → Bool) (avs : List mV) (I : mM) (Q : mO → mM → Prop) (hsp : spX2_costWith fl avs I Q) : mVC0 SX2_costWith fl Q kX2_costWith 7 avs I := by
  obtain ⟨i, hh, f, c, rfl, h0⟩ := shRIII_inv hsp
  obtain ⟨rfl, hf, hc1, t, b, H, hh1, hB, hO, hW, h⟩ := h0
  have h8 := H.h8 hh1.1 hh1.2
  have lh := H.lh hh1.1 hh1.2
  have st8 := (steps_spec H.1 H.2.1 h8).1
  have ha := H.1.air H.2.1 h8
  have e3 := lh.2.2.1
  have e5 := lh.2.2.2.2.1
  have w1 := hW.1
  have w2 := hW.2.1
  have w3 := hW.2.2.1
  have w4 := hW.2.2.2.1
  have g3 := H.2.2.2.2 3 (by omega) (by omega)
  have cu := coS_upd (t := t) (b := b) (h := hh) hO (show c ≠ -1 by omega) hf
  refine ⟨rfl, ?_⟩
  show mWp _ _ _ _ _ _ kX2_costWith_0 [some (mR (some 140)), some (mI hh), some (mI f), some (mI c), none, none, none] [] I
  by_cases hi : 1 ≤ airT t b hh ∧ airT t b hh ≤ stepsT t b hh
  · have lk := lh.2.2.2.2.2 (airT t b hh) hi.1 hi.2
    have cl := cell_in H.1 H.2.1 h8 (k := airT t b hh) ⟨by omega, hi.2⟩
    have tk := tickT_bd H.1 H.2.1 h8 (k := airT t b hh) (by omega) (by omega)
    have ff := H.1.fld (f := f) hf
    have pp := H.2.2.2.1 f hf.1 hf.2
    have fb := far_bd (b := cellT t b hh (airT t b hh)) hc1 cl
    have p1 := prod_bd fb (y := pcT t f) (b := 9) ⟨by omega, ff.2.1.2⟩
    have p3 := prod_bd (x := prT t f) (a := 50) ⟨by omega, by omega⟩ fb
    have ct := catcherT_bd (I 141) (pcT t) (cellT t b hh) (tickT t b hh) (airT t b hh) (stepsT t b hh)
    obtain ⟨o, ho⟩ : ∃ o, o = ctS t (I 141) b hh := ⟨_, rfl⟩
    have ct : -1 ≤ o ∧ o < 9 ∧ (o ≠ -1 → (1 ≤ airT t b hh ∧ airT t b hh ≤ stepsT t b hh) ∧ I 141 o ≠ -1) := by rw [ho]; exact ct
    have hA : ∀ _ : Unit, far c (cellT t b hh (airT t b hh)) * pcT t f ≤ tickT t b hh (airT t b hh) → frst (I 141) (pcT t) f c (cellT t b hh (airT t b hh)) o → Q (.inl (some (mI (priceT (t 3) (max 0 (hdT t f - prT t f * far c (cellT t b hh (airT t b hh)))) (rnS t (I 141) b hh (-1)))))) I := fun _ y1 y2 => by
      rw [if_pos ⟨hi, y1, by rw [← ho]; exact y2⟩] at cu
      rw [cu] at h
      exact h
    have hN : ∀ _ : Unit, ¬ (far c (cellT t b hh (airT t b hh)) * pcT t f ≤ tickT t b hh (airT t b hh) ∧ frst (I 141) (pcT t) f c (cellT t b hh (airT t b hh)) o) → Q (.inl (some (mI (priceT (t 3) (chS t (I 141) b hh) (rnS t (updS (I 141) f c) b hh (ctS t (I 141) b hh)))))) I := fun _ y => by
      rw [if_neg (fun w => y ⟨w.2.1, by rw [ho]; exact w.2.2⟩)] at cu
      rw [cu] at h
      exact h
    clear h cu
    rw [← ho] at w1 w2
    have bo : o ≠ -1 → 0 ≤ I 141 o ∧ I 141 o ≤ 288 := fun z => by
      have := hB o (by omega) (by omega)
      have := (ct.2.2 z).2
      omega
    by_cases z : o = -1
    · rw [if_pos z] at w2
      simp only [false_and, and_false, true_or, or_true, false_or, or_false, true_and, and_true, true_implies, false_implies, implies_true, not_true_eq_false, not_false_eq_true, and_self, List.length_cons, List.length_nil, mNoCut_, mCat_n, mCat_I, mCat_L, mCat_R, mIsL_n, mIsL_I, mIsL_R, mIsL_L, Nat.reduceAdd, Nat.reduceSub, Nat.reduceLeDiff, Nat.reduceLT, Nat.reduceEqDiff, Nat.zero_le, Int.reduceEq, Int.reduceLT, Int.reduceLE, Int.reduceNeg, Int.reduceAdd, if_true, if_false, reduceIte, reduceCtorEq, Bool.false_eq_true, ne_eq, qCmp_0, qCmp_1, qCmp_2, qCmp_3, qCmp_4, qCmp_5, ib_0, ib_1, ib_2, lb_0, lb_1, lb_2, dv_0, dv_1, wq_ld_i, wq_ld_a, wq_st_i, wq_ib, wq_icmp, wq_if, wq_get, mGet_0, mGet_1, mGet_2, mGet_3, wq_ald, wq_ret0, wq_ret1, wq_ret2, wq_ret3, wq_ret4, ldR0, fk_2_2, fk_0_5, ldI1, stI4, wq_callV2_0, ldI3, ldI4, wq_callV3_0, wq_callS2_3, stI5, ldI5, fk_2_1, fk_6_1, ldI2, stI6, ldI6, fk_2_5, fk_2_6, wq_callS4_1, fk_2_3, fk_2_8, fk_2_7, wq_callV4_0, mPut_s, mPut_I0, mPut_R0, mPut_L0, mPut_I1, mPut_R1, mPut_L1, mrg_0_, mGo_n, sfxX2_costWith_112, cutX2_costWith_112, kX2_costWith_112, kX2_costWith_0, sk_120, al_120, rf_120_5, sk_123, al_123, sn_123, sk_140, al_140, rf_140_2, rf_140_1, sk_12, al_12, rf_140_5, sk_142, al_142, sn_142, rf_140_6, sk_143, al_143, sn_143, rf_140_3, sk_130, al_130, rf_140_8, sk_145, al_145, sn_145, rf_140_7, sk_144, al_144, sn_144, rf_12_1, sk_21, al_21, sn_21, ald_n, ro0_n, al_ro, SX2_costWith_0, SX2_costWith_1, SX2_costWith_2, SX2_costWith_3, SX2_costWith_4, SX2_costWith_5, SX2_costWith_6, SX2_costWith_7, shqRI_, shqRII_, shqII_, shqIIII_, shqRIII_, spX0_isHigh, spX0_cellAt, spX10_apart, spX0_tickAt, spX2_goesFirst, spX9_chanceAt, spX9_price, spX2_runsWith, mrg, mrl, mSet_ap, ncast, Option.some.injEq, w1, w2, w3, w4, lk, pp, e3, e5, g3]
      (try simp only [mrg, mrl] at *) <;> repeat' (first | (with_reducible assumption) | (with_reducible apply And.intro) | intro _ | (refine Exists.intro t (Exists.intro b ?_)) | (refine Exists.intro t ?_) | fail)
      all_goals first | omega | exact hA () (by omega) (by omega) | exact hN () (by omega) | skip
    · rw [if_neg z] at w2
      have fo := (H.1.fld (f := o) ⟨by omega, by omega⟩).2.1
      have bz := bo z
      have p2 := prod_bd (far_bd (a := I 141 o) (b := cellT t b hh (airT t b hh)) ⟨by omega, by omega⟩ cl) (y := pcT t o) (b := 9) ⟨by omega, fo.2⟩
      simp only [false_and, and_false, true_or, or_true, false_or, or_false, true_and, and_true, true_implies, false_implies, implies_true, not_true_eq_false, not_false_eq_true, and_self, List.length_cons, List.length_nil, mNoCut_, mCat_n, mCat_I, mCat_L, mCat_R, mIsL_n, mIsL_I, mIsL_R, mIsL_L, Nat.reduceAdd, Nat.reduceSub, Nat.reduceLeDiff, Nat.reduceLT, Nat.reduceEqDiff, Nat.zero_le, Int.reduceEq, Int.reduceLT, Int.reduceLE, Int.reduceNeg, Int.reduceAdd, if_true, if_false, reduceIte, reduceCtorEq, Bool.false_eq_true, ne_eq, qCmp_0, qCmp_1, qCmp_2, qCmp_3, qCmp_4, qCmp_5, ib_0, ib_1, ib_2, lb_0, lb_1, lb_2, dv_0, dv_1, wq_ld_i, wq_ld_a, wq_st_i, wq_ib, wq_icmp, wq_if, wq_get, mGet_0, mGet_1, mGet_2, mGet_3, wq_ald, wq_ret0, wq_ret1, wq_ret2, wq_ret3, wq_ret4, ldR0, fk_2_2, fk_0_5, ldI1, stI4, wq_callV2_0, ldI3, ldI4, wq_callV3_0, wq_callS2_3, stI5, ldI5, fk_2_1, fk_6_1, ldI2, stI6, ldI6, fk_2_5, fk_2_6, wq_callS4_1, fk_2_3, fk_2_8, fk_2_7, wq_callV4_0, mPut_s, mPut_I0, mPut_R0, mPut_L0, mPut_I1, mPut_R1, mPut_L1, mrg_0_, mGo_n, sfxX2_costWith_112, cutX2_costWith_112, kX2_costWith_112, kX2_costWith_0, sk_120, al_120, rf_120_5, sk_123, al_123, sn_123, sk_140, al_140, rf_140_2, rf_140_1, sk_12, al_12, rf_140_5, sk_142, al_142, sn_142, rf_140_6, sk_143, al_143, sn_143, rf_140_3, sk_130, al_130, rf_140_8, sk_145, al_145, sn_145, rf_140_7, sk_144, al_144, sn_144, rf_12_1, sk_21, al_21, sn_21, ald_n, ro0_n, al_ro, SX2_costWith_0, SX2_costWith_1, SX2_costWith_2, SX2_costWith_3, SX2_costWith_4, SX2_costWith_5, SX2_costWith_6, SX2_costWith_7, shqRI_, shqRII_, shqII_, shqIIII_, shqRIII_, spX0_isHigh, spX0_cellAt, spX10_apart, spX0_tickAt, spX2_goesFirst, spX9_chanceAt, spX9_price, spX2_runsWith, mrg, mrl, mSet_ap, ncast, Option.some.injEq, w1, w2, w3, w4, lk, pp, e3, e5, g3]
      (try simp only [mrg, mrl] at *) <;> repeat' (first | (with_reducible assumption) | (with_reducible apply And.intro) | intro _ | (refine Exists.intro t (Exists.intro b ?_)) | (refine Exists.intro t ?_) | fail)
      all_goals first | omega | exact hA () (by omega) (by omega) | exact hN () (by omega) | skip
  · rw [if_neg (fun w => hi w.1)] at cu
    rw [cu] at h
    simp only [false_and, and_false, true_or, or_true, false_or, or_false, true_and, and_true, true_implies, false_implies, implies_true, not_true_eq_false, not_false_eq_true, and_self, List.length_cons, List.length_nil, mNoCut_, mCat_n, mCat_I, mCat_L, mCat_R, mIsL_n, mIsL_I, mIsL_R, mIsL_L, Nat.reduceAdd, Nat.reduceSub, Nat.reduceLeDiff, Nat.reduceLT, Nat.reduceEqDiff, Nat.zero_le, Int.reduceEq, Int.reduceLT, Int.reduceLE, Int.reduceNeg, Int.reduceAdd, if_true, if_false, reduceIte, reduceCtorEq, Bool.false_eq_true, ne_eq, qCmp_0, qCmp_1, qCmp_2, qCmp_3, qCmp_4, qCmp_5, ib_0, ib_1, ib_2, lb_0, lb_1, lb_2, dv_0, dv_1, wq_ld_i, wq_ld_a, wq_st_i, wq_ib, wq_icmp, wq_if, wq_get, mGet_0, mGet_1, mGet_2, mGet_3, wq_ald, wq_ret0, wq_ret1, wq_ret2, wq_ret3, wq_ret4, ldR0, fk_2_2, fk_0_5, ldI1, stI4, wq_callV2_0, ldI3, ldI4, wq_callV3_0, wq_callS2_3, stI5, ldI5, fk_2_1, fk_6_1, ldI2, stI6, ldI6, fk_2_5, fk_2_6, wq_callS4_1, fk_2_3, fk_2_8, fk_2_7, wq_callV4_0, mPut_s, mPut_I0, mPut_R0, mPut_L0, mPut_I1, mPut_R1, mPut_L1, mrg_0_, mGo_n, sfxX2_costWith_112, cutX2_costWith_112, kX2_costWith_112, kX2_costWith_0, sk_120, al_120, rf_120_5, sk_123, al_123, sn_123, sk_140, al_140, rf_140_2, rf_140_1, sk_12, al_12, rf_140_5, sk_142, al_142, sn_142, rf_140_6, sk_143, al_143, sn_143, rf_140_3, sk_130, al_130, rf_140_8, sk_145, al_145, sn_145, rf_140_7, sk_144, al_144, sn_144, rf_12_1, sk_21, al_21, sn_21, ald_n, ro0_n, al_ro, SX2_costWith_0, SX2_costWith_1, SX2_costWith_2, SX2_costWith_3, SX2_costWith_4, SX2_costWith_5, SX2_costWith_6, SX2_costWith_7, shqRI_, shqRII_, shqII_, shqIIII_, shqRIII_, spX0_isHigh, spX0_cellAt, spX10_apart, spX0_tickAt, spX2_goesFirst, spX9_chanceAt, spX9_price, spX2_runsWith, mrg, mrl, mSet_ap, ncast, Option.some.injEq, w1, w2, w3, w4, e3, e5, g3]
    (try simp only [mrg, mrl] at *) <;> repeat' (first | (with_reducible assumption) | (with_reducible apply And.intro) | intro _ | (refine Exists.intro t (Exists.intro b ?_)) | (refine Exists.intro t ?_) | fail)
    all_goals first | omega | exact h | assumption | skip
theorem ctrX2_costWith {l : Launch} (hst : l.stackTraces = false) (hT : mTxM l) : mCtr l calX2_costWith spX2_costWith :=
  mMet0 (T := TX2_costWith) (S := SX2_costWith) hst hT (by decide) okX2_costWith ⟨_, _, rfl, rfl⟩ (fun a => match a with
    | 0 => ctrX0_isHigh hst hT
    | 1 => ctrX0_cellAt hst hT
    | 2 => ctrX10_apart hst hT
    | 3 => ctrX0_tickAt hst hT
    | 4 => ctrX2_goesFirst hst hT
    | 5 => ctrX9_chanceAt hst hT
    | 6 => ctrX9_price hst hT
    | 7 => ctrX2_runsWith hst hT
    | _ + 8 => mCtr_no) vcX2_costWith


def spX2_topWith : mSp := shRII (fun _ i f c I Q => i = some 140 ∧ (0 ≤ f ∧ f < 9) ∧ (0 ≤ c ∧ c < 289) ∧ ∃ t b, ctxU I t b ∧ stB (I 141) ∧ I 141 f = -1 ∧ (∀ h : Int, hitB t b h → Wd I t (I 141) b h) ∧ Q (.inl (some (mL (meanT (stR t (updS (I 141) f c)) b)))) I)
def SX2_topWith : Nat → mSp := fun a => match a with
  | 0 => spX2_costWith
  | 1 => spX0_blend
  | _ => fun _ _ _ _ => False
theorem SX2_topWith_0 : SX2_topWith 0 = spX2_costWith := Eq.trans rfl rfl
theorem SX2_topWith_1 : SX2_topWith 1 = spX0_blend := Eq.trans rfl rfl
theorem cutsX2_topWith {t : Nat} {bs : List Bool} (h : cutX2_topWith t = some bs) : (t = 8 ∧ bs = [true, true, true, true, false, true, true, false]) := by
  unfold cutX2_topWith at h
  simp only [mLk] at h
  by_cases h0 : 8 = t
  · subst h0
    simp at h
    exact ⟨rfl, h.symm⟩
  rw [if_neg h0] at h
  cases h
set_option maxRecDepth 100000 in
set_option maxHeartbeats 1000000 in
theorem vcX2_topWith (fl : Nat → Bool) (avs : List mV) (I : mM) (Q : mO → mM → Prop) (hsp : spX2_topWith fl avs I Q) : mVC SX2_topWith fl Q kX2_topWith cutX2_topWith 8 avs I := by
  obtain ⟨i, f, c, rfl, h0⟩ := shRII_inv hsp
  obtain ⟨rfl, hf, hc1, t, b, H, hB, hO, hW, h⟩ := h0
  have hn := H.1.2.1 b H.2.1.1 H.2.1.2
  have e0 := H.2.2.1.1
  have e1 := H.2.2.1.2.1
  have e2 := H.2.2.1.2.2.1
  have hBA : stB (updS (I 141) f c) := fun g g0 g1 => by
    have := hB g g0 g1
    simp only [updS]
    split <;> omega
  refine ⟨rfl, (fun m pc lv st I1 => st = [] ∧ I1 = I ∧ ∃ j : Nat, lv = [some (mR (some 140)), some (mI f), some (mI c), some (mL (sumS t (updS (I 141) f c) b j)), none, some (mI (mostS t (updS (I 141) f c) b j)), some (mI j), none] ∧ j ≤ (t (13 + b)).toNat ∧ m = 8 - j), ?_, ?_⟩
  · intro n t bs hbs lv st I1 hc
    rcases cutsX2_topWith hbs with ⟨rfl, rfl⟩
    rw [sfxX2_topWith_8]
    obtain ⟨rfl, rfl, j, rfl, hj, hm⟩ := hc
    have mb := mostS_bd H.1 hBA H.2.1 j (by omega)
    have ab := allT_bd H.1 H.2.1
    have sh : 0 ≤ shareT t ∧ shareT t ≤ 100 := by
      have h7 := H.1.1.2.2.2.2.2.2.2.1
      unfold shareT
      split <;> omega
    have sb := sumS_bd H.1 hBA H.2.1 j (by omega)
    rcases Nat.lt_or_ge j (t (13 + b)).toNat with z | z
    · have h8 : 0 ≤ (j : Int) ∧ (j : Int) < 8 := ⟨by omega, by omega⟩
      have lh := H.lh (h := j) (by omega) (by omega)
      have hw := hW j ⟨by omega, by omega⟩
      have cb := coS_bd H.1 hBA (b := b) (h := j) H.2.1 h8
      have e124 : I1 124 j = rawT t b j 3 := lh.2.2.2.1
      have fb := forT_bd H.1 H.2.1 (h := j) ⟨by omega, by omega⟩
      have sN : sumS t (updS (I1 141) f c) b (j + 1) = sumS t (updS (I1 141) f c) b j + rawT t b j 3 * coS t (updS (I1 141) f c) b j := rfl
      have mN : mostS t (updS (I1 141) f c) b (j + 1) = if j = 0 then coS t (updS (I1 141) f c) b j else max (mostS t (updS (I1 141) f c) b j) (coS t (updS (I1 141) f c) b j) := rfl
      have k0 : j = 0 → mostS t (updS (I1 141) f c) b (j + 1) = coS t (updS (I1 141) f c) b j := fun q => by rw [mN, if_pos q]
      have k1 : j ≠ 0 → mostS t (updS (I1 141) f c) b (j + 1) = max (mostS t (updS (I1 141) f c) b j) (coS t (updS (I1 141) f c) b j) := fun q => by rw [mN, if_neg q]
      clear h hW mN lh
      have hh1 : hitB t b j := ⟨by omega, by omega⟩
      by_cases j0 : j = 0
      · have k := k0 j0
        clear k0 k1
        simp only [false_and, and_false, true_or, or_true, false_or, or_false, true_and, and_true, true_implies, false_implies, implies_true, not_true_eq_false, not_false_eq_true, and_self, List.length_cons, List.length_nil, mNoCut_, mCat_n, mCat_I, mCat_L, mCat_R, mIsL_n, mIsL_I, mIsL_R, mIsL_L, Nat.reduceAdd, Nat.reduceSub, Nat.reduceLeDiff, Nat.reduceLT, Nat.reduceEqDiff, Nat.zero_le, Int.reduceEq, Int.reduceLT, Int.reduceLE, Int.reduceNeg, Int.reduceAdd, if_true, if_false, reduceIte, reduceCtorEq, Bool.false_eq_true, ne_eq, qCmp_0, qCmp_1, qCmp_2, qCmp_3, qCmp_4, qCmp_5, ib_0, ib_1, ib_2, lb_0, lb_1, lb_2, dv_0, dv_1, wq_ic, wq_lc, wq_ld_i, wq_ld_l, wq_ld_a, wq_st_i, wq_st_l, wq_iinc, wq_lb, wq_i2l, wq_icmp, wq_if, wq_goto, wq_get, mGet_0, mGet_1, mGet_2, mGet_3, wq_ald, wq_ret0, wq_ret1, wq_ret2, wq_ret3, wq_ret4, wq_max, wq_min, wq_abs, wq_lmax, stL3, mrg_0_, stI5, stI6, ldI6, ldR0, fk_2_2, fk_0_0, ldI1, ldI2, wq_callV4_0, stI7, ldL3, fk_0_6, ldI7, ldI5, wqinc6, wq_callV3_0, mPut_s, mPut_I0, mPut_R0, mPut_L0, mPut_I1, mPut_R1, mPut_L1, mGo_n, sfxX2_topWith_8, cutX2_topWith_8, sfxX2_topWith_58, cutX2_topWith_58, sfxX2_topWith_65, cutX2_topWith_65, sfxX2_topWith_73, cutX2_topWith_73, wq_cut, mGo_c, mMask_t, mMask_f, mMask_n, kX2_topWith_73, kX2_topWith_65, kX2_topWith_58, kX2_topWith_8, kX2_topWith_0, sk_120, al_120, rf_120_6, sk_124, al_124, sn_124, sk_140, al_140, rf_140_2, ald_n, ro0_n, al_ro, SX2_topWith_0, SX2_topWith_1, shqRIII_, shqRLL_, spX2_costWith, spX0_blend, mrg, mrl, mSet_ap, ncast, Option.some.injEq, e0, e124]
        (try simp only [mrg, mrl] at *) <;> repeat' (first | (with_reducible assumption) | (with_reducible apply And.intro) | intro _ | (refine Exists.intro t (Exists.intro b ?_)) | (refine Exists.intro t ?_) | fail)
        all_goals first | omega | assumption | exact ⟨8 - (j + 1), by omega, j + 1, by rw [k, sN]; rfl, by omega, rfl⟩ | skip
      · have k := k1 j0
        clear k0 k1
        simp only [false_and, and_false, true_or, or_true, false_or, or_false, true_and, and_true, true_implies, false_implies, implies_true, not_true_eq_false, not_false_eq_true, and_self, List.length_cons, List.length_nil, mNoCut_, mCat_n, mCat_I, mCat_L, mCat_R, mIsL_n, mIsL_I, mIsL_R, mIsL_L, Nat.reduceAdd, Nat.reduceSub, Nat.reduceLeDiff, Nat.reduceLT, Nat.reduceEqDiff, Nat.zero_le, Int.reduceEq, Int.reduceLT, Int.reduceLE, Int.reduceNeg, Int.reduceAdd, if_true, if_false, reduceIte, reduceCtorEq, Bool.false_eq_true, ne_eq, qCmp_0, qCmp_1, qCmp_2, qCmp_3, qCmp_4, qCmp_5, ib_0, ib_1, ib_2, lb_0, lb_1, lb_2, dv_0, dv_1, wq_ic, wq_lc, wq_ld_i, wq_ld_l, wq_ld_a, wq_st_i, wq_st_l, wq_iinc, wq_lb, wq_i2l, wq_icmp, wq_if, wq_goto, wq_get, mGet_0, mGet_1, mGet_2, mGet_3, wq_ald, wq_ret0, wq_ret1, wq_ret2, wq_ret3, wq_ret4, wq_max, wq_min, wq_abs, wq_lmax, stL3, mrg_0_, stI5, stI6, ldI6, ldR0, fk_2_2, fk_0_0, ldI1, ldI2, wq_callV4_0, stI7, ldL3, fk_0_6, ldI7, ldI5, wqinc6, wq_callV3_0, mPut_s, mPut_I0, mPut_R0, mPut_L0, mPut_I1, mPut_R1, mPut_L1, mGo_n, sfxX2_topWith_8, cutX2_topWith_8, sfxX2_topWith_58, cutX2_topWith_58, sfxX2_topWith_65, cutX2_topWith_65, sfxX2_topWith_73, cutX2_topWith_73, wq_cut, mGo_c, mMask_t, mMask_f, mMask_n, kX2_topWith_73, kX2_topWith_65, kX2_topWith_58, kX2_topWith_8, kX2_topWith_0, sk_120, al_120, rf_120_6, sk_124, al_124, sn_124, sk_140, al_140, rf_140_2, ald_n, ro0_n, al_ro, SX2_topWith_0, SX2_topWith_1, shqRIII_, shqRLL_, spX2_costWith, spX0_blend, mrg, mrl, mSet_ap, ncast, Option.some.injEq, e0, e124]
        (try simp only [mrg, mrl] at *) <;> repeat' (first | (with_reducible assumption) | (with_reducible apply And.intro) | intro _ | (refine Exists.intro t (Exists.intro b ?_)) | (refine Exists.intro t ?_) | fail)
        all_goals first | omega | assumption | exact ⟨8 - (j + 1), by omega, j + 1, by rw [k, sN]; rfl, by omega, rfl⟩ | skip
    · have e : j = (t (13 + b)).toNat := by omega
      have hM := meanT_S H.1 (updS (I1 141) f c) H.2.1
      rw [← e] at hM
      rw [hM] at h
      clear hW
      simp only [false_and, and_false, true_or, or_true, false_or, or_false, true_and, and_true, true_implies, false_implies, implies_true, not_true_eq_false, not_false_eq_true, and_self, List.length_cons, List.length_nil, mNoCut_, mCat_n, mCat_I, mCat_L, mCat_R, mIsL_n, mIsL_I, mIsL_R, mIsL_L, Nat.reduceAdd, Nat.reduceSub, Nat.reduceLeDiff, Nat.reduceLT, Nat.reduceEqDiff, Nat.zero_le, Int.reduceEq, Int.reduceLT, Int.reduceLE, Int.reduceNeg, Int.reduceAdd, if_true, if_false, reduceIte, reduceCtorEq, Bool.false_eq_true, ne_eq, qCmp_0, qCmp_1, qCmp_2, qCmp_3, qCmp_4, qCmp_5, ib_0, ib_1, ib_2, lb_0, lb_1, lb_2, dv_0, dv_1, wq_ic, wq_lc, wq_ld_i, wq_ld_l, wq_ld_a, wq_st_i, wq_st_l, wq_iinc, wq_lb, wq_i2l, wq_icmp, wq_if, wq_goto, wq_get, mGet_0, mGet_1, mGet_2, mGet_3, wq_ald, wq_ret0, wq_ret1, wq_ret2, wq_ret3, wq_ret4, wq_max, wq_min, wq_abs, wq_lmax, stL3, mrg_0_, stI5, stI6, ldI6, ldR0, fk_2_2, fk_0_0, ldI1, ldI2, wq_callV4_0, stI7, ldL3, fk_0_6, ldI7, ldI5, wqinc6, wq_callV3_0, mPut_s, mPut_I0, mPut_R0, mPut_L0, mPut_I1, mPut_R1, mPut_L1, mGo_n, sfxX2_topWith_8, cutX2_topWith_8, sfxX2_topWith_58, cutX2_topWith_58, sfxX2_topWith_65, cutX2_topWith_65, sfxX2_topWith_73, cutX2_topWith_73, wq_cut, mGo_c, mMask_t, mMask_f, mMask_n, kX2_topWith_73, kX2_topWith_65, kX2_topWith_58, kX2_topWith_8, kX2_topWith_0, sk_120, al_120, rf_120_6, sk_124, al_124, sn_124, sk_140, al_140, rf_140_2, ald_n, ro0_n, al_ro, SX2_topWith_0, SX2_topWith_1, shqRIII_, shqRLL_, spX2_costWith, spX0_blend, mrg, mrl, mSet_ap, ncast, Option.some.injEq, e0, e1, e2]
      (try simp only [mrg, mrl] at *) <;> repeat' (first | (with_reducible assumption) | (with_reducible apply And.intro) | intro _ | (refine Exists.intro t (Exists.intro b ?_)) | (refine Exists.intro t ?_) | fail)
      all_goals first | omega | assumption | exact h | skip
  · show mWp _ _ _ _ _ _ kX2_topWith_0 [some (mR (some 140)), some (mI f), some (mI c), none, none, none, none, none] [] I
    clear h
    simp only [false_and, and_false, true_or, or_true, false_or, or_false, true_and, and_true, true_implies, false_implies, implies_true, not_true_eq_false, not_false_eq_true, and_self, List.length_cons, List.length_nil, mNoCut_, mCat_n, mCat_I, mCat_L, mCat_R, mIsL_n, mIsL_I, mIsL_R, mIsL_L, Nat.reduceAdd, Nat.reduceSub, Nat.reduceLeDiff, Nat.reduceLT, Nat.reduceEqDiff, Nat.zero_le, Int.reduceEq, Int.reduceLT, Int.reduceLE, Int.reduceNeg, Int.reduceAdd, if_true, if_false, reduceIte, reduceCtorEq, Bool.false_eq_true, ne_eq, qCmp_0, qCmp_1, qCmp_2, qCmp_3, qCmp_4, qCmp_5, ib_0, ib_1, ib_2, lb_0, lb_1, lb_2, dv_0, dv_1, wq_ic, wq_lc, wq_ld_i, wq_ld_l, wq_ld_a, wq_st_i, wq_st_l, wq_iinc, wq_lb, wq_i2l, wq_icmp, wq_if, wq_goto, wq_get, mGet_0, mGet_1, mGet_2, mGet_3, wq_ald, wq_ret0, wq_ret1, wq_ret2, wq_ret3, wq_ret4, wq_max, wq_min, wq_abs, wq_lmax, stL3, mrg_0_, stI5, stI6, ldI6, ldR0, fk_2_2, fk_0_0, ldI1, ldI2, wq_callV4_0, stI7, ldL3, fk_0_6, ldI7, ldI5, wqinc6, wq_callV3_0, mPut_s, mPut_I0, mPut_R0, mPut_L0, mPut_I1, mPut_R1, mPut_L1, mGo_n, sfxX2_topWith_8, cutX2_topWith_8, sfxX2_topWith_58, cutX2_topWith_58, sfxX2_topWith_65, cutX2_topWith_65, sfxX2_topWith_73, cutX2_topWith_73, wq_cut, mGo_c, mMask_t, mMask_f, mMask_n, kX2_topWith_73, kX2_topWith_65, kX2_topWith_58, kX2_topWith_8, kX2_topWith_0, sk_120, al_120, rf_120_6, sk_124, al_124, sn_124, sk_140, al_140, rf_140_2, ald_n, ro0_n, al_ro, SX2_topWith_0, SX2_topWith_1, shqRIII_, shqRLL_, spX2_costWith, spX0_blend, mrg, mrl, mSet_ap, ncast, Option.some.injEq]
    exact ⟨8, 0, rfl, by omega, rfl⟩
theorem ctrX2_topWith {l : Launch} (hst : l.stackTraces = false) (hT : mTxM l) : mCtr l calX2_topWith spX2_topWith :=
  mMet (T := TX2_topWith) (S := SX2_topWith) hst hT cutX2_topWith (by decide) okX2_topWith ⟨_, _, rfl, rfl⟩ trivial (fun t bs h => by rcases cutsX2_topWith h with ⟨-, rfl⟩ <;> rfl) (fun a => match a with
    | 0 => ctrX2_costWith hst hT
    | 1 => ctrX0_blend hst hT
    | _ + 2 => mCtr_no) vcX2_topWith

end SPC27
