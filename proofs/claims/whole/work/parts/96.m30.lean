section SPM30
/-- what a field that is read leaves -/
def fiP (I' I : mM) (g : rdG) : Prop := (∀ i, i ≠ 200 → i ≠ 201 → i ≠ 205 → I' i = I i) ∧ (∀ p : Int, ¬ (p = 3 ∨ (6 ≤ p ∧ p ≤ 15)) → I' 200 p = I 200 p) ∧ I' 200 3 = 0 ∧ I' 200 6 = 0 ∧ I' 200 14 = g.1 ∧ mrg (I' 200 11) ∧ (g.1 ≠ 0 → I' 200 15 = g.2.1 ∧ I' 201 = I 201) ∧ (g.1 = 0 → I' 200 15 = -1 ∧ I' 201 = neR (I 201) g.2.2.2)
def neK (t g : Int → Int) (a b c d : Int) : Int → Int := fun q => if (0 ≤ q ∧ q < a) ∨ (9 ≤ q ∧ q < b) then g q else if 550 ≤ q ∧ q < 550 + 5 * c ∧ (q - 550) % 5 = 0 then -1 else if 595 ≤ q ∧ q < d then 0 else t q
theorem neK_0 (t g : Int → Int) : neK t g 0 9 0 595 = t := by
  funext q
  unfold neK
  rw [if_neg (by omega), if_neg (by omega), if_neg (by omega)]
theorem neK_e (t g : Int → Int) : neK t g 6 550 9 635 = neR t g := by
  funext q
  unfold neK neR
  have e : ((0 ≤ q ∧ q < 6) ∨ (9 ≤ q ∧ q < 550)) = ((0 ≤ q ∧ q ≤ 5) ∨ (9 ≤ q ∧ q < 550)) := propext ⟨fun h => by omega, fun h => by omega⟩
  simp only [e]
  rfl
theorem neK_a {M : mM} {t g : Int → Int} {k : Int} (h : M 201 = neK t g k 9 0 595) (hk : 0 ≤ k ∧ k ≤ 5) : mSet M 201 k (g k) 201 = neK t g (k + 1) 9 0 595 := by
  funext q
  by_cases e : q = k
  · rw [e, set_eq]
    unfold neK
    rw [if_pos (by omega)]
  · rw [set_nq e, h]
    unfold neK
    have e2 : ((0 ≤ q ∧ q < k) ∨ (9 ≤ q ∧ q < (9 : Int))) = ((0 ≤ q ∧ q < k + 1) ∨ (9 ≤ q ∧ q < (9 : Int))) := propext ⟨fun h => by omega, fun h => by omega⟩
    simp only [e2]
theorem neK_b {M : mM} {t g : Int → Int} {k : Int} (h : M 201 = neK t g 6 k 0 595) (hk : 9 ≤ k ∧ k < 550) : mSet M 201 k (g k) 201 = neK t g 6 (k + 1) 0 595 := by
  funext q
  by_cases e : q = k
  · rw [e, set_eq]
    unfold neK
    rw [if_pos (by omega)]
  · rw [set_nq e, h]
    unfold neK
    have e2 : ((0 ≤ q ∧ q < (6 : Int)) ∨ (9 ≤ q ∧ q < k)) = ((0 ≤ q ∧ q < (6 : Int)) ∨ (9 ≤ q ∧ q < k + 1)) := propext ⟨fun h => by omega, fun h => by omega⟩
    simp only [e2]
theorem neK_c {M : mM} {t g : Int → Int} {k : Int} (h : M 201 = neK t g 6 550 k 595) (hk : 0 ≤ k ∧ k < 9) : mSet M 201 (550 + 5 * k) (-1) 201 = neK t g 6 550 (k + 1) 595 := by
  funext q
  by_cases e : q = 550 + 5 * k
  · rw [e, set_eq]
    unfold neK
    rw [if_neg (by omega), if_pos (by omega)]
  · rw [set_nq e, h]
    unfold neK
    have e2 : (550 ≤ q ∧ q < 550 + 5 * k ∧ (q - 550) % 5 = 0) = (550 ≤ q ∧ q < 550 + 5 * (k + 1) ∧ (q - 550) % 5 = 0) := propext ⟨fun h => by omega, fun h => by omega⟩
    simp only [e2]
theorem neK_d {M : mM} {t g : Int → Int} {k : Int} (h : M 201 = neK t g 6 550 9 k) (hk : 595 ≤ k ∧ k < 635) : mSet M 201 k 0 201 = neK t g 6 550 9 (k + 1) := by
  funext q
  by_cases e : q = k
  · rw [e, set_eq]
    unfold neK
    rw [if_neg (by omega), if_neg (by omega), if_pos (by omega)]
  · rw [set_nq e, h]
    unfold neK
    have e2 : (595 ≤ q ∧ q < k) = (595 ≤ q ∧ q < k + 1) := propext ⟨fun h => by omega, fun h => by omega⟩
    simp only [e2]
def fcP (I' I : mM) : Prop := (∀ i, i ≠ 200 → i ≠ 201 → i ≠ 205 → I' i = I i) ∧ (∀ p : Int, ¬ (p = 3 ∨ (6 ≤ p ∧ p ≤ 15)) → I' 200 p = I 200 p) ∧ I' 200 3 = 0 ∧ I' 200 6 = 0 ∧ mrg (I' 200 11)
theorem fcP.s5 {I' I : mM} (h : fcP I' I) (p v : Int) : fcP (mSet I' 205 p v) I := by
  refine ⟨fun i i0 i1 i2 => by rw [set_ne i2]; exact h.1 i i0 i1 i2, fun q hq => by rw [set_ne (by decide)]; exact h.2.1 q hq, by rw [set_ne (by decide)]; exact h.2.2.1, by rw [set_ne (by decide)]; exact h.2.2.2.1, by rw [set_ne (by decide)]; exact h.2.2.2.2⟩
theorem fcP.s1 {I' I : mM} (h : fcP I' I) (p v : Int) : fcP (mSet I' 201 p v) I := by
  refine ⟨fun i i0 i1 i2 => by rw [set_ne i1]; exact h.1 i i0 i1 i2, fun q hq => by rw [set_ne (by decide)]; exact h.2.1 q hq, by rw [set_ne (by decide)]; exact h.2.2.1, by rw [set_ne (by decide)]; exact h.2.2.2.1, by rw [set_ne (by decide)]; exact h.2.2.2.2⟩
theorem fcP.g {I1 I2 I : mM} (h : fcP I1 I) (f : frG I2 I1) (h11 : mrg (I2 200 11)) : fcP I2 I := by
  refine ⟨fun i i0 i1 i2 => by rw [f.1 i i0 i2]; exact h.1 i i0 i1 i2, fun q hq => by rw [f.2 q (by omega)]; exact h.2.1 q hq, by rw [f.2 3 (by decide)]; exact h.2.2.1, by rw [f.2 6 (by decide)]; exact h.2.2.2.1, h11⟩
theorem fcP.s0 {I' I : mM} (h : fcP I' I) {p : Int} (hp : p = 14 ∨ p = 15) (v : Int) : fcP (mSet I' 200 p v) I := by
  refine ⟨fun i i0 i1 i2 => by rw [set_ne i0]; exact h.1 i i0 i1 i2, fun q hq => by rw [set_nq (by omega)]; exact h.2.1 q hq, by rw [set_nq (by omega)]; exact h.2.2.1, by rw [set_nq (by omega)]; exact h.2.2.2.1, by rw [set_nq (by omega)]; exact h.2.2.2.2⟩
def spX11_field : mSp := shRI (fun _ i n I Q => i = some 200 ∧ mrg n ∧ (0 ≤ I 200 6 ∧ I 200 6 ≤ 800) ∧ mrg (I 200 11) ∧ ∃ B : Int → Int, (∀ j : Int, 0 ≤ j → j < 800 → I 204 j = B j ∧ 0 ≤ B j ∧ B j ≤ 255) ∧ (¬ (0 ≤ n ∧ n ≤ I 200 6) → Q (.inl (some (mI 0))) (mSet I 200 3 1)) ∧ ((0 ≤ n ∧ n ≤ I 200 6) → ∀ t : Int → Int, (∀ q : Int, 0 ≤ q → q < 550 → t q = beT q) → ∀ I' : mM, fiP I' I (fiL B n 802 0 t) → Q (.inl (some (mI (if (fiL B n 802 0 t).1 = 0 then (fiL B n 802 0 t).2.2.2 0 else -10 - (fiL B n 802 0 t).1)))) I'))
def SX11_field : Nat → mSp := fun a => match a with
  | 0 => spX11_within
  | 1 => spX11_fails
  | 2 => spX11_begins
  | 3 => spX11_reads
  | 4 => spX11_readLine
  | _ => fun _ _ _ _ => False
theorem SX11_field_0 : SX11_field 0 = spX11_within := Eq.trans rfl rfl
theorem SX11_field_1 : SX11_field 1 = spX11_fails := Eq.trans rfl rfl
theorem SX11_field_2 : SX11_field 2 = spX11_begins := Eq.trans rfl rfl
theorem SX11_field_3 : SX11_field 3 = spX11_reads := Eq.trans rfl rfl
theorem SX11_field_4 : SX11_field 4 = spX11_readLine := Eq.trans rfl rfl
theorem cutsX11_field {t : Nat} {bs : List Bool} (h : cutX11_field t = some bs) : (t = 47 ∧ bs = [true, false, true]) ∨ (t = 78 ∧ bs = [true, false, false]) ∨ (t = 143 ∧ bs = [true, false, true]) ∨ (t = 169 ∧ bs = [true, false, true]) ∨ (t = 196 ∧ bs = [true, false, true]) ∨ (t = 225 ∧ bs = [true, false, true]) := by
  unfold cutX11_field at h
  simp only [mLk] at h
  by_cases h0 : 47 = t
  · subst h0
    simp at h
    exact Or.inl ⟨rfl, h.symm⟩
  rw [if_neg h0] at h
  by_cases h1 : 78 = t
  · subst h1
    simp at h
    exact Or.inr (Or.inl ⟨rfl, h.symm⟩)
  rw [if_neg h1] at h
  by_cases h2 : 143 = t
  · subst h2
    simp at h
    exact Or.inr (Or.inr (Or.inl ⟨rfl, h.symm⟩))
  rw [if_neg h2] at h
  by_cases h3 : 169 = t
  · subst h3
    simp at h
    exact Or.inr (Or.inr (Or.inr (Or.inl ⟨rfl, h.symm⟩)))
  rw [if_neg h3] at h
  by_cases h4 : 196 = t
  · subst h4
    simp at h
    exact Or.inr (Or.inr (Or.inr (Or.inr (Or.inl ⟨rfl, h.symm⟩))))
  rw [if_neg h4] at h
  by_cases h5 : 225 = t
  · subst h5
    simp at h
    exact Or.inr (Or.inr (Or.inr (Or.inr (Or.inr (⟨rfl, h.symm⟩)))))
  rw [if_neg h5] at h
  cases h
set_option maxRecDepth 100000 in
set_option maxHeartbeats 1000000 in
theorem vcX11_field (fl : Nat → Bool) (avs : List mV) (I : mM) (Q : mO → mM → Prop) (hsp : spX11_field fl avs I Q) : mVC SX11_field fl Q kX11_field cutX11_field 3 avs I := by
  obtain ⟨i, N, rfl, h0⟩ := shRI_inv hsp
  obtain ⟨rfl, rn, h6, h11, B, hB, h1, h2⟩ := h0
  refine ⟨rfl, (fun m pc lv st I1 => st = [] ∧ (0 ≤ N ∧ N ≤ I 200 6) ∧ fcP I1 I ∧ (if pc = 47 then ∃ k : Nat, lv = [some (mR (some 200)), none, some (mI k)] ∧ k ≤ 550 ∧ m = 9000 - k ∧ I1 200 7 = N ∧ I1 200 8 = 0 ∧ I1 200 12 = 0 ∧ I1 201 = I 201 ∧ ∀ q : Int, 0 ≤ q → q < k → I1 205 q = 0 else ∃ t : Int → Int, (∀ q : Int, 0 ≤ q → q < 550 → t q = beT q) ∧ (if pc = 78 then lv = [some (mR (some 200)), none, none] ∧ I1 201 = I 201 ∧ tpS I1 B N ∧ ((m = 3500 ∧ I1 200 12 ≠ 0 ∧ mrg (I1 200 12) ∧ I1 200 12 = (fiL B N 802 0 t).1 ∧ I1 200 13 = (fiL B N 802 0 t).2.1) ∨ (∃ (f : Nat) (x : Int), m = 4000 + f ∧ f ≤ 802 ∧ I1 200 12 = 0 ∧ tkS I1 B N x ∧ (0 ≤ x ∧ x ≤ N) ∧ fwP (I1 205) ∧ N - x < f ∧ fiL B N 802 0 t = fiL B N f x (I1 205))) else ∃ k : Int, lv = [some (mR (some 200)), none, some (mI k)] ∧ I1 200 14 = 0 ∧ I1 200 15 = -1 ∧ (fiL B N 802 0 t).1 = 0 ∧ I1 205 = (fiL B N 802 0 t).2.2.2 ∧ (if pc = 143 then (0 ≤ k ∧ k ≤ 6) ∧ m = (3000 - k).toNat ∧ I1 201 = neK (I 201) (I1 205) k 9 0 595 else if pc = 169 then (9 ≤ k ∧ k ≤ 550) ∧ m = (2000 - k).toNat ∧ I1 201 = neK (I 201) (I1 205) 6 k 0 595 else if pc = 196 then (0 ≤ k ∧ k ≤ 9) ∧ m = (1000 - k).toNat ∧ I1 201 = neK (I 201) (I1 205) 6 550 k 595 else (595 ≤ k ∧ k ≤ 635) ∧ m = (800 - k).toNat ∧ I1 201 = neK (I 201) (I1 205) 6 550 9 k)))), ?_, ?_⟩
  · intro n t bs hbs lv st I1 hc
    rcases cutsX11_field hbs with ⟨rfl, rfl⟩ | ⟨rfl, rfl⟩ | ⟨rfl, rfl⟩ | ⟨rfl, rfl⟩ | ⟨rfl, rfl⟩ | ⟨rfl, rfl⟩
    · skip
      rw [sfxX11_field_47]
      obtain ⟨rfl, hN, hF, k, rfl, hk, hm, e7, e8, e12, e201, hz⟩ := hc
      clear h1 h2
      have r11 := hF.2.2.2.2
      rcases Nat.lt_or_ge k 550 with z | z
      · have key : ∃ n', n' < n ∧ (0 ≤ N ∧ N ≤ I 200 6) ∧ fcP (mSet I1 205 k 0) I ∧ ∃ k_1 : Nat, [some (mR (some 200)), none, some (mI ((k : Int) + 1))] = [some (mR (some 200)), none, some (mI k_1)] ∧ k_1 ≤ 550 ∧ n' = 9000 - k_1 ∧ I1 200 7 = N ∧ I1 200 8 = 0 ∧ I1 200 12 = 0 ∧ mSet I1 205 k 0 201 = I 201 ∧ ∀ q : Int, 0 ≤ q → q < k_1 → (if q = k then 0 else I1 205 q) = 0 := by
          refine ⟨9000 - (k + 1), by omega, hN, hF.s5 _ _, k + 1, rfl, by omega, rfl, e7, e8, e12, by rw [set_ne (by decide)]; exact e201, fun q q0 q1 => ?_⟩
          by_cases e : q = k
          · rw [if_pos e]
          · rw [if_neg e]
            exact hz q q0 (by omega)
        simp only [false_and, and_false, true_or, or_true, false_or, or_false, true_and, and_true, true_implies, false_implies, implies_true, not_true_eq_false, not_false_eq_true, and_self, List.length_cons, List.length_nil, mNoCut_, mCat_n, mCat_I, mCat_L, mCat_R, mIsL_n, mIsL_I, mIsL_R, mIsL_L, Nat.reduceAdd, Nat.reduceSub, Nat.reduceLeDiff, Nat.reduceLT, Nat.reduceEqDiff, Nat.zero_le, Int.reduceEq, Int.reduceLT, Int.reduceLE, Int.reduceNeg, Int.reduceAdd, if_true, if_false, reduceIte, reduceCtorEq, Bool.false_eq_true, ne_eq, qCmp_0, qCmp_1, qCmp_2, qCmp_3, qCmp_4, qCmp_5, ib_0, ib_1, ib_2, lb_0, lb_1, lb_2, dv_0, dv_1, wq_ic, wq_lc, wq_ld_i, wq_ld_a, wq_st_i, wq_iinc, wq_ib, wq_i2l, wq_icmp, wq_if, wq_goto, wq_get, mGet_0, mGet_1, mGet_2, mGet_3, wq_putI, wq_putL, wq_ald, wq_astI, wq_astL, wq_ret0, wq_ret1, wq_ret2, wq_ret3, wq_ret4, ldR0, mrg_0_, fk_11_3, ldI1, fk_11_6, wq_callS3_1, mrg_1_, wq_callV2_0, fk_11_7, fk_11_8, fk_11_12, stI2, ldI2, mrg_550_, fk_11_5, wqinc2, wq_callS1_1, wq_callV1_0, fk_11_10, fk_11_14, mrg_m1_, fk_11_13, fk_11_15, mrg_m10_, mrg_5_, fk_11_0, mrg_9_, mrg_595_, mrg_635_, mPut_s, mPut_I0, mPut_R0, mPut_L0, mPut_I1, mPut_R1, mPut_L1, mGo_n, sfxX11_field_25, cutX11_field_25, sfxX11_field_47, cutX11_field_47, sfxX11_field_67, cutX11_field_67, sfxX11_field_78, cutX11_field_78, sfxX11_field_99, cutX11_field_99, sfxX11_field_119, cutX11_field_119, sfxX11_field_123, cutX11_field_123, sfxX11_field_141, cutX11_field_141, sfxX11_field_143, cutX11_field_143, sfxX11_field_166, cutX11_field_166, sfxX11_field_169, cutX11_field_169, sfxX11_field_194, cutX11_field_194, sfxX11_field_196, cutX11_field_196, sfxX11_field_221, cutX11_field_221, sfxX11_field_225, cutX11_field_225, sfxX11_field_245, cutX11_field_245, wq_cut, mGo_c, mMask_t, mMask_f, mMask_n, kX11_field_245, kX11_field_225, kX11_field_221, kX11_field_196, kX11_field_194, kX11_field_169, kX11_field_166, kX11_field_143, kX11_field_141, kX11_field_123, kX11_field_119, kX11_field_99, kX11_field_78, kX11_field_67, kX11_field_47, kX11_field_25, kX11_field_0, sk_200, al_200, rf_200_5, sk_205, al_205, sn_205, rf_200_0, sk_201, al_201, sn_201, ald_n, ro0_n, al_ro, ↓SX11_field_0, ↓SX11_field_1, ↓SX11_field_2, ↓SX11_field_3, ↓SX11_field_4, ↓shqLLL_, ↓shqRI_, ↓shqR_, ↓spX11_within, ↓spX11_fails, ↓spX11_begins, ↓spX11_reads, ↓spX11_readLine, mrg, mrl, mSet_ap, ncast, Option.some.injEq]
        (try simp only [mrg, mrl] at *) <;> repeat' (first | (with_reducible assumption) | (with_reducible apply And.intro) | intro _)
        all_goals first | omega | exact key | skip
      · have e : k = 550 := by omega
        subst e
        have M5 : ∀ q : Int, 0 ≤ q → q < 550 → mSet (mSet (mSet (mSet (mSet I1 205 1 8) 205 2 9) 205 3 20) 205 4 9) 205 5 1 205 q = beT q := fun q q0 q1 => by
          have := hz q q0 q1
          simp only [mSet, beT]
          by_cases y1 : q = 1
          · subst y1; simp
          · by_cases y2 : q = 2
            · subst y2; simp
            · by_cases y3 : q = 3
              · subst y3; simp
              · by_cases y4 : q = 4
                · subst y4; simp
                · by_cases y5 : q = 5
                  · subst y5; simp
                  · simp [y1, y2, y3, y4, y5, this]
        have F5 : fcP (mSet (mSet (mSet (mSet (mSet I1 205 1 8) 205 2 9) 205 3 20) 205 4 9) 205 5 1) I := ((((hF.s5 _ _).s5 _ _).s5 _ _).s5 _ _).s5 _ _
        have T5 : tpS (mSet (mSet (mSet (mSet (mSet I1 205 1 8) 205 2 9) 205 3 20) 205 4 9) 205 5 1) B N := by
          refine ⟨?_, ⟨by omega, by omega⟩, fun j j0 j1 => ?_⟩
          · rw [set_ne (by decide), set_ne (by decide), set_ne (by decide), set_ne (by decide), set_ne (by decide)]
            exact e7
          · rw [F5.1 204 (by decide) (by decide) (by decide)]
            exact hB j j0 j1
        have q201 : mSet (mSet (mSet (mSet (mSet I1 205 1 8) 205 2 9) 205 3 20) 205 4 9) 205 5 1 201 = I 201 := by
          rw [set_ne (by decide), set_ne (by decide), set_ne (by decide), set_ne (by decide), set_ne (by decide)]
          exact e201
        simp only [false_and, and_false, true_or, or_true, false_or, or_false, true_and, and_true, true_implies, false_implies, implies_true, not_true_eq_false, not_false_eq_true, and_self, List.length_cons, List.length_nil, mNoCut_, mCat_n, mCat_I, mCat_L, mCat_R, mIsL_n, mIsL_I, mIsL_R, mIsL_L, Nat.reduceAdd, Nat.reduceSub, Nat.reduceLeDiff, Nat.reduceLT, Nat.reduceEqDiff, Nat.zero_le, Int.reduceEq, Int.reduceLT, Int.reduceLE, Int.reduceNeg, Int.reduceAdd, if_true, if_false, reduceIte, reduceCtorEq, Bool.false_eq_true, ne_eq, qCmp_0, qCmp_1, qCmp_2, qCmp_3, qCmp_4, qCmp_5, ib_0, ib_1, ib_2, lb_0, lb_1, lb_2, dv_0, dv_1, wq_ic, wq_lc, wq_ld_i, wq_ld_a, wq_st_i, wq_iinc, wq_ib, wq_i2l, wq_icmp, wq_if, wq_goto, wq_get, mGet_0, mGet_1, mGet_2, mGet_3, wq_putI, wq_putL, wq_ald, wq_astI, wq_astL, wq_ret0, wq_ret1, wq_ret2, wq_ret3, wq_ret4, ldR0, mrg_0_, fk_11_3, ldI1, fk_11_6, wq_callS3_1, mrg_1_, wq_callV2_0, fk_11_7, fk_11_8, fk_11_12, stI2, ldI2, mrg_550_, fk_11_5, wqinc2, wq_callS1_1, wq_callV1_0, fk_11_10, fk_11_14, mrg_m1_, fk_11_13, fk_11_15, mrg_m10_, mrg_5_, fk_11_0, mrg_9_, mrg_595_, mrg_635_, mPut_s, mPut_I0, mPut_R0, mPut_L0, mPut_I1, mPut_R1, mPut_L1, mGo_n, sfxX11_field_25, cutX11_field_25, sfxX11_field_47, cutX11_field_47, sfxX11_field_67, cutX11_field_67, sfxX11_field_78, cutX11_field_78, sfxX11_field_99, cutX11_field_99, sfxX11_field_119, cutX11_field_119, sfxX11_field_123, cutX11_field_123, sfxX11_field_141, cutX11_field_141, sfxX11_field_143, cutX11_field_143, sfxX11_field_166, cutX11_field_166, sfxX11_field_169, cutX11_field_169, sfxX11_field_194, cutX11_field_194, sfxX11_field_196, cutX11_field_196, sfxX11_field_221, cutX11_field_221, sfxX11_field_225, cutX11_field_225, sfxX11_field_245, cutX11_field_245, wq_cut, mGo_c, mMask_t, mMask_f, mMask_n, kX11_field_245, kX11_field_225, kX11_field_221, kX11_field_196, kX11_field_194, kX11_field_169, kX11_field_166, kX11_field_143, kX11_field_141, kX11_field_123, kX11_field_119, kX11_field_99, kX11_field_78, kX11_field_67, kX11_field_47, kX11_field_25, kX11_field_0, sk_200, al_200, rf_200_5, sk_205, al_205, sn_205, rf_200_0, sk_201, al_201, sn_201, ald_n, ro0_n, al_ro, ↓SX11_field_0, ↓SX11_field_1, ↓SX11_field_2, ↓SX11_field_3, ↓SX11_field_4, ↓shqLLL_, ↓shqRI_, ↓shqR_, ↓spX11_within, ↓spX11_fails, ↓spX11_begins, ↓spX11_reads, ↓spX11_readLine, mrg, mrl, mSet_ap, ncast, Option.some.injEq, Option.getD_some]
        refine ⟨B, N, 0, T5, e8, ⟨by omega, hN.1⟩, r11, fun I2 f2 k2 => ?_⟩
        have e205 := f2.1 205 (by decide)
        refine ⟨4802, by omega, hN, F5.g f2.b.g k2.2.2.2.2, I2 205, fun q q0 q1 => by rw [e205]; exact M5 q q0 q1, by rw [f2.1 201 (by decide)]; exact q201, T5.fr f2.b, Or.inr ⟨802, 0, rfl, Nat.le_refl _, ?_, k2, ⟨by omega, hN.1⟩, beT_fw (fun q q0 q1 => by rw [e205]; exact M5 q q0 q1), by omega, rfl⟩⟩
        rw [f2.2 12 (by decide), set_ne (by decide), set_ne (by decide), set_ne (by decide), set_ne (by decide), set_ne (by decide)]
        exact e12
    · skip
      rw [sfxX11_field_78]
      obtain ⟨rfl, hN, hF, t, ht, rfl, e201, hT, hc⟩ := hc
      rcases hc with ⟨hm, hb, rb, q1, q2⟩ | ⟨f, x, hm, hf8, hb, hK, hx, hw, hf, hR⟩
      · have h2 := h2 hN t ht (mSet (mSet I1 200 14 (I1 200 12)) 200 15 (I1 200 13))
        have F1 := (hF.s0 (p := 14) (Or.inl rfl) (I1 200 12)).s0 (p := 15) (Or.inr rfl) (I1 200 13)
        rw [if_neg (show ¬ (fiL B N 802 0 t).1 = 0 by omega), ← q1] at h2
        have h2 := h2 ⟨F1.1, F1.2.1, F1.2.2.1, F1.2.2.2.1, by rw [set_nq (by decide), set_eq]; exact q1, F1.2.2.2.2, fun _ => ⟨by rw [set_eq]; exact q2, by rw [set_ne (by decide), set_ne (by decide)]; exact e201⟩, fun w => absurd (q1.trans w) hb⟩
        clear h1
        simp only [false_and, and_false, true_or, or_true, false_or, or_false, true_and, and_true, true_implies, false_implies, implies_true, not_true_eq_false, not_false_eq_true, and_self, List.length_cons, List.length_nil, mNoCut_, mCat_n, mCat_I, mCat_L, mCat_R, mIsL_n, mIsL_I, mIsL_R, mIsL_L, Nat.reduceAdd, Nat.reduceSub, Nat.reduceLeDiff, Nat.reduceLT, Nat.reduceEqDiff, Nat.zero_le, Int.reduceEq, Int.reduceLT, Int.reduceLE, Int.reduceNeg, Int.reduceAdd, if_true, if_false, reduceIte, reduceCtorEq, Bool.false_eq_true, ne_eq, qCmp_0, qCmp_1, qCmp_2, qCmp_3, qCmp_4, qCmp_5, ib_0, ib_1, ib_2, lb_0, lb_1, lb_2, dv_0, dv_1, wq_ic, wq_lc, wq_ld_i, wq_ld_a, wq_st_i, wq_iinc, wq_ib, wq_i2l, wq_icmp, wq_if, wq_goto, wq_get, mGet_0, mGet_1, mGet_2, mGet_3, wq_putI, wq_putL, wq_ald, wq_astI, wq_astL, wq_ret0, wq_ret1, wq_ret2, wq_ret3, wq_ret4, ldR0, mrg_0_, fk_11_3, ldI1, fk_11_6, wq_callS3_1, mrg_1_, wq_callV2_0, fk_11_7, fk_11_8, fk_11_12, stI2, ldI2, mrg_550_, fk_11_5, wqinc2, wq_callS1_1, wq_callV1_0, fk_11_10, fk_11_14, mrg_m1_, fk_11_13, fk_11_15, mrg_m10_, mrg_5_, fk_11_0, mrg_9_, mrg_595_, mrg_635_, mPut_s, mPut_I0, mPut_R0, mPut_L0, mPut_I1, mPut_R1, mPut_L1, mGo_n, sfxX11_field_25, cutX11_field_25, sfxX11_field_47, cutX11_field_47, sfxX11_field_67, cutX11_field_67, sfxX11_field_78, cutX11_field_78, sfxX11_field_99, cutX11_field_99, sfxX11_field_119, cutX11_field_119, sfxX11_field_123, cutX11_field_123, sfxX11_field_141, cutX11_field_141, sfxX11_field_143, cutX11_field_143, sfxX11_field_166, cutX11_field_166, sfxX11_field_169, cutX11_field_169, sfxX11_field_194, cutX11_field_194, sfxX11_field_196, cutX11_field_196, sfxX11_field_221, cutX11_field_221, sfxX11_field_225, cutX11_field_225, sfxX11_field_245, cutX11_field_245, wq_cut, mGo_c, mMask_t, mMask_f, mMask_n, kX11_field_245, kX11_field_225, kX11_field_221, kX11_field_196, kX11_field_194, kX11_field_169, kX11_field_166, kX11_field_143, kX11_field_141, kX11_field_123, kX11_field_119, kX11_field_99, kX11_field_78, kX11_field_67, kX11_field_47, kX11_field_25, kX11_field_0, sk_200, al_200, rf_200_5, sk_205, al_205, sn_205, rf_200_0, sk_201, al_201, sn_201, ald_n, ro0_n, al_ro, ↓SX11_field_0, ↓SX11_field_1, ↓SX11_field_2, ↓SX11_field_3, ↓SX11_field_4, ↓shqLLL_, ↓shqRI_, ↓shqR_, ↓spX11_within, ↓spX11_fails, ↓spX11_begins, ↓spX11_reads, ↓spX11_readLine, mrg, mrl, mSet_ap, ncast, Option.some.injEq]
        (try simp only [mrg, mrl] at *) <;> repeat' (first | (with_reducible assumption) | (with_reducible apply And.intro) | intro _)
        all_goals first | omega | exact h2 | skip
      · obtain ⟨f', rfl⟩ : ∃ f', f = f' + 1 := ⟨f - 1, by omega⟩
        have k10 := hK.2.2.1
        have tkb := tk_bd B N x
        have r11 := hF.2.2.2.2
        clear h1 h2
        by_cases z : tkT B N x = 0
        · have hR' : fiL B N 802 0 t = (0, 0, x, I1 205) := by rw [hR]; exact if_pos z
          have F1 := (hF.s0 (p := 14) (Or.inl rfl) 0).s0 (p := 15) (Or.inr rfl) (-1)
          have key : ∃ n', n' < n ∧ (0 ≤ N ∧ N ≤ I 200 6) ∧ fcP (mSet (mSet I1 200 14 0) 200 15 (-1)) I ∧ ∃ t : Int → Int, (∀ q : Int, 0 ≤ q → q < 550 → t q = beT q) ∧ ∃ k_1 : Int, [some (mR (some 200)), none, some (mI 0)] = [some (mR (some 200)), none, some (mI k_1)] ∧ (fiL B N 802 0 t).1 = 0 ∧ mSet (mSet I1 200 14 0) 200 15 (-1) 205 = (fiL B N 802 0 t).2.2.2 ∧ (0 ≤ k_1 ∧ k_1 ≤ 6) ∧ n' = (3000 - k_1).toNat ∧ mSet (mSet I1 200 14 0) 200 15 (-1) 201 = neK (I 201) (mSet (mSet I1 200 14 0) 200 15 (-1) 205) k_1 9 0 595 := ⟨3000, by omega, hN, F1, t, ht, 0, rfl, by rw [hR'], by rw [hR', set_ne (by decide), set_ne (by decide)], by omega, rfl, by rw [neK_0, set_ne (by decide), set_ne (by decide)]; exact e201⟩
          simp only [false_and, and_false, true_or, or_true, false_or, or_false, true_and, and_true, true_implies, false_implies, implies_true, not_true_eq_false, not_false_eq_true, and_self, List.length_cons, List.length_nil, mNoCut_, mCat_n, mCat_I, mCat_L, mCat_R, mIsL_n, mIsL_I, mIsL_R, mIsL_L, Nat.reduceAdd, Nat.reduceSub, Nat.reduceLeDiff, Nat.reduceLT, Nat.reduceEqDiff, Nat.zero_le, Int.reduceEq, Int.reduceLT, Int.reduceLE, Int.reduceNeg, Int.reduceAdd, if_true, if_false, reduceIte, reduceCtorEq, Bool.false_eq_true, ne_eq, qCmp_0, qCmp_1, qCmp_2, qCmp_3, qCmp_4, qCmp_5, ib_0, ib_1, ib_2, lb_0, lb_1, lb_2, dv_0, dv_1, wq_ic, wq_lc, wq_ld_i, wq_ld_a, wq_st_i, wq_iinc, wq_ib, wq_i2l, wq_icmp, wq_if, wq_goto, wq_get, mGet_0, mGet_1, mGet_2, mGet_3, wq_putI, wq_putL, wq_ald, wq_astI, wq_astL, wq_ret0, wq_ret1, wq_ret2, wq_ret3, wq_ret4, ldR0, mrg_0_, fk_11_3, ldI1, fk_11_6, wq_callS3_1, mrg_1_, wq_callV2_0, fk_11_7, fk_11_8, fk_11_12, stI2, ldI2, mrg_550_, fk_11_5, wqinc2, wq_callS1_1, wq_callV1_0, fk_11_10, fk_11_14, mrg_m1_, fk_11_13, fk_11_15, mrg_m10_, mrg_5_, fk_11_0, mrg_9_, mrg_595_, mrg_635_, mPut_s, mPut_I0, mPut_R0, mPut_L0, mPut_I1, mPut_R1, mPut_L1, mGo_n, sfxX11_field_25, cutX11_field_25, sfxX11_field_47, cutX11_field_47, sfxX11_field_67, cutX11_field_67, sfxX11_field_78, cutX11_field_78, sfxX11_field_99, cutX11_field_99, sfxX11_field_119, cutX11_field_119, sfxX11_field_123, cutX11_field_123, sfxX11_field_141, cutX11_field_141, sfxX11_field_143, cutX11_field_143, sfxX11_field_166, cutX11_field_166, sfxX11_field_169, cutX11_field_169, sfxX11_field_194, cutX11_field_194, sfxX11_field_196, cutX11_field_196, sfxX11_field_221, cutX11_field_221, sfxX11_field_225, cutX11_field_225, sfxX11_field_245, cutX11_field_245, wq_cut, mGo_c, mMask_t, mMask_f, mMask_n, kX11_field_245, kX11_field_225, kX11_field_221, kX11_field_196, kX11_field_194, kX11_field_169, kX11_field_166, kX11_field_143, kX11_field_141, kX11_field_123, kX11_field_119, kX11_field_99, kX11_field_78, kX11_field_67, kX11_field_47, kX11_field_25, kX11_field_0, sk_200, al_200, rf_200_5, sk_205, al_205, sn_205, rf_200_0, sk_201, al_201, sn_201, ald_n, ro0_n, al_ro, ↓SX11_field_0, ↓SX11_field_1, ↓SX11_field_2, ↓SX11_field_3, ↓SX11_field_4, ↓shqLLL_, ↓shqRI_, ↓shqR_, ↓spX11_within, ↓spX11_fails, ↓spX11_begins, ↓spX11_reads, ↓spX11_readLine, mrg, mrl, mSet_ap, ncast, Option.some.injEq, hb, k10, z]
          (try simp only [mrg, mrl] at *) <;> repeat' (first | (with_reducible assumption) | (with_reducible apply And.intro) | intro _)
          all_goals first | omega | exact key | skip
        · have lo := li_ok (B := B) hx hw
          have hR' : fiL B N 802 0 t = if (liT B N x (I1 205)).1 ≠ 0 then liT B N x (I1 205) else fiL B N f' (liT B N x (I1 205)).2.2.1 (liT B N x (I1 205)).2.2.2 := by rw [hR]; exact if_neg z
          simp only [false_and, and_false, true_or, or_true, false_or, or_false, true_and, and_true, true_implies, false_implies, implies_true, not_true_eq_false, not_false_eq_true, and_self, List.length_cons, List.length_nil, mNoCut_, mCat_n, mCat_I, mCat_L, mCat_R, mIsL_n, mIsL_I, mIsL_R, mIsL_L, Nat.reduceAdd, Nat.reduceSub, Nat.reduceLeDiff, Nat.reduceLT, Nat.reduceEqDiff, Nat.zero_le, Int.reduceEq, Int.reduceLT, Int.reduceLE, Int.reduceNeg, Int.reduceAdd, if_true, if_false, reduceIte, reduceCtorEq, Bool.false_eq_true, ne_eq, qCmp_0, qCmp_1, qCmp_2, qCmp_3, qCmp_4, qCmp_5, ib_0, ib_1, ib_2, lb_0, lb_1, lb_2, dv_0, dv_1, wq_ic, wq_lc, wq_ld_i, wq_ld_a, wq_st_i, wq_iinc, wq_ib, wq_i2l, wq_icmp, wq_if, wq_goto, wq_get, mGet_0, mGet_1, mGet_2, mGet_3, wq_putI, wq_putL, wq_ald, wq_astI, wq_astL, wq_ret0, wq_ret1, wq_ret2, wq_ret3, wq_ret4, ldR0, mrg_0_, fk_11_3, ldI1, fk_11_6, wq_callS3_1, mrg_1_, wq_callV2_0, fk_11_7, fk_11_8, fk_11_12, stI2, ldI2, mrg_550_, fk_11_5, wqinc2, wq_callS1_1, wq_callV1_0, fk_11_10, fk_11_14, mrg_m1_, fk_11_13, fk_11_15, mrg_m10_, mrg_5_, fk_11_0, mrg_9_, mrg_595_, mrg_635_, mPut_s, mPut_I0, mPut_R0, mPut_L0, mPut_I1, mPut_R1, mPut_L1, mGo_n, sfxX11_field_25, cutX11_field_25, sfxX11_field_47, cutX11_field_47, sfxX11_field_67, cutX11_field_67, sfxX11_field_78, cutX11_field_78, sfxX11_field_99, cutX11_field_99, sfxX11_field_119, cutX11_field_119, sfxX11_field_123, cutX11_field_123, sfxX11_field_141, cutX11_field_141, sfxX11_field_143, cutX11_field_143, sfxX11_field_166, cutX11_field_166, sfxX11_field_169, cutX11_field_169, sfxX11_field_194, cutX11_field_194, sfxX11_field_196, cutX11_field_196, sfxX11_field_221, cutX11_field_221, sfxX11_field_225, cutX11_field_225, sfxX11_field_245, cutX11_field_245, wq_cut, mGo_c, mMask_t, mMask_f, mMask_n, kX11_field_245, kX11_field_225, kX11_field_221, kX11_field_196, kX11_field_194, kX11_field_169, kX11_field_166, kX11_field_143, kX11_field_141, kX11_field_123, kX11_field_119, kX11_field_99, kX11_field_78, kX11_field_67, kX11_field_47, kX11_field_25, kX11_field_0, sk_200, al_200, rf_200_5, sk_205, al_205, sn_205, rf_200_0, sk_201, al_201, sn_201, ald_n, ro0_n, al_ro, ↓SX11_field_0, ↓SX11_field_1, ↓SX11_field_2, ↓SX11_field_3, ↓SX11_field_4, ↓shqLLL_, ↓shqRI_, ↓shqR_, ↓spX11_within, ↓spX11_fails, ↓spX11_begins, ↓spX11_reads, ↓spX11_readLine, mrg, mrl, mSet_ap, ncast, Option.some.injEq, hb, k10, z]
          refine ⟨⟨by omega, by omega⟩, hw.2.1, hw.1.1, B, N, x, hT, hK, hx, fun I2 g => ?_⟩
          have e12 := g.2.2.1
          by_cases y : (liT B N x (I1 205)).1 = 0
          · obtain ⟨y1, y2, y3, y4⟩ := lo.2.2 y
            have e5 := g.2.2.2.2 y
            refine ⟨4000 + f', by omega, hN, hF.g g.1 g.2.1.2.2.2.2, t, ht, by rw [g.1.1 201 (by decide) (by decide)]; exact e201, hT.frg g.1, Or.inr ⟨f', _, rfl, by omega, by omega, g.2.1, lo.2.1, by rw [e5]; exact y2, by omega, ?_⟩⟩
            rw [hR', if_neg (fun w => w y), e5]
          · rw [if_pos y] at hR'
            exact ⟨3500, by omega, hN, hF.g g.1 g.2.1.2.2.2.2, t, ht, by rw [g.1.1 201 (by decide) (by decide)]; exact e201, hT.frg g.1, Or.inl ⟨rfl, by omega, ⟨by omega, by omega⟩, by rw [hR']; exact e12, by rw [hR']; exact g.2.2.2.1 y⟩⟩
    · skip
      rw [sfxX11_field_143]
      obtain ⟨rfl, hN, hF, t, ht, k, rfl, e14, e15, g0, e205, hk, hm, e201⟩ := hc
      clear h1 h2
      rcases Int.lt_or_le k 6 with z | z
      · have key : ∃ n', n' < n ∧ (0 ≤ N ∧ N ≤ I 200 6) ∧ fcP (mSet I1 201 k (I1 205 k)) I ∧ ∃ t : Int → Int, (∀ q : Int, 0 ≤ q → q < 550 → t q = beT q) ∧ ∃ k_1 : Int, [some (mR (some 200)), none, some (mI (k + 1))] = [some (mR (some 200)), none, some (mI k_1)] ∧ I1 200 14 = 0 ∧ I1 200 15 = -1 ∧ (fiL B N 802 0 t).1 = 0 ∧ I1 205 = (fiL B N 802 0 t).2.2.2 ∧ (0 ≤ k_1 ∧ k_1 ≤ 6) ∧ n' = (3000 - k_1).toNat ∧ mSet I1 201 k (I1 205 k) 201 = neK (I 201) (I1 205) k_1 9 0 595 := ⟨(3000 - (k + 1)).toNat, by omega, hN, hF.s1 _ _, t, ht, k + 1, rfl, e14, e15, g0, e205, by omega, rfl, neK_a e201 (by omega)⟩
        simp only [false_and, and_false, true_or, or_true, false_or, or_false, true_and, and_true, true_implies, false_implies, implies_true, not_true_eq_false, not_false_eq_true, and_self, List.length_cons, List.length_nil, mNoCut_, mCat_n, mCat_I, mCat_L, mCat_R, mIsL_n, mIsL_I, mIsL_R, mIsL_L, Nat.reduceAdd, Nat.reduceSub, Nat.reduceLeDiff, Nat.reduceLT, Nat.reduceEqDiff, Nat.zero_le, Int.reduceEq, Int.reduceLT, Int.reduceLE, Int.reduceNeg, Int.reduceAdd, if_true, if_false, reduceIte, reduceCtorEq, Bool.false_eq_true, ne_eq, qCmp_0, qCmp_1, qCmp_2, qCmp_3, qCmp_4, qCmp_5, ib_0, ib_1, ib_2, lb_0, lb_1, lb_2, dv_0, dv_1, wq_ic, wq_lc, wq_ld_i, wq_ld_a, wq_st_i, wq_iinc, wq_ib, wq_i2l, wq_icmp, wq_if, wq_goto, wq_get, mGet_0, mGet_1, mGet_2, mGet_3, wq_putI, wq_putL, wq_ald, wq_astI, wq_astL, wq_ret0, wq_ret1, wq_ret2, wq_ret3, wq_ret4, ldR0, mrg_0_, fk_11_3, ldI1, fk_11_6, wq_callS3_1, mrg_1_, wq_callV2_0, fk_11_7, fk_11_8, fk_11_12, stI2, ldI2, mrg_550_, fk_11_5, wqinc2, wq_callS1_1, wq_callV1_0, fk_11_10, fk_11_14, mrg_m1_, fk_11_13, fk_11_15, mrg_m10_, mrg_5_, fk_11_0, mrg_9_, mrg_595_, mrg_635_, mPut_s, mPut_I0, mPut_R0, mPut_L0, mPut_I1, mPut_R1, mPut_L1, mGo_n, sfxX11_field_25, cutX11_field_25, sfxX11_field_47, cutX11_field_47, sfxX11_field_67, cutX11_field_67, sfxX11_field_78, cutX11_field_78, sfxX11_field_99, cutX11_field_99, sfxX11_field_119, cutX11_field_119, sfxX11_field_123, cutX11_field_123, sfxX11_field_141, cutX11_field_141, sfxX11_field_143, cutX11_field_143, sfxX11_field_166, cutX11_field_166, sfxX11_field_169, cutX11_field_169, sfxX11_field_194, cutX11_field_194, sfxX11_field_196, cutX11_field_196, sfxX11_field_221, cutX11_field_221, sfxX11_field_225, cutX11_field_225, sfxX11_field_245, cutX11_field_245, wq_cut, mGo_c, mMask_t, mMask_f, mMask_n, kX11_field_245, kX11_field_225, kX11_field_221, kX11_field_196, kX11_field_194, kX11_field_169, kX11_field_166, kX11_field_143, kX11_field_141, kX11_field_123, kX11_field_119, kX11_field_99, kX11_field_78, kX11_field_67, kX11_field_47, kX11_field_25, kX11_field_0, sk_200, al_200, rf_200_5, sk_205, al_205, sn_205, rf_200_0, sk_201, al_201, sn_201, ald_n, ro0_n, al_ro, ↓SX11_field_0, ↓SX11_field_1, ↓SX11_field_2, ↓SX11_field_3, ↓SX11_field_4, ↓shqLLL_, ↓shqRI_, ↓shqR_, ↓spX11_within, ↓spX11_fails, ↓spX11_begins, ↓spX11_reads, ↓spX11_readLine, mrg, mrl, mSet_ap, ncast, Option.some.injEq]
        (try simp only [mrg, mrl] at *) <;> repeat' (first | (with_reducible assumption) | (with_reducible apply And.intro) | intro _)
        all_goals first | omega | exact key | skip
      · have e : k = 6 := by omega
        subst e
        have key : ∃ n', n' < n ∧ (0 ≤ N ∧ N ≤ I 200 6) ∧ fcP I1 I ∧ ∃ t : Int → Int, (∀ q : Int, 0 ≤ q → q < 550 → t q = beT q) ∧ ∃ k_1 : Int, [some (mR (some 200)), none, some (mI 9)] = [some (mR (some 200)), none, some (mI k_1)] ∧ I1 200 14 = 0 ∧ I1 200 15 = -1 ∧ (fiL B N 802 0 t).1 = 0 ∧ I1 205 = (fiL B N 802 0 t).2.2.2 ∧ (9 ≤ k_1 ∧ k_1 ≤ 550) ∧ n' = (2000 - k_1).toNat ∧ I1 201 = neK (I 201) (I1 205) 6 k_1 0 595 := ⟨((2000 : Int) - 9).toNat, by omega, hN, hF, t, ht, 9, rfl, e14, e15, g0, e205, by omega, rfl, e201⟩
        simp only [false_and, and_false, true_or, or_true, false_or, or_false, true_and, and_true, true_implies, false_implies, implies_true, not_true_eq_false, not_false_eq_true, and_self, List.length_cons, List.length_nil, mNoCut_, mCat_n, mCat_I, mCat_L, mCat_R, mIsL_n, mIsL_I, mIsL_R, mIsL_L, Nat.reduceAdd, Nat.reduceSub, Nat.reduceLeDiff, Nat.reduceLT, Nat.reduceEqDiff, Nat.zero_le, Int.reduceEq, Int.reduceLT, Int.reduceLE, Int.reduceNeg, Int.reduceAdd, if_true, if_false, reduceIte, reduceCtorEq, Bool.false_eq_true, ne_eq, qCmp_0, qCmp_1, qCmp_2, qCmp_3, qCmp_4, qCmp_5, ib_0, ib_1, ib_2, lb_0, lb_1, lb_2, dv_0, dv_1, wq_ic, wq_lc, wq_ld_i, wq_ld_a, wq_st_i, wq_iinc, wq_ib, wq_i2l, wq_icmp, wq_if, wq_goto, wq_get, mGet_0, mGet_1, mGet_2, mGet_3, wq_putI, wq_putL, wq_ald, wq_astI, wq_astL, wq_ret0, wq_ret1, wq_ret2, wq_ret3, wq_ret4, ldR0, mrg_0_, fk_11_3, ldI1, fk_11_6, wq_callS3_1, mrg_1_, wq_callV2_0, fk_11_7, fk_11_8, fk_11_12, stI2, ldI2, mrg_550_, fk_11_5, wqinc2, wq_callS1_1, wq_callV1_0, fk_11_10, fk_11_14, mrg_m1_, fk_11_13, fk_11_15, mrg_m10_, mrg_5_, fk_11_0, mrg_9_, mrg_595_, mrg_635_, mPut_s, mPut_I0, mPut_R0, mPut_L0, mPut_I1, mPut_R1, mPut_L1, mGo_n, sfxX11_field_25, cutX11_field_25, sfxX11_field_47, cutX11_field_47, sfxX11_field_67, cutX11_field_67, sfxX11_field_78, cutX11_field_78, sfxX11_field_99, cutX11_field_99, sfxX11_field_119, cutX11_field_119, sfxX11_field_123, cutX11_field_123, sfxX11_field_141, cutX11_field_141, sfxX11_field_143, cutX11_field_143, sfxX11_field_166, cutX11_field_166, sfxX11_field_169, cutX11_field_169, sfxX11_field_194, cutX11_field_194, sfxX11_field_196, cutX11_field_196, sfxX11_field_221, cutX11_field_221, sfxX11_field_225, cutX11_field_225, sfxX11_field_245, cutX11_field_245, wq_cut, mGo_c, mMask_t, mMask_f, mMask_n, kX11_field_245, kX11_field_225, kX11_field_221, kX11_field_196, kX11_field_194, kX11_field_169, kX11_field_166, kX11_field_143, kX11_field_141, kX11_field_123, kX11_field_119, kX11_field_99, kX11_field_78, kX11_field_67, kX11_field_47, kX11_field_25, kX11_field_0, sk_200, al_200, rf_200_5, sk_205, al_205, sn_205, rf_200_0, sk_201, al_201, sn_201, ald_n, ro0_n, al_ro, ↓SX11_field_0, ↓SX11_field_1, ↓SX11_field_2, ↓SX11_field_3, ↓SX11_field_4, ↓shqLLL_, ↓shqRI_, ↓shqR_, ↓spX11_within, ↓spX11_fails, ↓spX11_begins, ↓spX11_reads, ↓spX11_readLine, mrg, mrl, mSet_ap, ncast, Option.some.injEq]
        (try simp only [mrg, mrl] at *) <;> repeat' (first | (with_reducible assumption) | (with_reducible apply And.intro) | intro _)
        all_goals first | omega | exact key | skip
    · skip
      rw [sfxX11_field_169]
      obtain ⟨rfl, hN, hF, t, ht, k, rfl, e14, e15, g0, e205, hk, hm, e201⟩ := hc
      clear h1 h2
      rcases Int.lt_or_le k 550 with z | z
      · have key : ∃ n', n' < n ∧ (0 ≤ N ∧ N ≤ I 200 6) ∧ fcP (mSet I1 201 k (I1 205 k)) I ∧ ∃ t : Int → Int, (∀ q : Int, 0 ≤ q → q < 550 → t q = beT q) ∧ ∃ k_1 : Int, [some (mR (some 200)), none, some (mI (k + 1))] = [some (mR (some 200)), none, some (mI k_1)] ∧ I1 200 14 = 0 ∧ I1 200 15 = -1 ∧ (fiL B N 802 0 t).1 = 0 ∧ I1 205 = (fiL B N 802 0 t).2.2.2 ∧ (9 ≤ k_1 ∧ k_1 ≤ 550) ∧ n' = (2000 - k_1).toNat ∧ mSet I1 201 k (I1 205 k) 201 = neK (I 201) (I1 205) 6 k_1 0 595 := ⟨(2000 - (k + 1)).toNat, by omega, hN, hF.s1 _ _, t, ht, k + 1, rfl, e14, e15, g0, e205, by omega, rfl, neK_b e201 (by omega)⟩
        simp only [false_and, and_false, true_or, or_true, false_or, or_false, true_and, and_true, true_implies, false_implies, implies_true, not_true_eq_false, not_false_eq_true, and_self, List.length_cons, List.length_nil, mNoCut_, mCat_n, mCat_I, mCat_L, mCat_R, mIsL_n, mIsL_I, mIsL_R, mIsL_L, Nat.reduceAdd, Nat.reduceSub, Nat.reduceLeDiff, Nat.reduceLT, Nat.reduceEqDiff, Nat.zero_le, Int.reduceEq, Int.reduceLT, Int.reduceLE, Int.reduceNeg, Int.reduceAdd, if_true, if_false, reduceIte, reduceCtorEq, Bool.false_eq_true, ne_eq, qCmp_0, qCmp_1, qCmp_2, qCmp_3, qCmp_4, qCmp_5, ib_0, ib_1, ib_2, lb_0, lb_1, lb_2, dv_0, dv_1, wq_ic, wq_lc, wq_ld_i, wq_ld_a, wq_st_i, wq_iinc, wq_ib, wq_i2l, wq_icmp, wq_if, wq_goto, wq_get, mGet_0, mGet_1, mGet_2, mGet_3, wq_putI, wq_putL, wq_ald, wq_astI, wq_astL, wq_ret0, wq_ret1, wq_ret2, wq_ret3, wq_ret4, ldR0, mrg_0_, fk_11_3, ldI1, fk_11_6, wq_callS3_1, mrg_1_, wq_callV2_0, fk_11_7, fk_11_8, fk_11_12, stI2, ldI2, mrg_550_, fk_11_5, wqinc2, wq_callS1_1, wq_callV1_0, fk_11_10, fk_11_14, mrg_m1_, fk_11_13, fk_11_15, mrg_m10_, mrg_5_, fk_11_0, mrg_9_, mrg_595_, mrg_635_, mPut_s, mPut_I0, mPut_R0, mPut_L0, mPut_I1, mPut_R1, mPut_L1, mGo_n, sfxX11_field_25, cutX11_field_25, sfxX11_field_47, cutX11_field_47, sfxX11_field_67, cutX11_field_67, sfxX11_field_78, cutX11_field_78, sfxX11_field_99, cutX11_field_99, sfxX11_field_119, cutX11_field_119, sfxX11_field_123, cutX11_field_123, sfxX11_field_141, cutX11_field_141, sfxX11_field_143, cutX11_field_143, sfxX11_field_166, cutX11_field_166, sfxX11_field_169, cutX11_field_169, sfxX11_field_194, cutX11_field_194, sfxX11_field_196, cutX11_field_196, sfxX11_field_221, cutX11_field_221, sfxX11_field_225, cutX11_field_225, sfxX11_field_245, cutX11_field_245, wq_cut, mGo_c, mMask_t, mMask_f, mMask_n, kX11_field_245, kX11_field_225, kX11_field_221, kX11_field_196, kX11_field_194, kX11_field_169, kX11_field_166, kX11_field_143, kX11_field_141, kX11_field_123, kX11_field_119, kX11_field_99, kX11_field_78, kX11_field_67, kX11_field_47, kX11_field_25, kX11_field_0, sk_200, al_200, rf_200_5, sk_205, al_205, sn_205, rf_200_0, sk_201, al_201, sn_201, ald_n, ro0_n, al_ro, ↓SX11_field_0, ↓SX11_field_1, ↓SX11_field_2, ↓SX11_field_3, ↓SX11_field_4, ↓shqLLL_, ↓shqRI_, ↓shqR_, ↓spX11_within, ↓spX11_fails, ↓spX11_begins, ↓spX11_reads, ↓spX11_readLine, mrg, mrl, mSet_ap, ncast, Option.some.injEq]
        (try simp only [mrg, mrl] at *) <;> repeat' (first | (with_reducible assumption) | (with_reducible apply And.intro) | intro _)
        all_goals first | omega | exact key | skip
      · have e : k = 550 := by omega
        subst e
        have key : ∃ n', n' < n ∧ (0 ≤ N ∧ N ≤ I 200 6) ∧ fcP I1 I ∧ ∃ t : Int → Int, (∀ q : Int, 0 ≤ q → q < 550 → t q = beT q) ∧ ∃ k_1 : Int, [some (mR (some 200)), none, some (mI 0)] = [some (mR (some 200)), none, some (mI k_1)] ∧ I1 200 14 = 0 ∧ I1 200 15 = -1 ∧ (fiL B N 802 0 t).1 = 0 ∧ I1 205 = (fiL B N 802 0 t).2.2.2 ∧ (0 ≤ k_1 ∧ k_1 ≤ 9) ∧ n' = (1000 - k_1).toNat ∧ I1 201 = neK (I 201) (I1 205) 6 550 k_1 595 := ⟨((1000 : Int) - 0).toNat, by omega, hN, hF, t, ht, 0, rfl, e14, e15, g0, e205, by omega, rfl, e201⟩
        simp only [false_and, and_false, true_or, or_true, false_or, or_false, true_and, and_true, true_implies, false_implies, implies_true, not_true_eq_false, not_false_eq_true, and_self, List.length_cons, List.length_nil, mNoCut_, mCat_n, mCat_I, mCat_L, mCat_R, mIsL_n, mIsL_I, mIsL_R, mIsL_L, Nat.reduceAdd, Nat.reduceSub, Nat.reduceLeDiff, Nat.reduceLT, Nat.reduceEqDiff, Nat.zero_le, Int.reduceEq, Int.reduceLT, Int.reduceLE, Int.reduceNeg, Int.reduceAdd, if_true, if_false, reduceIte, reduceCtorEq, Bool.false_eq_true, ne_eq, qCmp_0, qCmp_1, qCmp_2, qCmp_3, qCmp_4, qCmp_5, ib_0, ib_1, ib_2, lb_0, lb_1, lb_2, dv_0, dv_1, wq_ic, wq_lc, wq_ld_i, wq_ld_a, wq_st_i, wq_iinc, wq_ib, wq_i2l, wq_icmp, wq_if, wq_goto, wq_get, mGet_0, mGet_1, mGet_2, mGet_3, wq_putI, wq_putL, wq_ald, wq_astI, wq_astL, wq_ret0, wq_ret1, wq_ret2, wq_ret3, wq_ret4, ldR0, mrg_0_, fk_11_3, ldI1, fk_11_6, wq_callS3_1, mrg_1_, wq_callV2_0, fk_11_7, fk_11_8, fk_11_12, stI2, ldI2, mrg_550_, fk_11_5, wqinc2, wq_callS1_1, wq_callV1_0, fk_11_10, fk_11_14, mrg_m1_, fk_11_13, fk_11_15, mrg_m10_, mrg_5_, fk_11_0, mrg_9_, mrg_595_, mrg_635_, mPut_s, mPut_I0, mPut_R0, mPut_L0, mPut_I1, mPut_R1, mPut_L1, mGo_n, sfxX11_field_25, cutX11_field_25, sfxX11_field_47, cutX11_field_47, sfxX11_field_67, cutX11_field_67, sfxX11_field_78, cutX11_field_78, sfxX11_field_99, cutX11_field_99, sfxX11_field_119, cutX11_field_119, sfxX11_field_123, cutX11_field_123, sfxX11_field_141, cutX11_field_141, sfxX11_field_143, cutX11_field_143, sfxX11_field_166, cutX11_field_166, sfxX11_field_169, cutX11_field_169, sfxX11_field_194, cutX11_field_194, sfxX11_field_196, cutX11_field_196, sfxX11_field_221, cutX11_field_221, sfxX11_field_225, cutX11_field_225, sfxX11_field_245, cutX11_field_245, wq_cut, mGo_c, mMask_t, mMask_f, mMask_n, kX11_field_245, kX11_field_225, kX11_field_221, kX11_field_196, kX11_field_194, kX11_field_169, kX11_field_166, kX11_field_143, kX11_field_141, kX11_field_123, kX11_field_119, kX11_field_99, kX11_field_78, kX11_field_67, kX11_field_47, kX11_field_25, kX11_field_0, sk_200, al_200, rf_200_5, sk_205, al_205, sn_205, rf_200_0, sk_201, al_201, sn_201, ald_n, ro0_n, al_ro, ↓SX11_field_0, ↓SX11_field_1, ↓SX11_field_2, ↓SX11_field_3, ↓SX11_field_4, ↓shqLLL_, ↓shqRI_, ↓shqR_, ↓spX11_within, ↓spX11_fails, ↓spX11_begins, ↓spX11_reads, ↓spX11_readLine, mrg, mrl, mSet_ap, ncast, Option.some.injEq]
        (try simp only [mrg, mrl] at *) <;> repeat' (first | (with_reducible assumption) | (with_reducible apply And.intro) | intro _)
        all_goals first | omega | exact key | skip
    · skip
      rw [sfxX11_field_196]
      obtain ⟨rfl, hN, hF, t, ht, k, rfl, e14, e15, g0, e205, hk, hm, e201⟩ := hc
      clear h1 h2
      rcases Int.lt_or_le k 9 with z | z
      · have key : ∃ n', n' < n ∧ (0 ≤ N ∧ N ≤ I 200 6) ∧ fcP (mSet I1 201 (550 + 5 * k) (-1)) I ∧ ∃ t : Int → Int, (∀ q : Int, 0 ≤ q → q < 550 → t q = beT q) ∧ ∃ k_1 : Int, [some (mR (some 200)), none, some (mI (k + 1))] = [some (mR (some 200)), none, some (mI k_1)] ∧ I1 200 14 = 0 ∧ I1 200 15 = -1 ∧ (fiL B N 802 0 t).1 = 0 ∧ I1 205 = (fiL B N 802 0 t).2.2.2 ∧ (0 ≤ k_1 ∧ k_1 ≤ 9) ∧ n' = (1000 - k_1).toNat ∧ mSet I1 201 (550 + 5 * k) (-1) 201 = neK (I 201) (I1 205) 6 550 k_1 595 := ⟨(1000 - (k + 1)).toNat, by omega, hN, hF.s1 _ _, t, ht, k + 1, rfl, e14, e15, g0, e205, by omega, rfl, neK_c e201 (by omega)⟩
        simp only [false_and, and_false, true_or, or_true, false_or, or_false, true_and, and_true, true_implies, false_implies, implies_true, not_true_eq_false, not_false_eq_true, and_self, List.length_cons, List.length_nil, mNoCut_, mCat_n, mCat_I, mCat_L, mCat_R, mIsL_n, mIsL_I, mIsL_R, mIsL_L, Nat.reduceAdd, Nat.reduceSub, Nat.reduceLeDiff, Nat.reduceLT, Nat.reduceEqDiff, Nat.zero_le, Int.reduceEq, Int.reduceLT, Int.reduceLE, Int.reduceNeg, Int.reduceAdd, if_true, if_false, reduceIte, reduceCtorEq, Bool.false_eq_true, ne_eq, qCmp_0, qCmp_1, qCmp_2, qCmp_3, qCmp_4, qCmp_5, ib_0, ib_1, ib_2, lb_0, lb_1, lb_2, dv_0, dv_1, wq_ic, wq_lc, wq_ld_i, wq_ld_a, wq_st_i, wq_iinc, wq_ib, wq_i2l, wq_icmp, wq_if, wq_goto, wq_get, mGet_0, mGet_1, mGet_2, mGet_3, wq_putI, wq_putL, wq_ald, wq_astI, wq_astL, wq_ret0, wq_ret1, wq_ret2, wq_ret3, wq_ret4, ldR0, mrg_0_, fk_11_3, ldI1, fk_11_6, wq_callS3_1, mrg_1_, wq_callV2_0, fk_11_7, fk_11_8, fk_11_12, stI2, ldI2, mrg_550_, fk_11_5, wqinc2, wq_callS1_1, wq_callV1_0, fk_11_10, fk_11_14, mrg_m1_, fk_11_13, fk_11_15, mrg_m10_, mrg_5_, fk_11_0, mrg_9_, mrg_595_, mrg_635_, mPut_s, mPut_I0, mPut_R0, mPut_L0, mPut_I1, mPut_R1, mPut_L1, mGo_n, sfxX11_field_25, cutX11_field_25, sfxX11_field_47, cutX11_field_47, sfxX11_field_67, cutX11_field_67, sfxX11_field_78, cutX11_field_78, sfxX11_field_99, cutX11_field_99, sfxX11_field_119, cutX11_field_119, sfxX11_field_123, cutX11_field_123, sfxX11_field_141, cutX11_field_141, sfxX11_field_143, cutX11_field_143, sfxX11_field_166, cutX11_field_166, sfxX11_field_169, cutX11_field_169, sfxX11_field_194, cutX11_field_194, sfxX11_field_196, cutX11_field_196, sfxX11_field_221, cutX11_field_221, sfxX11_field_225, cutX11_field_225, sfxX11_field_245, cutX11_field_245, wq_cut, mGo_c, mMask_t, mMask_f, mMask_n, kX11_field_245, kX11_field_225, kX11_field_221, kX11_field_196, kX11_field_194, kX11_field_169, kX11_field_166, kX11_field_143, kX11_field_141, kX11_field_123, kX11_field_119, kX11_field_99, kX11_field_78, kX11_field_67, kX11_field_47, kX11_field_25, kX11_field_0, sk_200, al_200, rf_200_5, sk_205, al_205, sn_205, rf_200_0, sk_201, al_201, sn_201, ald_n, ro0_n, al_ro, ↓SX11_field_0, ↓SX11_field_1, ↓SX11_field_2, ↓SX11_field_3, ↓SX11_field_4, ↓shqLLL_, ↓shqRI_, ↓shqR_, ↓spX11_within, ↓spX11_fails, ↓spX11_begins, ↓spX11_reads, ↓spX11_readLine, mrg, mrl, mSet_ap, ncast, Option.some.injEq]
        (try simp only [mrg, mrl] at *) <;> repeat' (first | (with_reducible assumption) | (with_reducible apply And.intro) | intro _)
        all_goals first | omega | exact key | skip
      · have e : k = 9 := by omega
        subst e
        have key : ∃ n', n' < n ∧ (0 ≤ N ∧ N ≤ I 200 6) ∧ fcP I1 I ∧ ∃ t : Int → Int, (∀ q : Int, 0 ≤ q → q < 550 → t q = beT q) ∧ ∃ k_1 : Int, [some (mR (some 200)), none, some (mI 595)] = [some (mR (some 200)), none, some (mI k_1)] ∧ I1 200 14 = 0 ∧ I1 200 15 = -1 ∧ (fiL B N 802 0 t).1 = 0 ∧ I1 205 = (fiL B N 802 0 t).2.2.2 ∧ (595 ≤ k_1 ∧ k_1 ≤ 635) ∧ n' = (800 - k_1).toNat ∧ I1 201 = neK (I 201) (I1 205) 6 550 9 k_1 := ⟨((800 : Int) - 595).toNat, by omega, hN, hF, t, ht, 595, rfl, e14, e15, g0, e205, by omega, rfl, e201⟩
        simp only [false_and, and_false, true_or, or_true, false_or, or_false, true_and, and_true, true_implies, false_implies, implies_true, not_true_eq_false, not_false_eq_true, and_self, List.length_cons, List.length_nil, mNoCut_, mCat_n, mCat_I, mCat_L, mCat_R, mIsL_n, mIsL_I, mIsL_R, mIsL_L, Nat.reduceAdd, Nat.reduceSub, Nat.reduceLeDiff, Nat.reduceLT, Nat.reduceEqDiff, Nat.zero_le, Int.reduceEq, Int.reduceLT, Int.reduceLE, Int.reduceNeg, Int.reduceAdd, if_true, if_false, reduceIte, reduceCtorEq, Bool.false_eq_true, ne_eq, qCmp_0, qCmp_1, qCmp_2, qCmp_3, qCmp_4, qCmp_5, ib_0, ib_1, ib_2, lb_0, lb_1, lb_2, dv_0, dv_1, wq_ic, wq_lc, wq_ld_i, wq_ld_a, wq_st_i, wq_iinc, wq_ib, wq_i2l, wq_icmp, wq_if, wq_goto, wq_get, mGet_0, mGet_1, mGet_2, mGet_3, wq_putI, wq_putL, wq_ald, wq_astI, wq_astL, wq_ret0, wq_ret1, wq_ret2, wq_ret3, wq_ret4, ldR0, mrg_0_, fk_11_3, ldI1, fk_11_6, wq_callS3_1, mrg_1_, wq_callV2_0, fk_11_7, fk_11_8, fk_11_12, stI2, ldI2, mrg_550_, fk_11_5, wqinc2, wq_callS1_1, wq_callV1_0, fk_11_10, fk_11_14, mrg_m1_, fk_11_13, fk_11_15, mrg_m10_, mrg_5_, fk_11_0, mrg_9_, mrg_595_, mrg_635_, mPut_s, mPut_I0, mPut_R0, mPut_L0, mPut_I1, mPut_R1, mPut_L1, mGo_n, sfxX11_field_25, cutX11_field_25, sfxX11_field_47, cutX11_field_47, sfxX11_field_67, cutX11_field_67, sfxX11_field_78, cutX11_field_78, sfxX11_field_99, cutX11_field_99, sfxX11_field_119, cutX11_field_119, sfxX11_field_123, cutX11_field_123, sfxX11_field_141, cutX11_field_141, sfxX11_field_143, cutX11_field_143, sfxX11_field_166, cutX11_field_166, sfxX11_field_169, cutX11_field_169, sfxX11_field_194, cutX11_field_194, sfxX11_field_196, cutX11_field_196, sfxX11_field_221, cutX11_field_221, sfxX11_field_225, cutX11_field_225, sfxX11_field_245, cutX11_field_245, wq_cut, mGo_c, mMask_t, mMask_f, mMask_n, kX11_field_245, kX11_field_225, kX11_field_221, kX11_field_196, kX11_field_194, kX11_field_169, kX11_field_166, kX11_field_143, kX11_field_141, kX11_field_123, kX11_field_119, kX11_field_99, kX11_field_78, kX11_field_67, kX11_field_47, kX11_field_25, kX11_field_0, sk_200, al_200, rf_200_5, sk_205, al_205, sn_205, rf_200_0, sk_201, al_201, sn_201, ald_n, ro0_n, al_ro, ↓SX11_field_0, ↓SX11_field_1, ↓SX11_field_2, ↓SX11_field_3, ↓SX11_field_4, ↓shqLLL_, ↓shqRI_, ↓shqR_, ↓spX11_within, ↓spX11_fails, ↓spX11_begins, ↓spX11_reads, ↓spX11_readLine, mrg, mrl, mSet_ap, ncast, Option.some.injEq]
        (try simp only [mrg, mrl] at *) <;> repeat' (first | (with_reducible assumption) | (with_reducible apply And.intro) | intro _)
        all_goals first | omega | exact key | skip
    · skip
      rw [sfxX11_field_225]
      obtain ⟨rfl, hN, hF, t, ht, k, rfl, e14, e15, g0, e205, hk, hm, e201⟩ := hc
      clear h1
      rcases Int.lt_or_le k 635 with z | z
      · have key : ∃ n', n' < n ∧ (0 ≤ N ∧ N ≤ I 200 6) ∧ fcP (mSet I1 201 k 0) I ∧ ∃ t : Int → Int, (∀ q : Int, 0 ≤ q → q < 550 → t q = beT q) ∧ ∃ k_1 : Int, [some (mR (some 200)), none, some (mI (k + 1))] = [some (mR (some 200)), none, some (mI k_1)] ∧ I1 200 14 = 0 ∧ I1 200 15 = -1 ∧ (fiL B N 802 0 t).1 = 0 ∧ I1 205 = (fiL B N 802 0 t).2.2.2 ∧ (595 ≤ k_1 ∧ k_1 ≤ 635) ∧ n' = (800 - k_1).toNat ∧ mSet I1 201 k 0 201 = neK (I 201) (I1 205) 6 550 9 k_1 := ⟨(800 - (k + 1)).toNat, by omega, hN, hF.s1 _ _, t, ht, k + 1, rfl, e14, e15, g0, e205, by omega, rfl, neK_d e201 (by omega)⟩
        clear h2
        simp only [false_and, and_false, true_or, or_true, false_or, or_false, true_and, and_true, true_implies, false_implies, implies_true, not_true_eq_false, not_false_eq_true, and_self, List.length_cons, List.length_nil, mNoCut_, mCat_n, mCat_I, mCat_L, mCat_R, mIsL_n, mIsL_I, mIsL_R, mIsL_L, Nat.reduceAdd, Nat.reduceSub, Nat.reduceLeDiff, Nat.reduceLT, Nat.reduceEqDiff, Nat.zero_le, Int.reduceEq, Int.reduceLT, Int.reduceLE, Int.reduceNeg, Int.reduceAdd, if_true, if_false, reduceIte, reduceCtorEq, Bool.false_eq_true, ne_eq, qCmp_0, qCmp_1, qCmp_2, qCmp_3, qCmp_4, qCmp_5, ib_0, ib_1, ib_2, lb_0, lb_1, lb_2, dv_0, dv_1, wq_ic, wq_lc, wq_ld_i, wq_ld_a, wq_st_i, wq_iinc, wq_ib, wq_i2l, wq_icmp, wq_if, wq_goto, wq_get, mGet_0, mGet_1, mGet_2, mGet_3, wq_putI, wq_putL, wq_ald, wq_astI, wq_astL, wq_ret0, wq_ret1, wq_ret2, wq_ret3, wq_ret4, ldR0, mrg_0_, fk_11_3, ldI1, fk_11_6, wq_callS3_1, mrg_1_, wq_callV2_0, fk_11_7, fk_11_8, fk_11_12, stI2, ldI2, mrg_550_, fk_11_5, wqinc2, wq_callS1_1, wq_callV1_0, fk_11_10, fk_11_14, mrg_m1_, fk_11_13, fk_11_15, mrg_m10_, mrg_5_, fk_11_0, mrg_9_, mrg_595_, mrg_635_, mPut_s, mPut_I0, mPut_R0, mPut_L0, mPut_I1, mPut_R1, mPut_L1, mGo_n, sfxX11_field_25, cutX11_field_25, sfxX11_field_47, cutX11_field_47, sfxX11_field_67, cutX11_field_67, sfxX11_field_78, cutX11_field_78, sfxX11_field_99, cutX11_field_99, sfxX11_field_119, cutX11_field_119, sfxX11_field_123, cutX11_field_123, sfxX11_field_141, cutX11_field_141, sfxX11_field_143, cutX11_field_143, sfxX11_field_166, cutX11_field_166, sfxX11_field_169, cutX11_field_169, sfxX11_field_194, cutX11_field_194, sfxX11_field_196, cutX11_field_196, sfxX11_field_221, cutX11_field_221, sfxX11_field_225, cutX11_field_225, sfxX11_field_245, cutX11_field_245, wq_cut, mGo_c, mMask_t, mMask_f, mMask_n, kX11_field_245, kX11_field_225, kX11_field_221, kX11_field_196, kX11_field_194, kX11_field_169, kX11_field_166, kX11_field_143, kX11_field_141, kX11_field_123, kX11_field_119, kX11_field_99, kX11_field_78, kX11_field_67, kX11_field_47, kX11_field_25, kX11_field_0, sk_200, al_200, rf_200_5, sk_205, al_205, sn_205, rf_200_0, sk_201, al_201, sn_201, ald_n, ro0_n, al_ro, ↓SX11_field_0, ↓SX11_field_1, ↓SX11_field_2, ↓SX11_field_3, ↓SX11_field_4, ↓shqLLL_, ↓shqRI_, ↓shqR_, ↓spX11_within, ↓spX11_fails, ↓spX11_begins, ↓spX11_reads, ↓spX11_readLine, mrg, mrl, mSet_ap, ncast, Option.some.injEq]
        (try simp only [mrg, mrl] at *) <;> repeat' (first | (with_reducible assumption) | (with_reducible apply And.intro) | intro _)
        all_goals first | omega | exact key | skip
      · have e : k = 635 := by omega
        subst e
        rw [neK_e, e205] at e201
        have h2 := h2 hN t ht I1 ⟨hF.1, hF.2.1, hF.2.2.1, hF.2.2.2.1, e14.trans g0.symm, hF.2.2.2.2, fun w => absurd g0 w, fun _ => ⟨e15, e201⟩⟩
        rw [if_pos g0] at h2
        have er : I1 201 0 = (fiL B N 802 0 t).2.2.2 0 := by
          rw [e201]
          exact if_pos (by omega)
        simp only [false_and, and_false, true_or, or_true, false_or, or_false, true_and, and_true, true_implies, false_implies, implies_true, not_true_eq_false, not_false_eq_true, and_self, List.length_cons, List.length_nil, mNoCut_, mCat_n, mCat_I, mCat_L, mCat_R, mIsL_n, mIsL_I, mIsL_R, mIsL_L, Nat.reduceAdd, Nat.reduceSub, Nat.reduceLeDiff, Nat.reduceLT, Nat.reduceEqDiff, Nat.zero_le, Int.reduceEq, Int.reduceLT, Int.reduceLE, Int.reduceNeg, Int.reduceAdd, if_true, if_false, reduceIte, reduceCtorEq, Bool.false_eq_true, ne_eq, qCmp_0, qCmp_1, qCmp_2, qCmp_3, qCmp_4, qCmp_5, ib_0, ib_1, ib_2, lb_0, lb_1, lb_2, dv_0, dv_1, wq_ic, wq_lc, wq_ld_i, wq_ld_a, wq_st_i, wq_iinc, wq_ib, wq_i2l, wq_icmp, wq_if, wq_goto, wq_get, mGet_0, mGet_1, mGet_2, mGet_3, wq_putI, wq_putL, wq_ald, wq_astI, wq_astL, wq_ret0, wq_ret1, wq_ret2, wq_ret3, wq_ret4, ldR0, mrg_0_, fk_11_3, ldI1, fk_11_6, wq_callS3_1, mrg_1_, wq_callV2_0, fk_11_7, fk_11_8, fk_11_12, stI2, ldI2, mrg_550_, fk_11_5, wqinc2, wq_callS1_1, wq_callV1_0, fk_11_10, fk_11_14, mrg_m1_, fk_11_13, fk_11_15, mrg_m10_, mrg_5_, fk_11_0, mrg_9_, mrg_595_, mrg_635_, mPut_s, mPut_I0, mPut_R0, mPut_L0, mPut_I1, mPut_R1, mPut_L1, mGo_n, sfxX11_field_25, cutX11_field_25, sfxX11_field_47, cutX11_field_47, sfxX11_field_67, cutX11_field_67, sfxX11_field_78, cutX11_field_78, sfxX11_field_99, cutX11_field_99, sfxX11_field_119, cutX11_field_119, sfxX11_field_123, cutX11_field_123, sfxX11_field_141, cutX11_field_141, sfxX11_field_143, cutX11_field_143, sfxX11_field_166, cutX11_field_166, sfxX11_field_169, cutX11_field_169, sfxX11_field_194, cutX11_field_194, sfxX11_field_196, cutX11_field_196, sfxX11_field_221, cutX11_field_221, sfxX11_field_225, cutX11_field_225, sfxX11_field_245, cutX11_field_245, wq_cut, mGo_c, mMask_t, mMask_f, mMask_n, kX11_field_245, kX11_field_225, kX11_field_221, kX11_field_196, kX11_field_194, kX11_field_169, kX11_field_166, kX11_field_143, kX11_field_141, kX11_field_123, kX11_field_119, kX11_field_99, kX11_field_78, kX11_field_67, kX11_field_47, kX11_field_25, kX11_field_0, sk_200, al_200, rf_200_5, sk_205, al_205, sn_205, rf_200_0, sk_201, al_201, sn_201, ald_n, ro0_n, al_ro, ↓SX11_field_0, ↓SX11_field_1, ↓SX11_field_2, ↓SX11_field_3, ↓SX11_field_4, ↓shqLLL_, ↓shqRI_, ↓shqR_, ↓spX11_within, ↓spX11_fails, ↓spX11_begins, ↓spX11_reads, ↓spX11_readLine, mrg, mrl, mSet_ap, ncast, Option.some.injEq, er]
        (try simp only [mrg, mrl] at *) <;> repeat' (first | (with_reducible assumption) | (with_reducible apply And.intro) | intro _)
        all_goals first | omega | exact h2 | skip
  · show mWp _ _ _ _ _ _ kX11_field_0 [some (mR (some 200)), some (mI N), none] [] I
    have F0 : fcP (mSet (mSet (mSet (mSet (mSet I 200 3 0) 200 7 N) 200 6 0) 200 8 0) 200 12 0) I := by
      refine ⟨fun i i0 _ _ => by rw [set_ne i0, set_ne i0, set_ne i0, set_ne i0, set_ne i0], fun q hq => by rw [set_nq (by omega), set_nq (by omega), set_nq (by omega), set_nq (by omega), set_nq (by omega)], ?_, ?_, ?_⟩
      · rw [set_nq (by decide), set_nq (by decide), set_nq (by decide), set_nq (by decide), set_eq]
      · rw [set_nq (by decide), set_nq (by decide), set_eq]
      · rw [set_nq (by decide), set_nq (by decide), set_nq (by decide), set_nq (by decide), set_nq (by decide)]
        exact h11
    simp only [false_and, and_false, true_or, or_true, false_or, or_false, true_and, and_true, true_implies, false_implies, implies_true, not_true_eq_false, not_false_eq_true, and_self, List.length_cons, List.length_nil, mNoCut_, mCat_n, mCat_I, mCat_L, mCat_R, mIsL_n, mIsL_I, mIsL_R, mIsL_L, Nat.reduceAdd, Nat.reduceSub, Nat.reduceLeDiff, Nat.reduceLT, Nat.reduceEqDiff, Nat.zero_le, Int.reduceEq, Int.reduceLT, Int.reduceLE, Int.reduceNeg, Int.reduceAdd, if_true, if_false, reduceIte, reduceCtorEq, Bool.false_eq_true, ne_eq, qCmp_0, qCmp_1, qCmp_2, qCmp_3, qCmp_4, qCmp_5, ib_0, ib_1, ib_2, lb_0, lb_1, lb_2, dv_0, dv_1, wq_ic, wq_lc, wq_ld_i, wq_ld_a, wq_st_i, wq_iinc, wq_ib, wq_i2l, wq_icmp, wq_if, wq_goto, wq_get, mGet_0, mGet_1, mGet_2, mGet_3, wq_putI, wq_putL, wq_ald, wq_astI, wq_astL, wq_ret0, wq_ret1, wq_ret2, wq_ret3, wq_ret4, ldR0, mrg_0_, fk_11_3, ldI1, fk_11_6, wq_callS3_1, mrg_1_, wq_callV2_0, fk_11_7, fk_11_8, fk_11_12, stI2, ldI2, mrg_550_, fk_11_5, wqinc2, wq_callS1_1, wq_callV1_0, fk_11_10, fk_11_14, mrg_m1_, fk_11_13, fk_11_15, mrg_m10_, mrg_5_, fk_11_0, mrg_9_, mrg_595_, mrg_635_, mPut_s, mPut_I0, mPut_R0, mPut_L0, mPut_I1, mPut_R1, mPut_L1, mGo_n, sfxX11_field_25, cutX11_field_25, sfxX11_field_47, cutX11_field_47, sfxX11_field_67, cutX11_field_67, sfxX11_field_78, cutX11_field_78, sfxX11_field_99, cutX11_field_99, sfxX11_field_119, cutX11_field_119, sfxX11_field_123, cutX11_field_123, sfxX11_field_141, cutX11_field_141, sfxX11_field_143, cutX11_field_143, sfxX11_field_166, cutX11_field_166, sfxX11_field_169, cutX11_field_169, sfxX11_field_194, cutX11_field_194, sfxX11_field_196, cutX11_field_196, sfxX11_field_221, cutX11_field_221, sfxX11_field_225, cutX11_field_225, sfxX11_field_245, cutX11_field_245, wq_cut, mGo_c, mMask_t, mMask_f, mMask_n, kX11_field_245, kX11_field_225, kX11_field_221, kX11_field_196, kX11_field_194, kX11_field_169, kX11_field_166, kX11_field_143, kX11_field_141, kX11_field_123, kX11_field_119, kX11_field_99, kX11_field_78, kX11_field_67, kX11_field_47, kX11_field_25, kX11_field_0, sk_200, al_200, rf_200_5, sk_205, al_205, sn_205, rf_200_0, sk_201, al_201, sn_201, ald_n, ro0_n, al_ro, ↓SX11_field_0, ↓SX11_field_1, ↓SX11_field_2, ↓SX11_field_3, ↓SX11_field_4, ↓shqLLL_, ↓shqRI_, ↓shqR_, ↓spX11_within, ↓spX11_fails, ↓spX11_begins, ↓spX11_reads, ↓spX11_readLine, mrg, mrl, mSet_ap, ncast, Option.some.injEq, set_over1]
    refine ⟨rn, ⟨by omega, by omega⟩, fun hN => ⟨_, hN, F0, 0, rfl, by omega, rfl, by rw [set_ne (by decide), set_ne (by decide), set_ne (by decide), set_ne (by decide), set_ne (by decide)], fun q q0 q1 => absurd q1 (by show ¬ q < ((0 : Nat) : Int); omega)⟩, h1, ⟨by have := rn.1; omega, by have := rn.2; omega⟩, by omega, by omega⟩
theorem ctrX11_field {l : Launch} (hst : l.stackTraces = false) (hT : mTxM l) : mCtr l calX11_field spX11_field :=
  mMet (T := TX11_field) (S := SX11_field) hst hT cutX11_field (by decide) okX11_field ⟨_, _, rfl, rfl⟩ trivial (fun t bs h => by rcases cutsX11_field h with ⟨-, rfl⟩ | ⟨-, rfl⟩ | ⟨-, rfl⟩ | ⟨-, rfl⟩ | ⟨-, rfl⟩ | ⟨-, rfl⟩ <;> rfl) (fun a => match a with
    | 0 => ctrX11_within hst hT
    | 1 => ctrX11_fails hst hT
    | 2 => ctrX11_begins hst hT
    | 3 => ctrX11_reads hst hT
    | 4 => ctrX11_readLine hst hT
    | _ + 5 => mCtr_no) vcX11_field

end SPM30
