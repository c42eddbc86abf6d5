section SPC23
abbrev gndP (fl : Nat → Bool) (g : Nat) : Prop := g = 11 ∨ g = 102 ∨ ∃ k : Nat, k < 3 ∧ g = 31 + 20 * k ∧ fl k = true
abbrev staP (fl : Nat → Bool) (b : Nat) : Prop := b = 10 ∨ ∃ k : Nat, k < 3 ∧ b = 30 + 20 * k ∧ fl k = true
abbrev rowF (fl : Nat → Bool) (o k i n : Nat) : Prop := RF fl o k = some i ∧ (sk i = 20 ∧ al fl i = true) ∧ sn i = n ∧ mRo0 i = none
theorem gndF {fl : Nat → Bool} {g : Nat} (h : gndP fl g) : (sk g = 4 ∧ al fl g = true) ∧ rowF fl g 6 (g + 3) 289 ∧ rowF fl g 7 (g + 4) 6 ∧ rowF fl g 8 (g + 5) 48 ∧ rowF fl g 9 (g + 6) 48 ∧ rowF fl g 10 (g + 7) 48 ∧ rowF fl g 11 (g + 8) 48 := by
  rcases h with rfl | rfl | ⟨k, hk, rfl, hf⟩
  · exact ⟨⟨rfl, rfl⟩, ⟨rfl, ⟨rfl, rfl⟩, rfl, ro0_n (by decide)⟩, ⟨rfl, ⟨rfl, rfl⟩, rfl, ro0_n (by decide)⟩, ⟨rfl, ⟨rfl, rfl⟩, rfl, ro0_n (by decide)⟩, ⟨rfl, ⟨rfl, rfl⟩, rfl, ro0_n (by decide)⟩, ⟨rfl, ⟨rfl, rfl⟩, rfl, ro0_n (by decide)⟩, ⟨rfl, ⟨rfl, rfl⟩, rfl, ro0_n (by decide)⟩⟩
  · exact ⟨⟨rfl, rfl⟩, ⟨rfl, ⟨rfl, rfl⟩, rfl, ro0_n (by decide)⟩, ⟨rfl, ⟨rfl, rfl⟩, rfl, ro0_n (by decide)⟩, ⟨rfl, ⟨rfl, rfl⟩, rfl, ro0_n (by decide)⟩, ⟨rfl, ⟨rfl, rfl⟩, rfl, ro0_n (by decide)⟩, ⟨rfl, ⟨rfl, rfl⟩, rfl, ro0_n (by decide)⟩, ⟨rfl, ⟨rfl, rfl⟩, rfl, ro0_n (by decide)⟩⟩
  · have e : k = 0 ∨ k = 1 ∨ k = 2 := by omega
    rcases e with rfl | rfl | rfl
    all_goals exact ⟨⟨rfl, hf⟩, ⟨rfl, ⟨rfl, hf⟩, rfl, ro0_n (by decide)⟩, ⟨rfl, ⟨rfl, hf⟩, rfl, ro0_n (by decide)⟩, ⟨rfl, ⟨rfl, hf⟩, rfl, ro0_n (by decide)⟩, ⟨rfl, ⟨rfl, hf⟩, rfl, ro0_n (by decide)⟩, ⟨rfl, ⟨rfl, hf⟩, rfl, ro0_n (by decide)⟩, ⟨rfl, ⟨rfl, hf⟩, rfl, ro0_n (by decide)⟩⟩
theorem staF {fl : Nat → Bool} {b : Nat} (h : staP fl b) : (sk b = 8 ∧ al fl b = true) ∧ (RF fl b 0 = some (b + 1) ∧ RF fl b 1 = some (b + 2) ∧ RF fl b 2 = some (b + 3)) ∧ (sk (b + 2) = 7 ∧ al fl (b + 2) = true) ∧ rowF fl (b + 2) 0 (b + 10) 9 ∧ rowF fl (b + 2) 1 (b + 11) 9 ∧ rowF fl (b + 2) 2 (b + 12) 9 ∧ rowF fl (b + 2) 3 (b + 13) 9 ∧ rowF fl (b + 2) 4 (b + 14) 9 ∧ rowF fl (b + 2) 5 (b + 15) 36 ∧ (sk (b + 3) = 2 ∧ al fl (b + 3) = true) ∧ rowF fl (b + 3) 3 (b + 16) 48 ∧ rowF fl (b + 3) 4 (b + 17) 4 := by
  rcases h with rfl | ⟨k, hk, rfl, hf⟩
  · exact ⟨⟨rfl, rfl⟩, ⟨rfl, rfl, rfl⟩, ⟨rfl, rfl⟩, ⟨rfl, ⟨rfl, rfl⟩, rfl, ro0_n (by decide)⟩, ⟨rfl, ⟨rfl, rfl⟩, rfl, ro0_n (by decide)⟩, ⟨rfl, ⟨rfl, rfl⟩, rfl, ro0_n (by decide)⟩, ⟨rfl, ⟨rfl, rfl⟩, rfl, ro0_n (by decide)⟩, ⟨rfl, ⟨rfl, rfl⟩, rfl, ro0_n (by decide)⟩, ⟨rfl, ⟨rfl, rfl⟩, rfl, ro0_n (by decide)⟩, ⟨rfl, rfl⟩, ⟨rfl, ⟨rfl, rfl⟩, rfl, ro0_n (by decide)⟩, ⟨rfl, ⟨rfl, rfl⟩, rfl, ro0_n (by decide)⟩⟩
  · have e : k = 0 ∨ k = 1 ∨ k = 2 := by omega
    rcases e with rfl | rfl | rfl
    all_goals exact ⟨⟨rfl, hf⟩, ⟨rfl, rfl, rfl⟩, ⟨rfl, hf⟩, ⟨rfl, ⟨rfl, hf⟩, rfl, ro0_n (by decide)⟩, ⟨rfl, ⟨rfl, hf⟩, rfl, ro0_n (by decide)⟩, ⟨rfl, ⟨rfl, hf⟩, rfl, ro0_n (by decide)⟩, ⟨rfl, ⟨rfl, hf⟩, rfl, ro0_n (by decide)⟩, ⟨rfl, ⟨rfl, hf⟩, rfl, ro0_n (by decide)⟩, ⟨rfl, ⟨rfl, hf⟩, rfl, ro0_n (by decide)⟩, ⟨rfl, hf⟩, ⟨rfl, ⟨rfl, hf⟩, rfl, ro0_n (by decide)⟩, ⟨rfl, ⟨rfl, hf⟩, rfl, ro0_n (by decide)⟩⟩
theorem staP.g {fl : Nat → Bool} {b : Nat} (h : staP fl b) : gndP fl (b + 1) := by
  rcases h with rfl | ⟨k, hk, rfl, hf⟩
  · exact Or.inl rfl
  · exact Or.inr (Or.inr ⟨k, hk, by omega, hf⟩)
theorem gndP.d {fl : Nat → Bool} {g h : Nat} (a : gndP fl g) (b : gndP fl h) (z : ¬ g = h) : g + 8 < h ∨ h + 8 < g := by
  rcases a with rfl | rfl | ⟨k, hk, rfl, hf⟩ <;> rcases b with rfl | rfl | ⟨j, hj, rfl, hg⟩ <;> omega
theorem staP.d {fl : Nat → Bool} {g h : Nat} (a : staP fl g) (b : staP fl h) (z : ¬ g = h) : g + 17 < h ∨ h + 17 < g := by
  rcases a with rfl | ⟨k, hk, rfl, hf⟩ <;> rcases b with rfl | ⟨j, hj, rfl, hg⟩ <;> omega
def eqR (I' I : mM) (c a n : Nat) : Prop := ∀ q : Int, 0 ≤ q → q < n → I' c q = I a q
def cpG (I' I : mM) (c a : Nat) : Prop := eqR I' I c a 6 ∧ eqR I' I (c + 3) (a + 3) 289 ∧ eqR I' I (c + 4) (a + 4) 6 ∧ eqR I' I (c + 5) (a + 5) 48 ∧ eqR I' I (c + 6) (a + 6) 48 ∧ eqR I' I (c + 7) (a + 7) 48 ∧ eqR I' I (c + 8) (a + 8) 48
def cpQ (I' I : mM) (c a : Nat) : Prop := I' c 6 = I a 6 ∧ eqR I' I (c + 8) (a + 8) 9 ∧ eqR I' I (c + 9) (a + 9) 9 ∧ eqR I' I (c + 10) (a + 10) 9 ∧ eqR I' I (c + 11) (a + 11) 9 ∧ eqR I' I (c + 12) (a + 12) 9 ∧ eqR I' I (c + 13) (a + 13) 36
def cpD (I' I : mM) (c a : Nat) : Prop := eqR I' I c a 3 ∧ eqR I' I (c + 13) (a + 13) 48 ∧ eqR I' I (c + 14) (a + 14) 4
def spX3_copyFrom : mSp := shRR (fun fl x y I Q => ∃ c a : Nat, x = some c ∧ y = some a ∧ gndP fl c ∧ gndP fl a ∧ ¬ c = a ∧ ∀ I' : mM, (∀ i, ¬ (i = c ∨ (c + 3 ≤ i ∧ i ≤ c + 8)) → I' i = I i) → cpG I' I c a → Q (.inl none) I')
def SX3_copyFrom : Nat → mSp := fun a => match a with
  | 0 => spX10_copyRow
  | _ => fun _ _ _ _ => False
theorem SX3_copyFrom_0 : SX3_copyFrom 0 = spX10_copyRow := Eq.trans rfl rfl
set_option maxRecDepth 100000 in
set_option maxHeartbeats 1000000 in
theorem vcX3_copyFrom (fl : Nat → Bool) (avs : List mV) (I : mM) (Q : mO → mM → Prop) (hsp : spX3_copyFrom fl avs I Q) : mVC0 SX3_copyFrom fl Q kX3_copyFrom 2 avs I := by
  obtain ⟨x, y, rfl, h0⟩ := shRR_inv hsp
  obtain ⟨c, a, rfl, rfl, hc, ha, hne, h⟩ := h0
  obtain ⟨⟨c1, c2⟩, ⟨c3, ⟨c4, c5⟩, c6, -⟩, ⟨c7, ⟨c8, c9⟩, c10, -⟩, ⟨c11, ⟨c12, c13⟩, c14, -⟩, ⟨c15, ⟨c16, c17⟩, c18, -⟩, ⟨c19, ⟨c20, c21⟩, c22, -⟩, ⟨c23, ⟨c24, c25⟩, c26, -⟩⟩ := gndF hc
  obtain ⟨⟨a1, a2⟩, ⟨a3, ⟨a4, a5⟩, a6, -⟩, ⟨a7, ⟨a8, a9⟩, a10, -⟩, ⟨a11, ⟨a12, a13⟩, a14, -⟩, ⟨a15, ⟨a16, a17⟩, a18, -⟩, ⟨a19, ⟨a20, a21⟩, a22, -⟩, ⟨a23, ⟨a24, a25⟩, a26, -⟩⟩ := gndF ha
  have hd := gndP.d hc ha hne
  refine ⟨rfl, ?_⟩
  show mWp _ _ _ _ _ _ kX3_copyFrom_0 [some (mR (some c)), some (mR (some a))] [] I
  simp only [false_and, and_false, true_or, or_true, false_or, or_false, true_and, and_true, true_implies, false_implies, implies_true, not_true_eq_false, not_false_eq_true, and_self, List.length_cons, List.length_nil, mNoCut_, mCat_n, mCat_I, mCat_L, mCat_R, mIsL_n, mIsL_I, mIsL_R, mIsL_L, Nat.reduceAdd, Nat.reduceSub, Nat.reduceLeDiff, Nat.reduceLT, Nat.reduceEqDiff, Nat.zero_le, Int.reduceEq, Int.reduceLT, Int.reduceLE, Int.reduceNeg, Int.reduceAdd, if_true, if_false, reduceIte, reduceCtorEq, Bool.false_eq_true, ne_eq, qCmp_0, qCmp_1, qCmp_2, qCmp_3, qCmp_4, qCmp_5, ib_0, ib_1, ib_2, lb_0, lb_1, lb_2, dv_0, dv_1, wq_ld_a, wq_get, mGet_0, mGet_1, mGet_2, mGet_3, wq_putI, wq_putL, wq_ret0, wq_ret1, wq_ret2, wq_ret3, wq_ret4, ldR0, ldR1, fk_3_0, fk_3_1, fk_3_2, fk_3_3, fk_3_4, fk_3_5, fk_3_6, wq_callS2_3, fk_3_7, fk_3_8, fk_3_9, fk_3_10, fk_3_11, kX3_copyFrom_0, sk_11, al_11, rf_11_6, sk_14, al_14, sn_14, rf_11_7, sk_15, al_15, sn_15, rf_11_8, sk_16, al_16, sn_16, rf_11_9, sk_17, al_17, sn_17, rf_11_10, sk_18, al_18, sn_18, rf_11_11, sk_19, al_19, sn_19, sk_102, al_102, rf_102_6, sk_105, al_105, sn_105, rf_102_7, sk_106, al_106, sn_106, rf_102_8, sk_107, al_107, sn_107, rf_102_9, sk_108, al_108, sn_108, rf_102_10, sk_109, al_109, sn_109, rf_102_11, sk_110, al_110, sn_110, sk_0, al_0, SX3_copyFrom_0, shqRR_, spX10_copyRow, mrg, mrl, mSet_ap, ncast, Option.some.injEq, Option.getD_some, c1, c2, c3, c4, c5, c6, c7, c8, c9, c10, c11, c12, c13, c14, c15, c16, c17, c18, c19, c20, c21, c22, c23, c24, c25, c26, a1, a2, a3, a4, a5, a6, a7, a8, a9, a10, a11, a12, a13, a14, a15, a16, a17, a18, a19, a20, a21, a22, a23, a24, a25, a26]
  trace_state
  sorry
theorem ctrX3_copyFrom {l : Launch} (hst : l.stackTraces = false) (hT : mTxM l) : mCtr l calX3_copyFrom spX3_copyFrom :=
  mMet0 (T := TX3_copyFrom) (S := SX3_copyFrom) hst hT (by decide) okX3_copyFrom ⟨_, _, rfl, rfl⟩ (fun a => match a with
    | 0 => ctrX10_copyRow hst hT
    | _ + 1 => mCtr_no) vcX3_copyFrom

end SPC23
