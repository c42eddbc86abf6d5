section SPC23
abbrev gndP (fl : Nat → Bool) (g : Nat) : Prop := g = 11 ∨ g = 102 ∨ ∃ k : Nat, k < 3 ∧ g = 31 + 20 * k ∧ fl k = true
abbrev staP (fl : Nat → Bool) (b : Nat) : Prop := b = 10 ∨ ∃ k : Nat, k < 3 ∧ b = 30 + 20 * k ∧ fl k = true
abbrev rowF (fl : Nat → Bool) (o k i n : Nat) : Prop := RF fl o k = some i ∧ (sk i = 20 ∧ al fl i = true) ∧ sn i = n ∧ mRo0 i = none
theorem gndF {fl : Nat → Bool} {g : Nat} (h : gndP fl g) : (sk g = 4 ∧ al fl g = true) ∧ rowF fl g 6 (g + 3) 289 ∧ rowF fl g 7 (g + 4) 6 ∧ rowF fl g 8 (g + 5) 48 ∧ rowF fl g 9 (g + 6) 48 ∧ rowF fl g 10 (g + 7) 48 ∧ rowF fl g 11 (g + 8) 48 := by
  rcases h with rfl | rfl | ⟨k, hk, rfl, hf⟩
  · exact ⟨⟨rfl, rfl⟩, ⟨rfl, ⟨rfl, rfl⟩, rfl, ro0_n (by decide)⟩, ⟨rfl, ⟨rfl, rfl⟩, rfl, ro0_n (by decide)⟩, ⟨rfl, ⟨rfl, rfl⟩, rfl, ro0_n (by decide)⟩, ⟨rfl, ⟨rfl, rfl⟩, rfl, ro0_n (by decide)⟩, ⟨rfl, ⟨rfl, rfl⟩, rfl, ro0_n (by decide)⟩, ⟨rfl, ⟨rfl, rfl⟩, rfl, ro0_n (by decide)⟩⟩
  · exact ⟨⟨rfl, rfl⟩, ⟨rfl, ⟨rfl, rfl⟩, rfl, ro0_n (by decide)⟩, ⟨rfl, ⟨rfl, rfl⟩, rfl, ro0_n (by decide)⟩, ⟨rfl, ⟨rfl, rfl⟩, rfl, ro0_n (by decide)⟩, ⟨rfl, ⟨rfl, rfl⟩, rfl, ro0_n (by decide)⟩, ⟨rfl, ⟨rfl, rfl⟩, rfl, ro0_n (by decide)⟩, ⟨rfl, ⟨rfl, rfl⟩, rfl, ro0_n (by decide)⟩⟩
  · have e : k = 0 ∨ k = 1 ∨ k = 2 := by omega
    rcases e with rfl | rfl | rfl
    all_goals exact ⟨⟨rfl, hf⟩, ⟨rfl, ⟨rfl, hf⟩, rfl, ro0_n (by decide)⟩, ⟨rfl, ⟨rfl, hf⟩, rfl, ro0_n (by decide)⟩, ⟨rfl, ⟨rfl, hf⟩, rfl, ro0_n (by decide)⟩, ⟨rfl, ⟨rfl, hf⟩, rfl, ro0_n (by decide)⟩, ⟨rfl, ⟨rfl, hf⟩, rfl, ro0_n (by decide)⟩, ⟨rfl, ⟨rfl, hf⟩, rfl, ro0_n (by decide)⟩⟩
theorem staF {fl : Nat → Bool} {b : Nat} (h : staP fl b) : (sk b = 8 ∧ al fl b = true) ∧ (RF fl b 0 = some (b + 1) ∧ RF fl b 1 = some (b + 2) ∧ RF fl b 2 = some (b + 3)) ∧ (sk (b + 2) = 7 ∧ al fl (b + 2) = true) ∧ rowF fl (b + 2) 0 (b + 10) 9 ∧ rowF fl (b + 2) 1 (b + 11) 9 ∧ rowF fl (b + 2) 2 (b + 12) 9 ∧ rowF fl (b + 2) 3 (b + 13) 9 ∧ rowF fl (b + 2) 4 (b + 14) 9 ∧ rowF fl (b + 2) 5 (b + 15) 36 ∧ (sk (b + 3) = 2 ∧ al fl (b + 3) = true) ∧ rowF fl (b + 3) 3 (b + 16) 48 ∧ rowF fl (b + 3) 4 (b + 17) 4 := by
  rcases h with rfl | ⟨k, hk, rfl, hf⟩
  · exact ⟨⟨rfl, rfl⟩, ⟨rfl, rfl, rfl⟩, ⟨rfl, rfl⟩, ⟨rfl, ⟨rfl, rfl⟩, rfl, ro0_n (by decide)⟩, ⟨rfl, ⟨rfl, rfl⟩, rfl, ro0_n (by decide)⟩, ⟨rfl, ⟨rfl, rfl⟩, rfl, ro0_n (by decide)⟩, ⟨rfl, ⟨rfl, rfl⟩, rfl, ro0_n (by decide)⟩, ⟨rfl, ⟨rfl, rfl⟩, rfl, ro0_n (by decide)⟩, ⟨rfl, ⟨rfl, rfl⟩, rfl, ro0_n (by decide)⟩, ⟨rfl, rfl⟩, ⟨rfl, ⟨rfl, rfl⟩, rfl, ro0_n (by decide)⟩, ⟨rfl, ⟨rfl, rfl⟩, rfl, ro0_n (by decide)⟩⟩
  · have e : k = 0 ∨ k = 1 ∨ k = 2 := by omega
    rcases e with rfl | rfl | rfl
    all_goals exact ⟨⟨rfl, hf⟩, ⟨rfl, rfl, rfl⟩, ⟨rfl, hf⟩, ⟨rfl, ⟨rfl, hf⟩, rfl, ro0_n (by decide)⟩, ⟨rfl, ⟨rfl, hf⟩, rfl, ro0_n (by decide)⟩, ⟨rfl, ⟨rfl, hf⟩, rfl, ro0_n (by decide)⟩, ⟨rfl, ⟨rfl, hf⟩, rfl, ro0_n (by decide)⟩, ⟨rfl, ⟨rfl, hf⟩, rfl, ro0_n (by decide)⟩, ⟨rfl, ⟨rfl, hf⟩, rfl, ro0_n (by decide)⟩, ⟨rfl, hf⟩, ⟨rfl, ⟨rfl, hf⟩, rfl, ro0_n (by decide)⟩, ⟨rfl, ⟨rfl, hf⟩, rfl, ro0_n (by decide)⟩⟩
theorem staP.g {fl : Nat → Bool} {b : Nat} (h : staP fl b) : gndP fl (b + 1) := by
  rcases h with rfl | ⟨k, hk, rfl, hf⟩
  · exact Or.inl rfl
  · exact Or.inr (Or.inr ⟨k, hk, by omega, hf⟩)
theorem gndP.d {fl : Nat → Bool} {g h : Nat} (a : gndP fl g) (b : gndP fl h) (z : ¬ g = h) : g + 8 < h ∨ h + 8 < g := by
  rcases a with rfl | rfl | ⟨k, hk, rfl, hf⟩ <;> rcases b with rfl | rfl | ⟨j, hj, rfl, hg⟩ <;> omega
theorem staP.d {fl : Nat → Bool} {g h : Nat} (a : staP fl g) (b : staP fl h) (z : ¬ g = h) : g + 17 < h ∨ h + 17 < g := by
  rcases a with rfl | ⟨k, hk, rfl, hf⟩ <;> rcases b with rfl | ⟨j, hj, rfl, hg⟩ <;> omega
def eqR (I' I : mM) (c a n : Nat) : Prop := ∀ q : Int, 0 ≤ q → q < n → I' c q = I a q
def cpG (I' I : mM) (c a : Nat) : Prop := eqR I' I c a 6 ∧ eqR I' I (c + 3) (a + 3) 289 ∧ eqR I' I (c + 4) (a + 4) 6 ∧ eqR I' I (c + 5) (a + 5) 48 ∧ eqR I' I (c + 6) (a + 6) 48 ∧ eqR I' I (c + 7) (a + 7) 48 ∧ eqR I' I (c + 8) (a + 8) 48
def cpQ (I' I : mM) (c a : Nat) : Prop := I' c 6 = I a 6 ∧ eqR I' I (c + 8) (a + 8) 9 ∧ eqR I' I (c + 9) (a + 9) 9 ∧ eqR I' I (c + 10) (a + 10) 9 ∧ eqR I' I (c + 11) (a + 11) 9 ∧ eqR I' I (c + 12) (a + 12) 9 ∧ eqR I' I (c + 13) (a + 13) 36
def cpD (I' I : mM) (c a : Nat) : Prop := eqR I' I c a 3 ∧ eqR I' I (c + 13) (a + 13) 48 ∧ eqR I' I (c + 14) (a + 14) 4
def spX3_copyFrom : mSp := shRR (fun fl x y I Q => ∃ c a : Nat, x = some c ∧ y = some a ∧ gndP fl c ∧ gndP fl a ∧ ¬ c = a ∧ ∀ I' : mM, (∀ i, ¬ (i = c ∨ (c + 3 ≤ i ∧ i ≤ c + 8)) → I' i = I i) → cpG I' I c a → Q (.inl none) I')
def SX3_copyFrom : Nat → mSp := fun a => match a with
  | 0 => spX10_copyRow
  | _ => fun _ _ _ _ => False
theorem SX3_copyFrom_0 : SX3_copyFrom 0 = spX10_copyRow := Eq.trans rfl rfl
set_option maxRecDepth 100000 in
set_option maxHeartbeats 1000000 in
theorem vcX3_copyFrom (fl : Nat → Bool) (avs : List mV) (I : mM) (Q : mO → mM → Prop) (hsp : spX3_copyFrom fl avs I Q) : mVC0 SX3_copyFrom fl Q kX3_copyFrom 2 avs I := by
  obtain ⟨x, y, rfl, h0⟩ := shRR_inv hsp
  obtain ⟨c, a, rfl, rfl, hc, ha, hne, h⟩ := h0
  obtain ⟨⟨c1, c2⟩, ⟨c3, ⟨c4, c5⟩, c6, -⟩, ⟨c7, ⟨c8, c9⟩, c10, -⟩, ⟨c11, ⟨c12, c13⟩, c14, -⟩, ⟨c15, ⟨c16, c17⟩, c18, -⟩, ⟨c19, ⟨c20, c21⟩, c22, -⟩, ⟨c23, ⟨c24, c25⟩, c26, -⟩⟩ := gndF hc
  obtain ⟨⟨a1, a2⟩, ⟨a3, ⟨a4, a5⟩, a6, -⟩, ⟨a7, ⟨a8, a9⟩, a10, -⟩, ⟨a11, ⟨a12, a13⟩, a14, -⟩, ⟨a15, ⟨a16, a17⟩, a18, -⟩, ⟨a19, ⟨a20, a21⟩, a22, -⟩, ⟨a23, ⟨a24, a25⟩, a26, -⟩⟩ := gndF ha
  have hd := gndP.d hc ha hne
  refine ⟨rfl, ?_⟩
  show mWp _ _ _ _ _ _ kX3_copyFrom_0 [some (mR (some c)), some (mR (some a))] [] I
  simp only [false_and, and_false, true_or, or_true, false_or, or_false, true_and, and_true, true_implies, false_implies, implies_true, not_true_eq_false, not_false_eq_true, and_self, List.length_cons, List.length_nil, mNoCut_, mCat_n, mCat_I, mCat_L, mCat_R, mIsL_n, mIsL_I, mIsL_R, mIsL_L, Nat.reduceAdd, Nat.reduceSub, Nat.reduceLeDiff, Nat.reduceLT, Nat.reduceEqDiff, Nat.zero_le, Int.reduceEq, Int.reduceLT, Int.reduceLE, Int.reduceNeg, Int.reduceAdd, if_true, if_false, reduceIte, reduceCtorEq, Bool.false_eq_true, ne_eq, qCmp_0, qCmp_1, qCmp_2, qCmp_3, qCmp_4, qCmp_5, ib_0, ib_1, ib_2, lb_0, lb_1, lb_2, dv_0, dv_1, wq_ld_a, wq_get, mGet_0, mGet_1, mGet_2, mGet_3, wq_putI, wq_putL, wq_ret0, wq_ret1, wq_ret2, wq_ret3, wq_ret4, ldR0, ldR1, fk_3_0, fk_3_1, fk_3_2, fk_3_3, fk_3_4, fk_3_5, fk_3_6, wq_callS2_3, fk_3_7, fk_3_8, fk_3_9, fk_3_10, fk_3_11, kX3_copyFrom_0, sk_11, al_11, rf_11_6, sk_14, al_14, sn_14, rf_11_7, sk_15, al_15, sn_15, rf_11_8, sk_16, al_16, sn_16, rf_11_9, sk_17, al_17, sn_17, rf_11_10, sk_18, al_18, sn_18, rf_11_11, sk_19, al_19, sn_19, sk_102, al_102, rf_102_6, sk_105, al_105, sn_105, rf_102_7, sk_106, al_106, sn_106, rf_102_8, sk_107, al_107, sn_107, rf_102_9, sk_108, al_108, sn_108, rf_102_10, sk_109, al_109, sn_109, rf_102_11, sk_110, al_110, sn_110, sk_0, al_0, SX3_copyFrom_0, shqRR_, spX10_copyRow, mrg, mrl, mSet_ap, ncast, Option.some.injEq, Option.getD_some, c1, c2, c3, c4, c5, c6, c7, c8, c9, c10, c11, c12, c13, c14, c15, c16, c17, c18, c19, c20, c21, c22, c23, c24, c25, c26, a1, a2, a3, a4, a5, a6, a7, a8, a9, a10, a11, a12, a13, a14, a15, a16, a17, a18, a19, a20, a21, a22, a23, a24, a25, a26]
  refine h _ (fun i hi => by rw [mCpy_ne _ _ _ _ (by omega), mCpy_ne _ _ _ _ (by omega), mCpy_ne _ _ _ _ (by omega), mCpy_ne _ _ _ _ (by omega), mCpy_ne _ _ _ _ (by omega), mCpy_ne _ _ _ _ (by omega), set_ne (by omega), set_ne (by omega), set_ne (by omega), set_ne (by omega), set_ne (by omega), set_ne (by omega)]) ⟨fun q q0 q1 => ?_, fun q q0 q1 => by rw [mCpy_ne _ _ _ _ (by omega), mCpy_ne _ _ _ _ (by omega), mCpy_ne _ _ _ _ (by omega), mCpy_ne _ _ _ _ (by omega), mCpy_ne _ _ _ _ (by omega), mCpy_at _ _ _ _ ⟨by omega, by omega⟩, set_ne (by omega), set_ne (by omega), set_ne (by omega), set_ne (by omega), set_ne (by omega), set_ne (by omega), show (0 : Int) + (q - 0) = q by omega], fun q q0 q1 => by rw [mCpy_ne _ _ _ _ (by omega), mCpy_ne _ _ _ _ (by omega), mCpy_ne _ _ _ _ (by omega), mCpy_ne _ _ _ _ (by omega), mCpy_at _ _ _ _ ⟨by omega, by omega⟩, mCpy_ne _ _ _ _ (by omega), set_ne (by omega), set_ne (by omega), set_ne (by omega), set_ne (by omega), set_ne (by omega), set_ne (by omega), show (0 : Int) + (q - 0) = q by omega], fun q q0 q1 => by rw [mCpy_ne _ _ _ _ (by omega), mCpy_ne _ _ _ _ (by omega), mCpy_ne _ _ _ _ (by omega), mCpy_at _ _ _ _ ⟨by omega, by omega⟩, mCpy_ne _ _ _ _ (by omega), mCpy_ne _ _ _ _ (by omega), set_ne (by omega), set_ne (by omega), set_ne (by omega), set_ne (by omega), set_ne (by omega), set_ne (by omega), show (0 : Int) + (q - 0) = q by omega], fun q q0 q1 => by rw [mCpy_ne _ _ _ _ (by omega), mCpy_ne _ _ _ _ (by omega), mCpy_at _ _ _ _ ⟨by omega, by omega⟩, mCpy_ne _ _ _ _ (by omega), mCpy_ne _ _ _ _ (by omega), mCpy_ne _ _ _ _ (by omega), set_ne (by omega), set_ne (by omega), set_ne (by omega), set_ne (by omega), set_ne (by omega), set_ne (by omega), show (0 : Int) + (q - 0) = q by omega], fun q q0 q1 => by rw [mCpy_ne _ _ _ _ (by omega), mCpy_at _ _ _ _ ⟨by omega, by omega⟩, mCpy_ne _ _ _ _ (by omega), mCpy_ne _ _ _ _ (by omega), mCpy_ne _ _ _ _ (by omega), mCpy_ne _ _ _ _ (by omega), set_ne (by omega), set_ne (by omega), set_ne (by omega), set_ne (by omega), set_ne (by omega), set_ne (by omega), show (0 : Int) + (q - 0) = q by omega], fun q q0 q1 => by rw [mCpy_at _ _ _ _ ⟨by omega, by omega⟩, mCpy_ne _ _ _ _ (by omega), mCpy_ne _ _ _ _ (by omega), mCpy_ne _ _ _ _ (by omega), mCpy_ne _ _ _ _ (by omega), mCpy_ne _ _ _ _ (by omega), set_ne (by omega), set_ne (by omega), set_ne (by omega), set_ne (by omega), set_ne (by omega), set_ne (by omega), show (0 : Int) + (q - 0) = q by omega]⟩
  have e : q = 0 ∨ q = 1 ∨ q = 2 ∨ q = 3 ∨ q = 4 ∨ q = 5 := by omega
  rw [mCpy_ne _ _ _ _ (by omega), mCpy_ne _ _ _ _ (by omega), mCpy_ne _ _ _ _ (by omega), mCpy_ne _ _ _ _ (by omega), mCpy_ne _ _ _ _ (by omega), mCpy_ne _ _ _ _ (by omega)]
  rcases e with rfl | rfl | rfl | rfl | rfl | rfl <;> simp [mSet]
theorem ctrX3_copyFrom {l : Launch} (hst : l.stackTraces = false) (hT : mTxM l) : mCtr l calX3_copyFrom spX3_copyFrom :=
  mMet0 (T := TX3_copyFrom) (S := SX3_copyFrom) hst hT (by decide) okX3_copyFrom ⟨_, _, rfl, rfl⟩ (fun a => match a with
    | 0 => ctrX10_copyRow hst hT
    | _ + 1 => mCtr_no) vcX3_copyFrom

def spX6_copyFrom : mSp := shRR (fun fl x y I Q => ∃ c a : Nat, x = some (c + 2) ∧ y = some (a + 2) ∧ staP fl c ∧ staP fl a ∧ ¬ c = a ∧ ∀ I' : mM, (∀ i, ¬ (i = c + 2 ∨ (c + 10 ≤ i ∧ i ≤ c + 15)) → I' i = I i) → cpQ I' I (c + 2) (a + 2) → Q (.inl none) I')
def SX6_copyFrom : Nat → mSp := fun a => match a with
  | 0 => spX10_copyRow
  | _ => fun _ _ _ _ => False
theorem SX6_copyFrom_0 : SX6_copyFrom 0 = spX10_copyRow := Eq.trans rfl rfl
set_option maxRecDepth 100000 in
set_option maxHeartbeats 1000000 in
theorem vcX6_copyFrom (fl : Nat → Bool) (avs : List mV) (I : mM) (Q : mO → mM → Prop) (hsp : spX6_copyFrom fl avs I Q) : mVC0 SX6_copyFrom fl Q kX6_copyFrom 2 avs I := by
  obtain ⟨x, y, rfl, h0⟩ := shRR_inv hsp
  obtain ⟨c, a, rfl, rfl, hc, ha, hne, h⟩ := h0
  obtain ⟨-, -, ⟨c1, c2⟩, ⟨c3, ⟨c4, c5⟩, c6, -⟩, ⟨c7, ⟨c8, c9⟩, c10, -⟩, ⟨c11, ⟨c12, c13⟩, c14, -⟩, ⟨c15, ⟨c16, c17⟩, c18, -⟩, ⟨c19, ⟨c20, c21⟩, c22, -⟩, ⟨c23, ⟨c24, c25⟩, c26, -⟩, -⟩ := staF hc
  obtain ⟨-, -, ⟨a1, a2⟩, ⟨a3, ⟨a4, a5⟩, a6, -⟩, ⟨a7, ⟨a8, a9⟩, a10, -⟩, ⟨a11, ⟨a12, a13⟩, a14, -⟩, ⟨a15, ⟨a16, a17⟩, a18, -⟩, ⟨a19, ⟨a20, a21⟩, a22, -⟩, ⟨a23, ⟨a24, a25⟩, a26, -⟩, -⟩ := staF ha
  have hd := staP.d hc ha hne
  refine ⟨rfl, ?_⟩
  show mWp _ _ _ _ _ _ kX6_copyFrom_0 [some (mR (some (c + 2))), some (mR (some (a + 2)))] [] I
  simp only [false_and, and_false, true_or, or_true, false_or, or_false, true_and, and_true, true_implies, false_implies, implies_true, not_true_eq_false, not_false_eq_true, and_self, List.length_cons, List.length_nil, mNoCut_, mCat_n, mCat_I, mCat_L, mCat_R, mIsL_n, mIsL_I, mIsL_R, mIsL_L, Nat.reduceAdd, Nat.reduceSub, Nat.reduceLeDiff, Nat.reduceLT, Nat.reduceEqDiff, Nat.zero_le, Int.reduceEq, Int.reduceLT, Int.reduceLE, Int.reduceNeg, Int.reduceAdd, if_true, if_false, reduceIte, reduceCtorEq, Bool.false_eq_true, ne_eq, qCmp_0, qCmp_1, qCmp_2, qCmp_3, qCmp_4, qCmp_5, ib_0, ib_1, ib_2, lb_0, lb_1, lb_2, dv_0, dv_1, wq_ld_a, wq_get, mGet_0, mGet_1, mGet_2, mGet_3, wq_putI, wq_putL, wq_ret0, wq_ret1, wq_ret2, wq_ret3, wq_ret4, ldR1, fk_6_0, ldR0, wq_callS2_3, fk_6_1, fk_6_2, fk_6_3, fk_6_4, fk_6_5, fk_6_6, kX6_copyFrom_0, sk_12, al_12, rf_12_0, sk_20, al_20, sn_20, rf_12_1, sk_21, al_21, sn_21, rf_12_2, sk_22, al_22, sn_22, rf_12_3, sk_23, al_23, sn_23, rf_12_4, sk_24, al_24, sn_24, rf_12_5, sk_25, al_25, sn_25, sk_0, al_0, SX6_copyFrom_0, shqRR_, spX10_copyRow, mrg, mrl, mSet_ap, ncast, Option.some.injEq, Option.getD_some, c1, c2, c3, c4, c5, c6, c7, c8, c9, c10, c11, c12, c13, c14, c15, c16, c17, c18, c19, c20, c21, c22, c23, c24, c25, c26, a1, a2, a3, a4, a5, a6, a7, a8, a9, a10, a11, a12, a13, a14, a15, a16, a17, a18, a19, a20, a21, a22, a23, a24, a25, a26]
  refine h _ (fun i hi => by rw [set_ne (by omega), mCpy_ne _ _ _ _ (by omega), mCpy_ne _ _ _ _ (by omega), mCpy_ne _ _ _ _ (by omega), mCpy_ne _ _ _ _ (by omega), mCpy_ne _ _ _ _ (by omega), mCpy_ne _ _ _ _ (by omega)]) ⟨by rw [set_eq, mCpy_ne _ _ _ _ (by omega), mCpy_ne _ _ _ _ (by omega), mCpy_ne _ _ _ _ (by omega), mCpy_ne _ _ _ _ (by omega), mCpy_ne _ _ _ _ (by omega), mCpy_ne _ _ _ _ (by omega)], fun q q0 q1 => by rw [set_ne (by omega), mCpy_ne _ _ _ _ (by omega), mCpy_ne _ _ _ _ (by omega), mCpy_ne _ _ _ _ (by omega), mCpy_ne _ _ _ _ (by omega), mCpy_ne _ _ _ _ (by omega), mCpy_at _ _ _ _ ⟨by omega, by omega⟩, show (0 : Int) + (q - 0) = q by omega], fun q q0 q1 => by rw [set_ne (by omega), mCpy_ne _ _ _ _ (by omega), mCpy_ne _ _ _ _ (by omega), mCpy_ne _ _ _ _ (by omega), mCpy_ne _ _ _ _ (by omega), mCpy_at _ _ _ _ ⟨by omega, by omega⟩, mCpy_ne _ _ _ _ (by omega), show (0 : Int) + (q - 0) = q by omega], fun q q0 q1 => by rw [set_ne (by omega), mCpy_ne _ _ _ _ (by omega), mCpy_ne _ _ _ _ (by omega), mCpy_ne _ _ _ _ (by omega), mCpy_at _ _ _ _ ⟨by omega, by omega⟩, mCpy_ne _ _ _ _ (by omega), mCpy_ne _ _ _ _ (by omega), show (0 : Int) + (q - 0) = q by omega], fun q q0 q1 => by rw [set_ne (by omega), mCpy_ne _ _ _ _ (by omega), mCpy_ne _ _ _ _ (by omega), mCpy_at _ _ _ _ ⟨by omega, by omega⟩, mCpy_ne _ _ _ _ (by omega), mCpy_ne _ _ _ _ (by omega), mCpy_ne _ _ _ _ (by omega), show (0 : Int) + (q - 0) = q by omega], fun q q0 q1 => by rw [set_ne (by omega), mCpy_ne _ _ _ _ (by omega), mCpy_at _ _ _ _ ⟨by omega, by omega⟩, mCpy_ne _ _ _ _ (by omega), mCpy_ne _ _ _ _ (by omega), mCpy_ne _ _ _ _ (by omega), mCpy_ne _ _ _ _ (by omega), show (0 : Int) + (q - 0) = q by omega], fun q q0 q1 => by rw [set_ne (by omega), mCpy_at _ _ _ _ ⟨by omega, by omega⟩, mCpy_ne _ _ _ _ (by omega), mCpy_ne _ _ _ _ (by omega), mCpy_ne _ _ _ _ (by omega), mCpy_ne _ _ _ _ (by omega), mCpy_ne _ _ _ _ (by omega), show (0 : Int) + (q - 0) = q by omega]⟩
theorem ctrX6_copyFrom {l : Launch} (hst : l.stackTraces = false) (hT : mTxM l) : mCtr l calX6_copyFrom spX6_copyFrom :=
  mMet0 (T := TX6_copyFrom) (S := SX6_copyFrom) hst hT (by decide) okX6_copyFrom ⟨_, _, rfl, rfl⟩ (fun a => match a with
    | 0 => ctrX10_copyRow hst hT
    | _ + 1 => mCtr_no) vcX6_copyFrom

def spX1_copyFrom : mSp := shRR (fun fl x y I Q => ∃ c a : Nat, x = some (c + 3) ∧ y = some (a + 3) ∧ staP fl c ∧ staP fl a ∧ ¬ c = a ∧ (I (a + 3) 2 = 0 ∨ I (a + 3) 2 = 1) ∧ ∀ I' : mM, (∀ i, ¬ (i = c + 3 ∨ (c + 16 ≤ i ∧ i ≤ c + 17)) → I' i = I i) → cpD I' I (c + 3) (a + 3) → Q (.inl none) I')
def SX1_copyFrom : Nat → mSp := fun a => match a with
  | 0 => spX10_copyRow
  | _ => fun _ _ _ _ => False
theorem SX1_copyFrom_0 : SX1_copyFrom 0 = spX10_copyRow := Eq.trans rfl rfl
set_option maxRecDepth 100000 in
set_option maxHeartbeats 1000000 in
theorem vcX1_copyFrom (fl : Nat → Bool) (avs : List mV) (I : mM) (Q : mO → mM → Prop) (hsp : spX1_copyFrom fl avs I Q) : mVC0 SX1_copyFrom fl Q kX1_copyFrom 2 avs I := by
  obtain ⟨x, y, rfl, h0⟩ := shRR_inv hsp
  obtain ⟨c, a, rfl, rfl, hc, ha, hne, hz, h⟩ := h0
  obtain ⟨-, -, -, -, -, -, -, -, -, ⟨c1, c2⟩, ⟨c3, ⟨c4, c5⟩, c6, -⟩, ⟨c7, ⟨c8, c9⟩, c10, -⟩⟩ := staF hc
  obtain ⟨-, -, -, -, -, -, -, -, -, ⟨a1, a2⟩, ⟨a3, ⟨a4, a5⟩, a6, -⟩, ⟨a7, ⟨a8, a9⟩, a10, -⟩⟩ := staF ha
  have hd := staP.d hc ha hne
  refine ⟨rfl, ?_⟩
  show mWp _ _ _ _ _ _ kX1_copyFrom_0 [some (mR (some (c + 3))), some (mR (some (a + 3)))] [] I
  simp only [false_and, and_false, true_or, or_true, false_or, or_false, true_and, and_true, true_implies, false_implies, implies_true, not_true_eq_false, not_false_eq_true, and_self, List.length_cons, List.length_nil, mNoCut_, mCat_n, mCat_I, mCat_L, mCat_R, mIsL_n, mIsL_I, mIsL_R, mIsL_L, Nat.reduceAdd, Nat.reduceSub, Nat.reduceLeDiff, Nat.reduceLT, Nat.reduceEqDiff, Nat.zero_le, Int.reduceEq, Int.reduceLT, Int.reduceLE, Int.reduceNeg, Int.reduceAdd, if_true, if_false, reduceIte, reduceCtorEq, Bool.false_eq_true, ne_eq, qCmp_0, qCmp_1, qCmp_2, qCmp_3, qCmp_4, qCmp_5, ib_0, ib_1, ib_2, lb_0, lb_1, lb_2, dv_0, dv_1, wq_ld_a, wq_get, mGet_0, mGet_1, mGet_2, mGet_3, wq_putI, wq_putL, wq_ret0, wq_ret1, wq_ret2, wq_ret3, wq_ret4, ldR0, ldR1, fk_1_0, fk_1_1, fk_1_2, fk_1_3, wq_callS2_3, fk_1_4, kX1_copyFrom_0, sk_13, al_13, rf_13_3, sk_26, al_26, sn_26, rf_13_4, sk_27, al_27, sn_27, sk_0, al_0, SX1_copyFrom_0, shqRR_, spX10_copyRow, mrg, mrl, mSet_ap, ncast, Option.some.injEq, Option.getD_some, c1, c2, c3, c4, c5, c6, c7, c8, c9, c10, a1, a2, a3, a4, a5, a6, a7, a8, a9, a10]
  refine ⟨hz, h _ (fun i hi => by rw [mCpy_ne _ _ _ _ (by omega), mCpy_ne _ _ _ _ (by omega), set_ne (by omega), set_ne (by omega), set_ne (by omega)]) ⟨fun q q0 q1 => ?_, fun q q0 q1 => by rw [mCpy_ne _ _ _ _ (by omega), mCpy_at _ _ _ _ ⟨by omega, by omega⟩, set_ne (by omega), set_ne (by omega), set_ne (by omega), show (0 : Int) + (q - 0) = q by omega], fun q q0 q1 => by rw [mCpy_at _ _ _ _ ⟨by omega, by omega⟩, mCpy_ne _ _ _ _ (by omega), set_ne (by omega), set_ne (by omega), set_ne (by omega), show (0 : Int) + (q - 0) = q by omega]⟩⟩
  have e : q = 0 ∨ q = 1 ∨ q = 2 := by omega
  rw [mCpy_ne _ _ _ _ (by omega), mCpy_ne _ _ _ _ (by omega)]
  rcases e with rfl | rfl | rfl <;> simp [mSet]
theorem ctrX1_copyFrom {l : Launch} (hst : l.stackTraces = false) (hT : mTxM l) : mCtr l calX1_copyFrom spX1_copyFrom :=
  mMet0 (T := TX1_copyFrom) (S := SX1_copyFrom) hst hT (by decide) okX1_copyFrom ⟨_, _, rfl, rfl⟩ (fun a => match a with
    | 0 => ctrX10_copyRow hst hT
    | _ + 1 => mCtr_no) vcX1_copyFrom

theorem eqR.tr {I I' I'' J : mM} {c a n : Nat} (h : eqR I' I c a n) (h1 : I'' c = I' c) (h2 : I a = J a) : eqR I'' J c a n := fun q q0 q1 => by rw [h1, h q q0 q1, h2]
def cpS (I' I : mM) (c a : Nat) : Prop := (∀ i, ¬ (c < i ∧ i ≤ c + 17) → I' i = I i) ∧ cpG I' I (c + 1) (a + 1) ∧ cpQ I' I (c + 2) (a + 2) ∧ cpD I' I (c + 3) (a + 3)
def spX7_copyFrom : mSp := shRR (fun fl x y I Q => ∃ c a : Nat, x = some c ∧ y = some a ∧ staP fl c ∧ staP fl a ∧ ¬ c = a ∧ (I (a + 3) 2 = 0 ∨ I (a + 3) 2 = 1) ∧ ∀ I' : mM, cpS I' I c a → Q (.inl none) I')
def SX7_copyFrom : Nat → mSp := fun a => match a with
  | 0 => spX3_copyFrom
  | 1 => spX6_copyFrom
  | 2 => spX1_copyFrom
  | _ => fun _ _ _ _ => False
theorem SX7_copyFrom_0 : SX7_copyFrom 0 = spX3_copyFrom := Eq.trans rfl rfl
theorem SX7_copyFrom_1 : SX7_copyFrom 1 = spX6_copyFrom := Eq.trans rfl rfl
theorem SX7_copyFrom_2 : SX7_copyFrom 2 = spX1_copyFrom := Eq.trans rfl rfl
set_option maxRecDepth 100000 in
set_option maxHeartbeats 1000000 in
theorem vcX7_copyFrom (fl : Nat → Bool) (avs : List mV) (I : mM) (Q : mO → mM → Prop) (hsp : spX7_copyFrom fl avs I Q) : mVC0 SX7_copyFrom fl Q kX7_copyFrom 2 avs I := by
  obtain ⟨x, y, rfl, h0⟩ := shRR_inv hsp
  obtain ⟨c, a, rfl, rfl, hc, ha, hne, hz, h⟩ := h0
  obtain ⟨⟨c1, c2⟩, ⟨c3, c4, c5⟩, -⟩ := staF hc
  obtain ⟨⟨a1, a2⟩, ⟨a3, a4, a5⟩, -⟩ := staF ha
  have hd := staP.d hc ha hne
  refine ⟨rfl, ?_⟩
  show mWp _ _ _ _ _ _ kX7_copyFrom_0 [some (mR (some c)), some (mR (some a))] [] I
  simp only [false_and, and_false, true_or, or_true, false_or, or_false, true_and, and_true, true_implies, false_implies, implies_true, not_true_eq_false, not_false_eq_true, and_self, List.length_cons, List.length_nil, mNoCut_, mCat_n, mCat_I, mCat_L, mCat_R, mIsL_n, mIsL_I, mIsL_R, mIsL_L, Nat.reduceAdd, Nat.reduceSub, Nat.reduceLeDiff, Nat.reduceLT, Nat.reduceEqDiff, Nat.zero_le, Int.reduceEq, Int.reduceLT, Int.reduceLE, Int.reduceNeg, Int.reduceAdd, if_true, if_false, reduceIte, reduceCtorEq, Bool.false_eq_true, ne_eq, qCmp_0, qCmp_1, qCmp_2, qCmp_3, qCmp_4, qCmp_5, ib_0, ib_1, ib_2, lb_0, lb_1, lb_2, dv_0, dv_1, wq_ld_a, wq_get, mGet_0, mGet_1, mGet_2, mGet_3, wq_ret0, wq_ret1, wq_ret2, wq_ret3, wq_ret4, ldR0, fk_7_0, ldR1, wq_callV2_0, fk_7_1, fk_7_2, kX7_copyFrom_0, sk_10, al_10, rf_10_0, sk_11, al_11, rf_10_1, sk_12, al_12, rf_10_2, sk_13, al_13, sk_102, al_102, SX7_copyFrom_0, SX7_copyFrom_1, SX7_copyFrom_2, shqRR_, spX3_copyFrom, spX6_copyFrom, spX1_copyFrom, mrg, mrl, mSet_ap, ncast, Option.some.injEq, c1, c2, c3, c4, c5, a1, a2, a3, a4, a5]
  refine ⟨(gndF hc.g).1, c + 1, a + 1, rfl, rfl, hc.g, ha.g, by omega, fun I1 f1 g1 => ⟨(staF hc).2.2.1, c, a, rfl, rfl, hc, ha, hne, fun I2 f2 g2 => ⟨(staF hc).2.2.2.2.2.2.2.2.2.1, c, a, rfl, rfl, hc, ha, hne, by rw [f2 _ (by omega), f1 _ (by omega)]; exact hz, fun I3 f3 g3 => h I3 ⟨fun i hi => ?_, ?_, ?_, ?_⟩⟩⟩⟩
  · rw [f3 i (by omega), f2 i (by omega), f1 i (by omega)]
  · obtain ⟨z0, z1, z2, z3, z4, z5, z6⟩ := g1
    exact ⟨z0.tr (by rw [f3 _ (by omega), f2 _ (by omega)]) rfl, z1.tr (by rw [f3 _ (by omega), f2 _ (by omega)]) rfl, z2.tr (by rw [f3 _ (by omega), f2 _ (by omega)]) rfl, z3.tr (by rw [f3 _ (by omega), f2 _ (by omega)]) rfl, z4.tr (by rw [f3 _ (by omega), f2 _ (by omega)]) rfl, z5.tr (by rw [f3 _ (by omega), f2 _ (by omega)]) rfl, z6.tr (by rw [f3 _ (by omega), f2 _ (by omega)]) rfl⟩
  · obtain ⟨z0, z1, z2, z3, z4, z5, z6⟩ := g2
    exact ⟨by rw [f3 _ (by omega), z0, f1 _ (by omega)], z1.tr (by rw [f3 _ (by omega)]) (by rw [f1 _ (by omega)]), z2.tr (by rw [f3 _ (by omega)]) (by rw [f1 _ (by omega)]), z3.tr (by rw [f3 _ (by omega)]) (by rw [f1 _ (by omega)]), z4.tr (by rw [f3 _ (by omega)]) (by rw [f1 _ (by omega)]), z5.tr (by rw [f3 _ (by omega)]) (by rw [f1 _ (by omega)]), z6.tr (by rw [f3 _ (by omega)]) (by rw [f1 _ (by omega)])⟩
  · obtain ⟨z0, z1, z2⟩ := g3
    exact ⟨z0.tr rfl (by rw [f2 _ (by omega), f1 _ (by omega)]), z1.tr rfl (by rw [f2 _ (by omega), f1 _ (by omega)]), z2.tr rfl (by rw [f2 _ (by omega), f1 _ (by omega)])⟩
theorem ctrX7_copyFrom {l : Launch} (hst : l.stackTraces = false) (hT : mTxM l) : mCtr l calX7_copyFrom spX7_copyFrom :=
  mMet0 (T := TX7_copyFrom) (S := SX7_copyFrom) hst hT (by decide) okX7_copyFrom ⟨_, _, rfl, rfl⟩ (fun a => match a with
    | 0 => ctrX3_copyFrom hst hT
    | 1 => ctrX6_copyFrom hst hT
    | 2 => ctrX1_copyFrom hst hT
    | _ + 3 => mCtr_no) vcX7_copyFrom

def spX7_begin : mSp := shRR (fun fl x y I Q => x = some 10 ∧ y = some 102 ∧ ∀ I' : mM, (∀ i, ¬ (i = 11 ∨ (14 ≤ i ∧ i ≤ 19)) → I' i = I i) → cpG I' I 11 102 → (∀ I'' : mM, I'' = copyM (copyM (mSet (copyM I' 20 0 (fun _ => -1) 9) 12 6 0) 26 0 (fun _ => 0) 48) 27 0 (fun _ => 0) 4 → Q (.inl none) I''))
def SX7_begin : Nat → mSp := fun a => match a with
  | 0 => spX3_copyFrom
  | 1 => spX6_leave
  | 2 => spX1_forget
  | _ => fun _ _ _ _ => False
theorem SX7_begin_0 : SX7_begin 0 = spX3_copyFrom := Eq.trans rfl rfl
theorem SX7_begin_1 : SX7_begin 1 = spX6_leave := Eq.trans rfl rfl
theorem SX7_begin_2 : SX7_begin 2 = spX1_forget := Eq.trans rfl rfl
set_option maxRecDepth 100000 in
set_option maxHeartbeats 1000000 in
theorem vcX7_begin (fl : Nat → Bool) (avs : List mV) (I : mM) (Q : mO → mM → Prop) (hsp : spX7_begin fl avs I Q) : mVC0 SX7_begin fl Q kX7_begin 2 avs I := by
  obtain ⟨x, y, rfl, h0⟩ := shRR_inv hsp
  refine ⟨rfl, ?_⟩
  show mWp _ _ _ _ _ _ kX7_begin_0 [some (mR x), some (mR y)] [] I
  obtain ⟨rfl, rfl, h⟩ := h0
  simp only [false_and, and_false, true_or, or_true, false_or, or_false, true_and, and_true, true_implies, false_implies, implies_true, not_true_eq_false, not_false_eq_true, and_self, List.length_cons, List.length_nil, mNoCut_, mCat_n, mCat_I, mCat_L, mCat_R, mIsL_n, mIsL_I, mIsL_R, mIsL_L, Nat.reduceAdd, Nat.reduceSub, Nat.reduceLeDiff, Nat.reduceLT, Nat.reduceEqDiff, Nat.zero_le, Int.reduceEq, Int.reduceLT, Int.reduceLE, Int.reduceNeg, Int.reduceAdd, if_true, if_false, reduceIte, reduceCtorEq, Bool.false_eq_true, ne_eq, qCmp_0, qCmp_1, qCmp_2, qCmp_3, qCmp_4, qCmp_5, ib_0, ib_1, ib_2, lb_0, lb_1, lb_2, dv_0, dv_1, wq_ld_a, wq_get, mGet_0, mGet_1, mGet_2, mGet_3, wq_ret0, wq_ret1, wq_ret2, wq_ret3, wq_ret4, ldR0, fk_7_0, ldR1, wq_callV2_0, fk_7_1, wq_callV1_0, fk_7_2, kX7_begin_0, sk_10, al_10, rf_10_0, sk_11, al_11, rf_10_1, sk_12, al_12, rf_10_2, sk_13, al_13, sk_102, al_102, SX7_begin_0, SX7_begin_1, SX7_begin_2, shqRR_, shqR_, spX3_copyFrom, spX6_leave, spX1_forget, mrg, mrl, mSet_ap, ncast, Option.some.injEq]
  exact ⟨11, 102, rfl, rfl, Or.inl rfl, Or.inr (Or.inl rfl), by decide, fun I' f g => h I' (fun i hi => f i (by omega)) g _ rfl⟩
theorem ctrX7_begin {l : Launch} (hst : l.stackTraces = false) (hT : mTxM l) : mCtr l calX7_begin spX7_begin :=
  mMet0 (T := TX7_begin) (S := SX7_begin) hst hT (by decide) okX7_begin ⟨_, _, rfl, rfl⟩ (fun a => match a with
    | 0 => ctrX3_copyFrom hst hT
    | 1 => ctrX6_leave hst hT
    | 2 => ctrX1_forget hst hT
    | _ + 3 => mCtr_no) vcX7_begin

def spX10_restore : mSp := shRI (fun fl i k I Q => i = some 0 ∧ mrg k ∧ (¬ (0 ≤ k ∧ k < 3) → Q (.inr (mEx 0)) I) ∧ ((0 ≤ k ∧ k < 3) → fl k.toNat = false → Q (.inr (mEx 2)) I) ∧ ((0 ≤ k ∧ k < 3) → fl k.toNat = true → (I (33 + 20 * k.toNat) 2 = 0 ∨ I (33 + 20 * k.toNat) 2 = 1) ∧ ∀ I' : mM, cpS I' I 10 (30 + 20 * k.toNat) → Q (.inl none) I'))
def SX10_restore : Nat → mSp := fun a => match a with
  | 0 => spX10_needImage
  | 1 => spX7_copyFrom
  | _ => fun _ _ _ _ => False
theorem SX10_restore_0 : SX10_restore 0 = spX10_needImage := Eq.trans rfl rfl
theorem SX10_restore_1 : SX10_restore 1 = spX7_copyFrom := Eq.trans rfl rfl
set_option maxRecDepth 100000 in
set_option maxHeartbeats 1000000 in
theorem vcX10_restore (fl : Nat → Bool) (avs : List mV) (I : mM) (Q : mO → mM → Prop) (hsp : spX10_restore fl avs I Q) : mVC0 SX10_restore fl Q kX10_restore 3 avs I := by
  obtain ⟨i, k, rfl, h0⟩ := shRI_inv hsp
  refine ⟨rfl, ?_⟩
  show mWp _ _ _ _ _ _ kX10_restore_0 [some (mR i), some (mI k), none] [] I
  obtain ⟨rfl, hk, h1, h2, h3⟩ := h0
  by_cases z : (0 ≤ k ∧ k < 3)
  · cases hf : fl k.toNat
    · have h2 := h2 z hf
      clear h1 h3
      have rn : RF fl 1 k.toNat = none := by
        unfold RF
        rw [if_pos rfl, if_neg (fun w => by rw [hf] at w; exact absurd w.2 (by decide))]
      simp only [false_and, and_false, true_or, or_true, false_or, or_false, true_and, and_true, true_implies, false_implies, implies_true, not_true_eq_false, not_false_eq_true, and_self, List.length_cons, List.length_nil, mNoCut_, mCat_n, mCat_I, mCat_L, mCat_R, mIsL_n, mIsL_I, mIsL_R, mIsL_L, Nat.reduceAdd, Nat.reduceSub, Nat.reduceLeDiff, Nat.reduceLT, Nat.reduceEqDiff, Nat.zero_le, Int.reduceEq, Int.reduceLT, Int.reduceLE, Int.reduceNeg, Int.reduceAdd, if_true, if_false, reduceIte, reduceCtorEq, Bool.false_eq_true, ne_eq, qCmp_0, qCmp_1, qCmp_2, qCmp_3, qCmp_4, qCmp_5, ib_0, ib_1, ib_2, lb_0, lb_1, lb_2, dv_0, dv_1, wq_ld_i, wq_ld_a, wq_st_a, wq_nulN, wq_nulS, wq_nnlN, wq_nnlS, wq_get, mGet_0, mGet_1, mGet_2, mGet_3, wq_ald, wq_ret0, wq_ret1, wq_ret2, wq_ret3, wq_ret4, wq_thr, ldI1, wq_callS1_1, ldR0, fk_10_1, stR2, ldR2, fk_10_0, wq_callV2_0, mPut_s, mPut_I0, mPut_R0, mPut_L0, mPut_I1, mPut_R1, mPut_L1, mGo_n, sfxX10_restore_26, cutX10_restore_26, kX10_restore_26, kX10_restore_0, sk_0, al_0, rf_0_1, sk_1, al_1, sn_1, rf_0_0, sk_10, al_10, ald_n, ro0_n, al_ro, SX10_restore_0, SX10_restore_1, shqI_, shqRR_, spX10_needImage, spX7_copyFrom, mrg, mrl, mSet_ap, ncast, Option.some.injEq, rn]
      (try simp only [mrg, mrl] at *) <;> repeat' (first | (with_reducible assumption) | (with_reducible apply And.intro) | intro _)
      all_goals first | omega | exact h2 | skip
    · have h3 := h3 z hf
      clear h1 h2
      have rn : RF fl 1 k.toNat = some (30 + 20 * k.toNat) := by
        unfold RF
        rw [if_pos rfl, if_pos ⟨by omega, hf⟩]
      simp only [false_and, and_false, true_or, or_true, false_or, or_false, true_and, and_true, true_implies, false_implies, implies_true, not_true_eq_false, not_false_eq_true, and_self, List.length_cons, List.length_nil, mNoCut_, mCat_n, mCat_I, mCat_L, mCat_R, mIsL_n, mIsL_I, mIsL_R, mIsL_L, Nat.reduceAdd, Nat.reduceSub, Nat.reduceLeDiff, Nat.reduceLT, Nat.reduceEqDiff, Nat.zero_le, Int.reduceEq, Int.reduceLT, Int.reduceLE, Int.reduceNeg, Int.reduceAdd, if_true, if_false, reduceIte, reduceCtorEq, Bool.false_eq_true, ne_eq, qCmp_0, qCmp_1, qCmp_2, qCmp_3, qCmp_4, qCmp_5, ib_0, ib_1, ib_2, lb_0, lb_1, lb_2, dv_0, dv_1, wq_ld_i, wq_ld_a, wq_st_a, wq_nulN, wq_nulS, wq_nnlN, wq_nnlS, wq_get, mGet_0, mGet_1, mGet_2, mGet_3, wq_ald, wq_ret0, wq_ret1, wq_ret2, wq_ret3, wq_ret4, wq_thr, ldI1, wq_callS1_1, ldR0, fk_10_1, stR2, ldR2, fk_10_0, wq_callV2_0, mPut_s, mPut_I0, mPut_R0, mPut_L0, mPut_I1, mPut_R1, mPut_L1, mGo_n, sfxX10_restore_26, cutX10_restore_26, kX10_restore_26, kX10_restore_0, sk_0, al_0, rf_0_1, sk_1, al_1, sn_1, rf_0_0, sk_10, al_10, ald_n, ro0_n, al_ro, SX10_restore_0, SX10_restore_1, shqI_, shqRR_, spX10_needImage, spX7_copyFrom, mrg, mrl, mSet_ap, ncast, Option.some.injEq, rn]
      (try simp only [mrg, mrl] at *) <;> repeat' (first | (with_reducible assumption) | (with_reducible apply And.intro) | intro _)
      all_goals first | omega | exact ⟨10, 30 + 20 * k.toNat, rfl, rfl, Or.inl rfl, Or.inr ⟨k.toNat, by omega, rfl, hf⟩, by omega, by rw [show 30 + 20 * k.toNat + 3 = 33 + 20 * k.toNat by omega]; exact h3.1, h3.2⟩ | skip
  · have h1 := h1 z
    clear h2 h3
    simp only [false_and, and_false, true_or, or_true, false_or, or_false, true_and, and_true, true_implies, false_implies, implies_true, not_true_eq_false, not_false_eq_true, and_self, List.length_cons, List.length_nil, mNoCut_, mCat_n, mCat_I, mCat_L, mCat_R, mIsL_n, mIsL_I, mIsL_R, mIsL_L, Nat.reduceAdd, Nat.reduceSub, Nat.reduceLeDiff, Nat.reduceLT, Nat.reduceEqDiff, Nat.zero_le, Int.reduceEq, Int.reduceLT, Int.reduceLE, Int.reduceNeg, Int.reduceAdd, if_true, if_false, reduceIte, reduceCtorEq, Bool.false_eq_true, ne_eq, qCmp_0, qCmp_1, qCmp_2, qCmp_3, qCmp_4, qCmp_5, ib_0, ib_1, ib_2, lb_0, lb_1, lb_2, dv_0, dv_1, wq_ld_i, wq_ld_a, wq_st_a, wq_nulN, wq_nulS, wq_nnlN, wq_nnlS, wq_get, mGet_0, mGet_1, mGet_2, mGet_3, wq_ald, wq_ret0, wq_ret1, wq_ret2, wq_ret3, wq_ret4, wq_thr, ldI1, wq_callS1_1, ldR0, fk_10_1, stR2, ldR2, fk_10_0, wq_callV2_0, mPut_s, mPut_I0, mPut_R0, mPut_L0, mPut_I1, mPut_R1, mPut_L1, mGo_n, sfxX10_restore_26, cutX10_restore_26, kX10_restore_26, kX10_restore_0, sk_0, al_0, rf_0_1, sk_1, al_1, sn_1, rf_0_0, sk_10, al_10, ald_n, ro0_n, al_ro, SX10_restore_0, SX10_restore_1, shqI_, shqRR_, spX10_needImage, spX7_copyFrom, mrg, mrl, mSet_ap, ncast, Option.some.injEq]
    (try simp only [mrg, mrl] at *) <;> repeat' (first | (with_reducible assumption) | (with_reducible apply And.intro) | intro _)
    all_goals first | omega | exact h1 | skip
theorem ctrX10_restore {l : Launch} (hst : l.stackTraces = false) (hT : mTxM l) : mCtr l calX10_restore spX10_restore :=
  mMet0 (T := TX10_restore) (S := SX10_restore) hst hT (by decide) okX10_restore ⟨_, _, rfl, rfl⟩ (fun a => match a with
    | 0 => ctrX10_needImage hst hT
    | 1 => ctrX7_copyFrom hst hT
    | _ + 2 => mCtr_no) vcX10_restore

end SPC23
