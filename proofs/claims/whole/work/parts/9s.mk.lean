section LEXT
variable {p : Program} {l : Launch} {e : Env} {R : Room} {s : State} {m : MethodId} {args : Array Value} {below : List Frame} {meth : Method} {c : Code} {nL : Nat} {D : va_G} {cA : Nat → ClassId} {cc : ByteArray} {own : String} {A B : Nat → Prop} {H : Heap} {U : State} {ρ ρ' : Nat → Nat} {fl fl' : Nat → Bool}
/-- a world with more objects, above sz -/
def mExt (ρ : Nat → Nat) (fl : Nat → Bool) (ρ' : Nat → Nat) (fl' : Nat → Bool) (sz : Nat) : Prop :=
  (∀ i, al fl i = true → al fl' i = true) ∧ (∀ i, al fl i = true ∨ 240 ≤ i → ρ' i = ρ i) ∧ (∀ i, al fl' i = true → al fl i = false → sz ≤ ρ' i)
def mA2 (ρ : Nat → Nat) (fl : Nat → Bool) (sz : Nat) : Nat → Prop := fun q => mA ρ fl q ∨ sz ≤ q
theorem mExt.sub {sz : Nat} (h : mExt ρ fl ρ' fl' sz) : ∀ q, mA ρ' fl' q → mA2 ρ fl sz q := by
  rintro q ⟨i, hi, rfl⟩
  cases hf : al fl i with
  | true => exact Or.inl ⟨i, hf, h.2.1 i (Or.inl hf)⟩
  | false => exact Or.inr (h.2.2 i hi hf)
theorem mExt.no {sz : Nat} (h : mExt ρ fl ρ' fl' sz) : ∀ q, q < sz → ¬ mA ρ fl q → ¬ mA ρ' fl' q := fun q h1 h2 h3 => by
  rcases h.sub q h3 with h4 | h4
  · exact h2 h4
  · omega
theorem lt_of_at {i : Nat} {x : Cell} (h : H[i]? = some x) : i < H.size := (Array.getElem?_eq_some_iff.mp h).1
theorem x_Z {C n d : String} {v : Value} (hB : ∀ a : Nat, a < H.size → ¬ A a → ¬ B a) (h : va_Z C n d v A U H) : va_Z C n d v B U H := by
  obtain ⟨cf, kf, fi, f, a, cell, h1, h2, h3, h4, h5, h6, h7, h8⟩ := h
  exact ⟨cf, kf, fi, f, a, cell, h1, h2, h3, h4, h5, h6, h7, hB a (lt_of_at h5) h8⟩
theorem x_Zq {C n d : String} (hB : ∀ a : Nat, a < H.size → ¬ A a → ¬ B a) (h : va_Zq C n d A U H) : va_Zq C n d B U H := by
  rcases h with h | ⟨t, h⟩
  · exact Or.inl (x_Z hB h)
  · exact Or.inr ⟨t, x_Z hB h⟩
theorem x_L {C n d : String} (hB : ∀ a : Nat, a < H.size → ¬ A a → ¬ B a) (h : vx_L C n d A U H) : vx_L C n d B U H := by
  obtain ⟨c, k, i, f, a, cell, h1, h2, h3, h4, h5, h6, h7, h8, h9, h10⟩ := h
  exact ⟨c, k, i, f, a, cell, h1, h2, h3, h4, h5, h6, h7, h8, h9, hB a (lt_of_at h5) h10⟩
theorem x_xZq {C n d : String} (hB : ∀ a : Nat, a < H.size → ¬ A a → ¬ B a) (h : vx_Zq C n d A U H) : vx_Zq C n d B U H := ⟨x_Zq hB h.1, x_L hB h.2⟩
theorem x_T {ty : FieldType} {t N : Nat} {f : Nat → Value} (hB : ∀ a : Nat, a < H.size → ¬ A a → ¬ B a) (h : va_T ty t N f A U H) : va_T ty t N f B U H := by
  obtain ⟨cell, h1, h2, h3, h4, h5, h6, h7⟩ := h
  exact ⟨cell, h1, h2, h3, h4, h5, h6, hB t (lt_of_at h1) h7⟩
theorem x_O {C : String} {t : Nat} (hB : ∀ a : Nat, a < H.size → ¬ A a → ¬ B a) (h : va_O C t A U H) : va_O C t B U H := by
  obtain ⟨cell, h1, h2, h3, h4⟩ := h
  exact ⟨cell, h1, h2, h3, hB t (lt_of_at h1) h4⟩
theorem x_OF {o n d : String} {v : Value} {t : Nat} (hB : ∀ a : Nat, a < H.size → ¬ A a → ¬ B a) (h : va_OF o n d v t A U H) : va_OF o n d v t B U H := by
  obtain ⟨cf, k, i, f, cell, h1, h2, h3, h4, h5, h6⟩ := h
  exact ⟨cf, k, i, f, cell, h1, h2, h3, h4, h5, hB t (lt_of_at h3) h6⟩
theorem x_S {N : Nat} {len : List Nat} {byt : List (List Int32)} {adK adV : Nat → Nat} (hB : ∀ a : Nat, a < H.size → ¬ A a → ¬ B a) (h : vk_S N len byt adK adV A U H) : vk_S N len byt adK adV B U H :=
  ⟨fun i hi => ⟨x_O hB (h.1 i hi).1, x_OF hB (h.1 i hi).2.1, x_OF hB (h.1 i hi).2.2.1, x_T hB (h.1 i hi).2.2.2⟩, h.2⟩
theorem x_Ro {a n : Nat} {f : Int → Int} (hB : ∀ a : Nat, a < H.size → ¬ A a → ¬ B a) (h : mRoAt a n f A U H) : mRoAt a n f B U H := by
  obtain ⟨cell, h1, h2, h3, h4, h5, h6, h7, h8⟩ := h
  exact ⟨cell, h1, h2, h3, h4, h5, h6, hB a (lt_of_at h1) h7, h8⟩
theorem mEnv.ext (hx : mExt ρ fl ρ' fl' H.size) (h : mEnv ρ fl U H) : mEnv ρ' fl' U H := by
  obtain ⟨h1, ⟨h2, h3, h4, h5⟩, ⟨h6, h7⟩, h8, h9, h10, h11⟩ := h
  have hB := hx.no
  have eρ : ∀ i, 240 ≤ i → ρ' i = ρ i := fun i hi => hx.2.1 i (Or.inr hi)
  refine ⟨h1, ⟨?_, ?_, ?_, ?_⟩, ⟨x_xZq hB h6, x_xZq hB h7⟩, ?_, ?_, x_Z hB h10, x_Zq hB h11⟩
  · rw [eρ 240 (by decide)]; exact x_Z hB h2
  · rw [eρ 240 (by decide)]; exact x_T hB h3
  · rw [eρ 241 (by decide)]; exact x_Z hB h4
  · rw [eρ 241 (by decide)]; exact x_T hB h5
  · intro q hq
    have h9 : ∀ q ∈ mStr, 240 ≤ q.2.2.2 := by decide
    rw [eρ _ (h9 q hq)]
    exact h8 q hq
  · have e1 : (fun i => ρ' (250 + i)) = (fun i => ρ (250 + i)) := funext fun i => eρ _ (by omega)
    have e2 : (fun i => ρ' (270 + i)) = (fun i => ρ (270 + i)) := funext fun i => eρ _ (by omega)
    rw [e1, e2]
    exact x_S hB h9
theorem mFx.ext {ro : mRo} (hro : ∀ i n f, ro i = some (n, f) → 240 ≤ i) (hx : mExt ρ fl ρ' fl' s.heap.size) (F : mFx p s m args c cc nL own D cA ρ fl ro) : mFx p s m args c cc nL own D cA ρ' fl' ro := by
  obtain ⟨h1, h2, h3, h4, h5, h6, h7, h8⟩ := F
  refine ⟨h1, h2, h3, h4, h5, h6, h7.ext hx, fun i n f hi => ?_⟩
  rw [hx.2.1 i (Or.inr (hro i n f hi))]
  exact x_Ro hx.no (h8 i n f hi)
theorem mRo0_240 : ∀ i n f, mRo0 i = some (n, f) → 240 ≤ i := fun i n f h => by
  unfold mRo0 at h
  by_cases h1 : i = 240
  · omega
  · rw [if_neg h1] at h
    by_cases h2 : i = 241
    · omega
    · rw [if_neg h2] at h; cases h
theorem W_mono {Q1 Q2 : State → Prop} {locs : List Loc} {cells slots : Nat} {g : JFrame} (h : ∀ t, Q1 t → Q2 t) (w : W p l e R s m args below meth c H locs cells slots Q1 g) : W p l e R s m args below meth c H locs cells slots Q2 g := fun T hT X =>
  let ⟨t, a, b⟩ := w T hT X
  ⟨t, a, h t b⟩
/-- a world found in a list of cells -/
theorem mWs_of {ws : va_W} {I : mM} (pos : Nat → Nat) (hpos : ∀ i, al fl i = true → ws[pos i]? = some (ρ i, mE cA ρ fl (I i) i)) (hinj : ∀ i j, al fl i = true → al fl j = true → pos i = pos j → i = j) (hP : va_P D vwCl ws H) (hD : va_D A ws) : va_P D vwCl (mWs cA ρ fl I) H ∧ va_D (mA ρ fl) (mWs cA ρ fl I) ∧ ∀ i, al fl i = true → A (ρ i) := by
  refine ⟨fun k q hk => ?_, ⟨fun k1 k2 q1 q2 h1 h2 e => ?_, fun k q hk => ?_⟩, fun i hi => hD.2 _ _ (hpos i hi)⟩
  · obtain ⟨i, -, hi, rfl⟩ := mWs_ad cA ρ fl I hk
    exact hP _ _ (hpos i hi)
  · obtain ⟨i1, e1, hi1, rfl⟩ := mWs_ad cA ρ fl I h1
    obtain ⟨i2, e2, hi2, rfl⟩ := mWs_ad cA ρ fl I h2
    have h9 := hinj i1 i2 hi1 hi2 (hD.1 _ _ _ _ (hpos i1 hi1) (hpos i2 hi2) e)
    subst h9
    exact (List.getElem?_inj (List.getElem?_eq_some_iff.mp e1).1 (mIds_nd fl)).mp (e1.trans e2.symm)
  · obtain ⟨i, -, hi, rfl⟩ := mWs_ad cA ρ fl I hk
    exact ⟨i, hi, rfl⟩
end LEXT
section LTRAY
def kX10_tray_42 : List mIn := (42, 4, 0, 4, 2, 0, []) :: (44, 2, 0, 2, 1, 0, []) :: (45, 2, 0, 3, 1, 0, []) :: (46, 32, 0, 2, 3, 378, [8, 1506, 1507, 1508, 131, 1509]) :: (49, 33, 0, 0, 0, 0, []) :: []
def kX10_tray_0 : List mIn := (0, 4, 0, 0, 1, 0, []) :: (1, 2, 0, 1, 1, 0, []) :: (2, 32, 0, 0, 2, 310, [10, 1332, 1334, 38, 105, 1335]) :: (5, 7, 0, 4, 2, 0, []) :: (7, 2, 0, 2, 1, 0, []) :: (8, 0, 0, 0, 0, 0, []) :: (9, 0, 3, 0, 0, 0, []) :: (10, 32, 1, 1, 3, 175, [1017, 1018, 105, 1019]) :: (13, 2, 0, 3, 1, 0, []) :: (14, 0, 0, 0, 0, 0, []) :: (15, 0, 40, 1, 0, 0, []) :: (17, 32, 1, 1, 3, 175, [1017, 1018, 105, 1019]) :: (20, 4, 0, 4, 2, 0, []) :: (22, 23, 0, 1, 42, 0, []) :: (25, 43, 0, 0, 25, 0, []) :: kX10_tray_42
def kX10_tray : List mIn := kX10_tray_0
def TX10_tray : Nat → mCal := fun a => match a with
  | 0 => calX10_trayAt
  | 1 => calX10_needNumber
  | 2 => calX8_empty
  | _ => (yX10_tray, cX10_tray, 5, none, (0, 0, 0, 0))
def calX10_tray : mCal := (yX10_tray, cX10_tray, 5, none, (7, 112, 5, 61))
def cutX10_tray : Nat → Option (List Bool) := fun t => mLk t []
theorem okX10_tray : mOK (yX10_tray.cls, cX10_tray, TX10_tray, none, (7, 112, 5, 61), 5, mAcf [(2, 1), (10, 1), (17, 1), (29, 2)], mAcf [(2, 6), (10, 6), (17, 6), (29, 43)]) kX10_tray = true := by decide +kernel
set_option maxRecDepth 100000 in
theorem sfxX10_tray_42 : mSfx 42 kX10_tray = kX10_tray_42 := rfl
theorem cutX10_tray_42 : cutX10_tray 42 = none := by decide
def kX10_image_30 : List mIn := (30, 4, 0, 2, 1, 0, []) :: (31, 4, 0, 0, 1, 0, []) :: (32, 24, 0, 10, 0, 28, [541]) :: (35, 32, 0, 1, 2, 396, [7, 1544, 1545, 1546, 106, 1547]) :: (38, 33, 0, 0, 0, 0, []) :: []
def kX10_image_0 : List mIn := (0, 2, 0, 1, 1, 0, []) :: (1, 32, 1, 0, 1, 393, [1540, 1541, 105, 1542]) :: (4, 4, 0, 0, 1, 0, []) :: (5, 24, 0, 10, 1, 49, [542]) :: (8, 2, 0, 1, 1, 0, []) :: (9, 26, 0, 24, 0, 0, []) :: (10, 7, 0, 2, 1, 0, []) :: (11, 4, 0, 2, 1, 0, []) :: (12, 23, 0, 1, 30, 0, []) :: (15, 43, 0, 0, 15, 0, []) :: kX10_image_30
def kX10_image : List mIn := kX10_image_0
def TX10_image : Nat → mCal := fun a => match a with
  | 0 => calX10_needImage
  | 1 => calX7_copyFrom
  | _ => (yX10_image, cX10_image, 3, none, (0, 0, 0, 0))
def calX10_image : mCal := (yX10_image, cX10_image, 3, none, (7, 123, 19, 653))
def cutX10_image : Nat → Option (List Bool) := fun t => mLk t []
theorem okX10_image : mOK (yX10_image.cls, cX10_image, TX10_image, none, (7, 123, 19, 653), 3, mAcf [(1, 1), (19, 18)], mAcf [(1, 6), (19, 647)]) kX10_image = true := by decide +kernel
set_option maxRecDepth 100000 in
theorem sfxX10_image_30 : mSfx 30 kX10_image = kX10_image_30 := rfl
theorem cutX10_image_30 : cutX10_image 30 = none := by decide
theorem imgF {fl : Nat → Bool} {k : Nat} (h : k < 3) (hf : fl k = true) : sk (30 + 20 * k) = 8 ∧ al fl (30 + 20 * k) = true := by
  have : k = 0 ∨ k = 1 ∨ k = 2 := by omega
  rcases this with rfl | rfl | rfl <;> exact ⟨rfl, hf⟩
def spX10_tray : mSp := shRIII (fun fl i t s n I Q => i = some 0 ∧ mrg t ∧ mrg s ∧ mrg n ∧ (¬ trayP t → Q (.inr (mEx 0)) I) ∧ (trayP t → ¬ ((0 ≤ s ∧ s ≤ 3) ∧ (0 ≤ n ∧ n ≤ 40)) → Q (.inr (mEx 1)) I) ∧ (trayP t → ((0 ≤ s ∧ s ≤ 3) ∧ (0 ≤ n ∧ n ≤ 40)) → fl (3 + t.toNat) = true ∧ Q (.inl none) (copyM (mSet (mSet I (170 + 2 * t.toNat) 0 s) (170 + 2 * t.toNat) 1 n) (171 + 2 * t.toNat) 0 (fun _ => 0) 40)))
def SX10_tray : Nat → mSp := fun a => match a with
  | 0 => spX10_trayAt
  | 1 => spX10_needNumber
  | 2 => spX8_empty
  | _ => fun _ _ _ _ => False
theorem SX10_tray_0 : SX10_tray 0 = spX10_trayAt := Eq.trans rfl rfl
theorem SX10_tray_1 : SX10_tray 1 = spX10_needNumber := Eq.trans rfl rfl
theorem SX10_tray_2 : SX10_tray 2 = spX8_empty := Eq.trans rfl rfl
set_option maxRecDepth 100000 in
set_option maxHeartbeats 1000000 in
theorem vcX10_tray (fl : Nat → Bool) (avs : List mV) (I : mM) (Q : mO → mM → Prop) (hsp : spX10_tray fl avs I Q) : mVC0 SX10_tray fl Q kX10_tray 5 avs I := by
  obtain ⟨i, t, s, n, rfl, h0⟩ := shRIII_inv hsp
  refine ⟨rfl, ?_⟩
  show mWp _ _ _ _ _ _ kX10_tray_0 [some (mR i), some (mI t), some (mI s), some (mI n), none] [] I
  obtain ⟨rfl, rt, rs, rn, h1, h2, h3⟩ := h0
  by_cases z : trayP t
  · by_cases y : ((0 ≤ s ∧ s ≤ 3) ∧ (0 ≤ n ∧ n ≤ 40))
    · obtain ⟨hf, h3⟩ := h3 z y
      clear h1 h2
      have F := trayF (show t.toNat < 4 by omega) hf
      have k1 := F.1.1
      have k2 := F.1.2
      clear F
      simp only [false_and, and_false, true_or, or_true, false_or, or_false, true_and, and_true, true_implies, false_implies, implies_true, not_true_eq_false, not_false_eq_true, and_self, List.length_cons, List.length_nil, mNoCut_, mCat_n, mCat_I, mCat_L, mCat_R, mIsL_n, mIsL_I, mIsL_R, mIsL_L, Nat.reduceAdd, Nat.reduceSub, Nat.reduceLeDiff, Nat.reduceLT, Nat.reduceEqDiff, Nat.zero_le, Int.reduceEq, Int.reduceLT, Int.reduceLE, Int.reduceNeg, Int.reduceAdd, if_true, if_false, reduceIte, reduceCtorEq, Bool.false_eq_true, ne_eq, qCmp_0, qCmp_1, qCmp_2, qCmp_3, qCmp_4, qCmp_5, ib_0, ib_1, ib_2, lb_0, lb_1, lb_2, dv_0, dv_1, wq_ic, wq_ld_i, wq_ld_a, wq_st_a, wq_nulN, wq_nulS, wq_nnlN, wq_nnlS, wq_ret0, wq_ret1, wq_ret2, wq_ret3, wq_ret4, wq_cut, ldR0, ldI1, wq_callV2_0, stR4, ldI2, mrg_0_, mrg_3_, wq_callS3_1, ldI3, mrg_40_, ldR4, wq_callV3_0, mPut_s, mPut_I0, mPut_R0, mPut_L0, mPut_I1, mPut_R1, mPut_L1, mGo_n, sfxX10_tray_42, cutX10_tray_42, kX10_tray_42, kX10_tray_0, sk_0, al_0, SX10_tray_0, SX10_tray_1, SX10_tray_2, shqRI_, shqIII_, shqRII_, spX10_trayAt, spX10_needNumber, spX8_empty, mrg, mrl, mSet_ap, ncast, Option.some.injEq, hf, k1, k2]
      (try simp only [mrg, mrl] at *) <;> repeat' (first | (with_reducible assumption) | (with_reducible apply And.intro) | intro _)
      all_goals first | omega | exact ⟨t.toNat, rfl, by omega, hf, h3⟩ | skip
    · have h2 := h2 z y
      clear h1 h3
      by_cases y1 : 0 ≤ s ∧ s ≤ 3
      · have y2 : ¬ (0 ≤ n ∧ n ≤ 40) := fun w => y ⟨y1, w⟩
        simp only [false_and, and_false, true_or, or_true, false_or, or_false, true_and, and_true, true_implies, false_implies, implies_true, not_true_eq_false, not_false_eq_true, and_self, List.length_cons, List.length_nil, mNoCut_, mCat_n, mCat_I, mCat_L, mCat_R, mIsL_n, mIsL_I, mIsL_R, mIsL_L, Nat.reduceAdd, Nat.reduceSub, Nat.reduceLeDiff, Nat.reduceLT, Nat.reduceEqDiff, Nat.zero_le, Int.reduceEq, Int.reduceLT, Int.reduceLE, Int.reduceNeg, Int.reduceAdd, if_true, if_false, reduceIte, reduceCtorEq, Bool.false_eq_true, ne_eq, qCmp_0, qCmp_1, qCmp_2, qCmp_3, qCmp_4, qCmp_5, ib_0, ib_1, ib_2, lb_0, lb_1, lb_2, dv_0, dv_1, wq_ic, wq_ld_i, wq_ld_a, wq_st_a, wq_nulN, wq_nulS, wq_nnlN, wq_nnlS, wq_ret0, wq_ret1, wq_ret2, wq_ret3, wq_ret4, wq_cut, ldR0, ldI1, wq_callV2_0, stR4, ldI2, mrg_0_, mrg_3_, wq_callS3_1, ldI3, mrg_40_, ldR4, wq_callV3_0, mPut_s, mPut_I0, mPut_R0, mPut_L0, mPut_I1, mPut_R1, mPut_L1, mGo_n, sfxX10_tray_42, cutX10_tray_42, kX10_tray_42, kX10_tray_0, sk_0, al_0, SX10_tray_0, SX10_tray_1, SX10_tray_2, shqRI_, shqIII_, shqRII_, spX10_trayAt, spX10_needNumber, spX8_empty, mrg, mrl, mSet_ap, ncast, Option.some.injEq]
        (try simp only [mrg, mrl] at *) <;> repeat' (first | (with_reducible assumption) | (with_reducible apply And.intro) | intro _)
        all_goals first | omega | exact h2 | skip
      · simp only [false_and, and_false, true_or, or_true, false_or, or_false, true_and, and_true, true_implies, false_implies, implies_true, not_true_eq_false, not_false_eq_true, and_self, List.length_cons, List.length_nil, mNoCut_, mCat_n, mCat_I, mCat_L, mCat_R, mIsL_n, mIsL_I, mIsL_R, mIsL_L, Nat.reduceAdd, Nat.reduceSub, Nat.reduceLeDiff, Nat.reduceLT, Nat.reduceEqDiff, Nat.zero_le, Int.reduceEq, Int.reduceLT, Int.reduceLE, Int.reduceNeg, Int.reduceAdd, if_true, if_false, reduceIte, reduceCtorEq, Bool.false_eq_true, ne_eq, qCmp_0, qCmp_1, qCmp_2, qCmp_3, qCmp_4, qCmp_5, ib_0, ib_1, ib_2, lb_0, lb_1, lb_2, dv_0, dv_1, wq_ic, wq_ld_i, wq_ld_a, wq_st_a, wq_nulN, wq_nulS, wq_nnlN, wq_nnlS, wq_ret0, wq_ret1, wq_ret2, wq_ret3, wq_ret4, wq_cut, ldR0, ldI1, wq_callV2_0, stR4, ldI2, mrg_0_, mrg_3_, wq_callS3_1, ldI3, mrg_40_, ldR4, wq_callV3_0, mPut_s, mPut_I0, mPut_R0, mPut_L0, mPut_I1, mPut_R1, mPut_L1, mGo_n, sfxX10_tray_42, cutX10_tray_42, kX10_tray_42, kX10_tray_0, sk_0, al_0, SX10_tray_0, SX10_tray_1, SX10_tray_2, shqRI_, shqIII_, shqRII_, spX10_trayAt, spX10_needNumber, spX8_empty, mrg, mrl, mSet_ap, ncast, Option.some.injEq]
        (try simp only [mrg, mrl] at *) <;> repeat' (first | (with_reducible assumption) | (with_reducible apply And.intro) | intro _)
        all_goals first | omega | exact h2 | skip
  · have h1 := h1 z
    clear h2 h3
    simp only [false_and, and_false, true_or, or_true, false_or, or_false, true_and, and_true, true_implies, false_implies, implies_true, not_true_eq_false, not_false_eq_true, and_self, List.length_cons, List.length_nil, mNoCut_, mCat_n, mCat_I, mCat_L, mCat_R, mIsL_n, mIsL_I, mIsL_R, mIsL_L, Nat.reduceAdd, Nat.reduceSub, Nat.reduceLeDiff, Nat.reduceLT, Nat.reduceEqDiff, Nat.zero_le, Int.reduceEq, Int.reduceLT, Int.reduceLE, Int.reduceNeg, Int.reduceAdd, if_true, if_false, reduceIte, reduceCtorEq, Bool.false_eq_true, ne_eq, qCmp_0, qCmp_1, qCmp_2, qCmp_3, qCmp_4, qCmp_5, ib_0, ib_1, ib_2, lb_0, lb_1, lb_2, dv_0, dv_1, wq_ic, wq_ld_i, wq_ld_a, wq_st_a, wq_nulN, wq_nulS, wq_nnlN, wq_nnlS, wq_ret0, wq_ret1, wq_ret2, wq_ret3, wq_ret4, wq_cut, ldR0, ldI1, wq_callV2_0, stR4, ldI2, mrg_0_, mrg_3_, wq_callS3_1, ldI3, mrg_40_, ldR4, wq_callV3_0, mPut_s, mPut_I0, mPut_R0, mPut_L0, mPut_I1, mPut_R1, mPut_L1, mGo_n, sfxX10_tray_42, cutX10_tray_42, kX10_tray_42, kX10_tray_0, sk_0, al_0, SX10_tray_0, SX10_tray_1, SX10_tray_2, shqRI_, shqIII_, shqRII_, spX10_trayAt, spX10_needNumber, spX8_empty, mrg, mrl, mSet_ap, ncast, Option.some.injEq]
    (try simp only [mrg, mrl] at *) <;> repeat' (first | (with_reducible assumption) | (with_reducible apply And.intro) | intro _)
    all_goals first | omega | exact h1 | skip
theorem ctrX10_tray {l : Launch} (hst : l.stackTraces = false) (hT : mTxM l) : mCtr l calX10_tray spX10_tray :=
  mMet0 (T := TX10_tray) (S := SX10_tray) hst hT (by decide) okX10_tray ⟨_, _, rfl, rfl⟩ (fun a => match a with
    | 0 => ctrX10_trayAt hst hT
    | 1 => ctrX10_needNumber hst hT
    | 2 => ctrX8_empty hst hT
    | _ + 3 => mCtr_no) vcX10_tray

def spX10_image : mSp := shRI (fun fl i k I Q => i = some 0 ∧ mrg k ∧ (¬ (0 ≤ k ∧ k ≤ 2) → Q (.inr (mEx 0)) I) ∧ ((0 ≤ k ∧ k ≤ 2) → fl k.toNat = true ∧ (I 13 2 = 0 ∨ I 13 2 = 1) ∧ ∀ I' : mM, cpS I' I (30 + 20 * k.toNat) 10 → Q (.inl none) I'))
def SX10_image : Nat → mSp := fun a => match a with
  | 0 => spX10_needImage
  | 1 => spX7_copyFrom
  | _ => fun _ _ _ _ => False
theorem SX10_image_0 : SX10_image 0 = spX10_needImage := Eq.trans rfl rfl
theorem SX10_image_1 : SX10_image 1 = spX7_copyFrom := Eq.trans rfl rfl
set_option maxRecDepth 100000 in
set_option maxHeartbeats 1000000 in
theorem vcX10_image (fl : Nat → Bool) (avs : List mV) (I : mM) (Q : mO → mM → Prop) (hsp : spX10_image fl avs I Q) : mVC0 SX10_image fl Q kX10_image 3 avs I := by
  obtain ⟨i, k, rfl, h0⟩ := shRI_inv hsp
  refine ⟨rfl, ?_⟩
  show mWp _ _ _ _ _ _ kX10_image_0 [some (mR i), some (mI k), none] [] I
  obtain ⟨rfl, hk, h1, h3⟩ := h0
  by_cases z : (0 ≤ k ∧ k ≤ 2)
  · obtain ⟨hf, h3⟩ := h3 z
    clear h1
    have rn : RF fl 1 k.toNat = some (30 + 20 * k.toNat) := by
      unfold RF
      rw [if_pos rfl, if_pos ⟨by omega, hf⟩]
    have F := imgF (show k.toNat < 3 by omega) hf
    simp only [false_and, and_false, true_or, or_true, false_or, or_false, true_and, and_true, true_implies, false_implies, implies_true, not_true_eq_false, not_false_eq_true, and_self, List.length_cons, List.length_nil, mNoCut_, mCat_n, mCat_I, mCat_L, mCat_R, mIsL_n, mIsL_I, mIsL_R, mIsL_L, Nat.reduceAdd, Nat.reduceSub, Nat.reduceLeDiff, Nat.reduceLT, Nat.reduceEqDiff, Nat.zero_le, Int.reduceEq, Int.reduceLT, Int.reduceLE, Int.reduceNeg, Int.reduceAdd, if_true, if_false, reduceIte, reduceCtorEq, Bool.false_eq_true, ne_eq, qCmp_0, qCmp_1, qCmp_2, qCmp_3, qCmp_4, qCmp_5, ib_0, ib_1, ib_2, lb_0, lb_1, lb_2, dv_0, dv_1, wq_ld_i, wq_ld_a, wq_st_a, wq_nulN, wq_nulS, wq_nnlN, wq_nnlS, wq_get, mGet_0, mGet_1, mGet_2, mGet_3, wq_ald, wq_ret0, wq_ret1, wq_ret2, wq_ret3, wq_ret4, wq_cut, ldI1, wq_callS1_1, ldR0, fk_10_1, stR2, ldR2, fk_10_0, wq_callV2_0, mPut_s, mPut_I0, mPut_R0, mPut_L0, mPut_I1, mPut_R1, mPut_L1, mGo_n, sfxX10_image_30, cutX10_image_30, kX10_image_30, kX10_image_0, sk_0, al_0, rf_0_1, sk_1, al_1, sn_1, rf_0_0, sk_10, al_10, ald_n, ro0_n, al_ro, SX10_image_0, SX10_image_1, shqI_, shqRR_, spX10_needImage, spX7_copyFrom, mrg, mrl, mSet_ap, ncast, Option.some.injEq, rn, F.1, F.2]
    (try simp only [mrg, mrl] at *) <;> repeat' (first | (with_reducible assumption) | (with_reducible apply And.intro) | intro _)
    all_goals first | omega | exact ⟨30 + 20 * k.toNat, 10, rfl, rfl, Or.inr ⟨k.toNat, by omega, rfl, hf⟩, Or.inl rfl, by omega, h3.1, h3.2⟩ | skip
  · have h1 := h1 z
    clear h3
    simp only [false_and, and_false, true_or, or_true, false_or, or_false, true_and, and_true, true_implies, false_implies, implies_true, not_true_eq_false, not_false_eq_true, and_self, List.length_cons, List.length_nil, mNoCut_, mCat_n, mCat_I, mCat_L, mCat_R, mIsL_n, mIsL_I, mIsL_R, mIsL_L, Nat.reduceAdd, Nat.reduceSub, Nat.reduceLeDiff, Nat.reduceLT, Nat.reduceEqDiff, Nat.zero_le, Int.reduceEq, Int.reduceLT, Int.reduceLE, Int.reduceNeg, Int.reduceAdd, if_true, if_false, reduceIte, reduceCtorEq, Bool.false_eq_true, ne_eq, qCmp_0, qCmp_1, qCmp_2, qCmp_3, qCmp_4, qCmp_5, ib_0, ib_1, ib_2, lb_0, lb_1, lb_2, dv_0, dv_1, wq_ld_i, wq_ld_a, wq_st_a, wq_nulN, wq_nulS, wq_nnlN, wq_nnlS, wq_get, mGet_0, mGet_1, mGet_2, mGet_3, wq_ald, wq_ret0, wq_ret1, wq_ret2, wq_ret3, wq_ret4, wq_cut, ldI1, wq_callS1_1, ldR0, fk_10_1, stR2, ldR2, fk_10_0, wq_callV2_0, mPut_s, mPut_I0, mPut_R0, mPut_L0, mPut_I1, mPut_R1, mPut_L1, mGo_n, sfxX10_image_30, cutX10_image_30, kX10_image_30, kX10_image_0, sk_0, al_0, rf_0_1, sk_1, al_1, sn_1, rf_0_0, sk_10, al_10, ald_n, ro0_n, al_ro, SX10_image_0, SX10_image_1, shqI_, shqRR_, spX10_needImage, spX7_copyFrom, mrg, mrl, mSet_ap, ncast, Option.some.injEq]
    (try simp only [mrg, mrl] at *) <;> repeat' (first | (with_reducible assumption) | (with_reducible apply And.intro) | intro _)
    all_goals first | omega | exact h1 | skip
theorem ctrX10_image {l : Launch} (hst : l.stackTraces = false) (hT : mTxM l) : mCtr l calX10_image spX10_image :=
  mMet0 (T := TX10_image) (S := SX10_image) hst hT (by decide) okX10_image ⟨_, _, rfl, rfl⟩ (fun a => match a with
    | 0 => ctrX10_needImage hst hT
    | 1 => ctrX7_copyFrom hst hT
    | _ + 2 => mCtr_no) vcX10_image

end LTRAY
section LMAKE
variable {p : Program} {l : Launch} {e : Env} {R : Room} {s : State} {m : MethodId} {args : Array Value} {below : List Frame} {meth : Method} {c : Code} {nL : Nat} {D : va_G} {cA : Nat → ClassId} {cc : ByteArray} {own : String} {A B : Nat → Prop} {H : Heap} {U : State} {ρ ρ' : Nat → Nat} {fl fl' : Nat → Bool} {I I' : mM} {pc cells slots : Nat} {lv : List (Nat × Value)} {st : List Value} {ws wr : va_W} {Q : State → Prop}
theorem mE_same {f : Int → Int} {i : Nat} (hf : ∀ k, RF fl' i k = RF fl i k) (hr : ∀ k j, RF fl i k = some j → ρ' j = ρ j) : mE cA ρ' fl' f i = mE cA ρ fl f i := by
  have e : ∀ k, (RF fl' i k).map ρ' = (RF fl i k).map ρ := fun k => by
    rw [hf k]
    cases h : RF fl i k with
    | none => rfl
    | some j => show some (ρ' j) = some (ρ j); rw [hr k j h]
  unfold mE mFv mAr
  simp only [e]
theorem mTR_len : ∀ i, i < 240 → (mTR.getD i []).length ≤ 36 := by decide +kernel
theorem mTR_al : ∀ i, i < 240 → ∀ k, k < 36 → ((mTR.getD i []).getD k none).all (fun j => mTA.getD j 0 == 1 || mTA.getD j 0 == mTA.getD i 0) = true := by decide +kernel
theorem RF_al {i k j : Nat} (hi : al fl i = true) (h : RF fl i k = some j) : al fl j = true := by
  unfold RF at h
  by_cases h1 : i = 1
  · rw [if_pos h1] at h
    by_cases h2 : k < 3 ∧ fl k = true
    · rw [if_pos h2] at h
      cases h
      exact (imgF h2.1 h2.2).2
    · rw [if_neg h2] at h; cases h
  · rw [if_neg h1] at h
    by_cases h2 : i = 2
    · rw [if_pos h2] at h
      by_cases h3 : k < 4 ∧ fl (3 + k) = true
      · rw [if_pos h3] at h
        cases h
        exact (trayF h3.1 h3.2).1.2
      · rw [if_neg h3] at h; cases h
    · rw [if_neg h2] at h
      have hi2 := al_lt hi
      have hk : k < 36 := by
        rcases Nat.lt_or_ge k 36 with q | q
        · exact q
        · have := mTR_len i hi2
          rw [List.getD_eq_getElem?_getD, List.getElem?_eq_none (by omega)] at h
          cases h
      have h9 := mTR_al i hi2 k hk
      rw [h] at h9
      simp only [Option.all_some, Bool.or_eq_true, beq_iff_eq] at h9
      rcases h9 with h9 | h9
      · unfold al; rw [h9]
      · unfold al at hi ⊢; rw [h9]; exact hi
/-- the world grows -/
theorem mWs_ext {ws9 : va_W} {q0 a0 : Nat} {o' : va_E} (new : Nat → Option Nat)
    (h1 : ∀ i, al fl' i = true → al fl i = true ∧ new i = none ∨ ∃ j, new i = some j) (h2 : ∀ i i' j, new i = some j → new i' = some j → i = i') (h3 : ∀ i, al fl i = true → ρ' i = ρ i)
    (h4 : ∀ i, al fl i = true → i ≠ a0 → mE cA ρ' fl' (I' i) i = mE cA ρ fl (I i) i) (h5 : mE cA ρ' fl' (I' a0) a0 = o') (h6 : ∀ i j, new i = some j → ws9[j]? = some (ρ' i, mE cA ρ' fl' (I' i) i))
    (hq : (mIds fl)[q0]? = some a0) (hP : va_P D vwCl (((mWs cA ρ fl I) ++ ws9).set q0 (ρ a0, o')) H) (hD : va_D A (((mWs cA ρ fl I) ++ ws9).set q0 (ρ a0, o'))) :
    va_P D vwCl (mWs cA ρ' fl' I') H ∧ va_D (mA ρ' fl') (mWs cA ρ' fl' I') ∧ ∀ i, al fl' i = true → A (ρ' i) := by
  have hl : (mWs cA ρ fl I).length = (mIds fl).length := List.length_map _
  have hq0 : q0 < (mIds fl).length := (List.getElem?_eq_some_iff.mp hq).1
  have hold : ∀ i, al fl i = true → (mIds fl).idxOf i < (mIds fl).length ∧ (mIds fl)[(mIds fl).idxOf i]? = some i := fun i hi => by
    have hm : i ∈ mIds fl := List.mem_filter.mpr ⟨List.mem_range.mpr (al_lt hi), hi⟩
    have h9 := List.idxOf_lt_length_iff.mpr hm
    exact ⟨h9, by rw [List.getElem?_eq_getElem h9, List.getElem_idxOf]⟩
  refine mWs_of (ws := ((mWs cA ρ fl I) ++ ws9).set q0 (ρ a0, o')) (fun i => match new i with
    | some j => (mIds fl).length + j
    | none => (mIds fl).idxOf i) (fun i hi => ?_) (fun i j hi hj e => ?_) hP hD
  · cases hn : new i with
    | some j =>
      dsimp only
      rw [List.getElem?_set_ne (by omega), List.getElem?_append_right (by omega), hl, show (mIds fl).length + j - (mIds fl).length = j by omega]
      exact h6 i j hn
    | none =>
      dsimp only
      have ho : al fl i = true := by
        rcases h1 i hi with h | ⟨j, h⟩
        · exact h.1
        · rw [hn] at h; cases h
      obtain ⟨g1, g2⟩ := hold i ho
      by_cases hia : i = a0
      · subst hia
        have e : q0 = (mIds fl).idxOf i := (List.getElem?_inj hq0 (mIds_nd fl)).mp (hq.trans g2.symm)
        rw [← e, List.getElem?_set_self (by rw [List.length_append, hl]; omega), h3 i ho, h5]
      · have e : q0 ≠ (mIds fl).idxOf i := fun z => hia (by rw [← z, hq] at g2; exact (Option.some.inj g2).symm)
        rw [List.getElem?_set_ne e, List.getElem?_append_left (by rw [hl]; exact g1), mWs_at cA ρ I g2, h3 i ho, h4 i ho hia]
  · cases hn : new i with
    | some a =>
      cases hm : new j with
      | some b =>
        rw [hn, hm] at e
        dsimp only at e
        have : a = b := by omega
        subst this
        exact h2 i j a hn hm
      | none =>
        rw [hn, hm] at e
        dsimp only at e
        have ho : al fl j = true := by
          rcases h1 j hj with h | ⟨j', h⟩
          · exact h.1
          · rw [hm] at h; cases h
        have := (hold j ho).1
        omega
    | none =>
      have hoi : al fl i = true := by
        rcases h1 i hi with h | ⟨j', h⟩
        · exact h.1
        · rw [hn] at h; cases h
      cases hm : new j with
      | some b =>
        rw [hn, hm] at e
        dsimp only at e
        have := (hold i hoi).1
        omega
      | none =>
        rw [hn, hm] at e
        dsimp only at e
        have hoj : al fl j = true := by
          rcases h1 j hj with h | ⟨j', h⟩
          · exact h.1
          · rw [hm] at h; cases h
        have g1 := (hold i hoi).2
        rw [e, (hold j hoj).2] at g1
        exact (Option.some.inj g1).symm
theorem mLoc_of {ls : Array Slot} {lvs : List (Nat × Value)} {lv : mLv} (h : lv_has ls nL lvs) (hlen : lv.length = nL) (hm : ∀ i v, lv[i]? = some (some v) → (i, mc ρ v) ∈ lvs) : mLoc ρ ls nL lv := ⟨hlen, h.1, h.2.1, fun i v hi => h.2.2 _ (hm i v hi)⟩
/-- a constructor of the new object at the end is called: no place of before is noted -/
theorem n_initF {locs : List Loc} {ls : Array Slot} {y : MethodName} {cy : ByteArray} {ny idx n h : Nat} {o : va_E} {rm : Nat × Nat × Nat × Nat} {As : List Value} {wf : (Nat → Nat) → va_W} (F : nF p s m args c cc nL own D cA A) (hAO : va_AO "NineOnGrass$State" s ∧ va_AO "NineOnGrass$Tray" s) (hM : nMet l y cy ny rm D cA (.ref h :: As) [(h, o)] wf) (hd : mDc cc pc (.invokespecial idx) 3 = true) (hw : nCall y cy ny rm R n) (hl9 : Cond.methodLinkNest own idx y "NineOnGrass" ∈ mNG) (hin : Cond.instanceMethod y ∈ mBW) (hyn : y.name = "<init>") (hn : As.length = n) (hst : (st.map fun v => v.category).sum ≤ 8) (hR : cells + rm.2.2.1 ≤ R.cells ∧ slots + rm.2.2.2 ≤ R.slots)
    (hfr : s.heap.size ≤ h) (hP : va_P D vwCl (ws ++ [(h, o)]) H) (hD : va_D A (ws ++ [(h, o)])) (hS : va_S A s.heap H locs) (hl : lv_has ls nL lv)
    (k : ∀ (u : Nat → Nat) (H1 : Heap), va_P D vwCl (ws ++ wf u) H1 → va_D A (ws ++ wf u) → va_S A s.heap H1 locs → W p l e R s m args below meth c H1 locs (cells + rm.2.2.1) (slots + rm.2.2.2) Q (F0 m (pc + 3) ls st)) : W p l e R s m args below meth c H locs cells slots Q (F0 m pc ls (As.reverse ++ .ref h :: st)) := by
  obtain ⟨w1, w2, w3, w4⟩ := hw
  have hts := F.2.2.2.2.1
  have hPc : va_P D vwCl [(h, o)] H := hP.sub [ws.length] (by simp)
  have hDc : va_D A [(h, o)] := hD.sub [ws.length] (by simp [va_nd]) (by simp)
  have hFc := va_free (wc := [(h, o)]) hD hS F.2.2.2.2.2.2.2 [ws.length] (by simp)
  have hg := mWd_good (t := (y, cy, ny, none, rm)) w1
  have hrun : va_Run p l e R s m args below meth c H locs cells slots rm.2.2.1 rm.2.2.2 (F0 m pc ls (As.reverse ++ .ref h :: st)) st (va_Qv (fun _ : Nat → Nat => True) (fun u t => va_P D vwCl (wf u) t.heap ∧ va_D (va_A [(h, o)] H.size) (wf u)) (va_A [(h, o)] H.size) (Value.ref h :: As).toArray) (va_A [(h, o)] H.size) :=
    va_runIN (As := As) (rest := st) ⟨F.1, F.2.1, F.2.2.1, F.2.2.2.1, hts⟩ (hM H.size) ⟨va_cnB n hts hg rfl rfl rfl (F.2.2.2.2.2.2.1 _ hl9) (hts _ w2) w3 w4, hyn, hts _ hin⟩ (nPreS F hAO hPc hDc hS) rfl hn hl.1 rfl (lv_room hst) (mDc_of hd) hR
  intro T hT X
  obtain ⟨v, st₀, t, T', L, h0, X', hL, e1, e2, ⟨⟨u, hv, -, hb⟩, hz, hk⟩, stp⟩ := hrun T hT X
  cases hv
  rw [h0] at hz hk
  have hk1 : ∀ q : Nat, q < H.size → ¬ va_A [(h, o)] H.size q → T'.heap[q]? = H[q]? := fun q h1 h2 => by rw [e1]; exact hk q h1 h2
  obtain ⟨hP1, hD1⟩ := hb
  rw [← e1] at hP1
  obtain ⟨hP2, hD2⟩ := n_join hP hD hk1 hFc hP1 hD1
  have hS2 : va_S A s.heap T'.heap locs := ⟨Nat.le_trans hS.1 (by rw [e1]; exact hz), fun q h1 h2 => by rw [hk1 q (Nat.lt_of_lt_of_le h1 hS.1) (fun z => h2 (hFc q z))]; exact hS.2.1 q h1 h2, hS.2.2⟩
  obtain ⟨t2, a1, b1⟩ := k u T'.heap hP2 hD2 hS2 T' rfl (Stand.forget X' (fun q hq => by
    rcases hL q hq with ⟨k9, e9, hz9⟩ | hz9
    · rcases k9 with _ | k9
      · cases hz9; exact hfr
      · simp at hz9
    · exact Nat.le_trans hS.1 hz9))
  exact ⟨t2, stp t2 a1, b1⟩
theorem w_ret_no {a : Nat} {lv : mLv} {st : mSt} {I : mM} (h : w_ret a (fun _ _ => False) lv st I) : False := by
  unfold w_ret at h
  split at h <;> first | exact h.2.elim | (split at h <;> first | exact h.2.elim | exact h.elim)
end LMAKE
section LPRE
--H X10_tray
def cutTr : Nat → Option (List Bool) := fun q => mLk q [(25, [true, true, true, true, true])]
theorem cutTr_25 : cutTr 25 = some [true, true, true, true, true] := by decide
theorem cutTr_42 : cutTr 42 = none := by decide
set_option maxRecDepth 100000 in
theorem preX10_tray {fl : Nat → Bool} {I : mM} {t s n : Int} {C : Nat → mK} (rt : mrg t) (rs : mrg s) (rn : mrg n) (z : trayP t) (y : (0 ≤ s ∧ s ≤ 3) ∧ (0 ≤ n ∧ n ≤ 40)) (hf : fl (3 + t.toNat) = false) (hC : C 25 [some (mR (some 0)), some (mI t), some (mI s), some (mI n), some (mR none)] [] I) : mWp SX10_tray (mGo SX10_tray (fun _ _ => False) (fun _ _ _ => False) fl mRo0 kX10_tray cutTr C 60) (fun _ _ => False) (fun _ _ _ => False) fl mRo0 kX10_tray (mArgs 5 [mR (some 0), mI t, mI s, mI n]) [] I := by
  show mWp _ _ _ _ _ _ kX10_tray_0 [some (mR (some 0)), some (mI t), some (mI s), some (mI n), none] [] I
  simp only [false_and, and_false, true_or, or_true, false_or, or_false, true_and, and_true, true_implies, false_implies, implies_true, not_true_eq_false, not_false_eq_true, and_self, List.length_cons, List.length_nil, mNoCut_, mCat_n, mCat_I, mCat_L, mCat_R, mIsL_n, mIsL_I, mIsL_R, mIsL_L, Nat.reduceAdd, Nat.reduceSub, Nat.reduceLeDiff, Nat.reduceLT, Nat.reduceEqDiff, Nat.zero_le, Int.reduceEq, Int.reduceLT, Int.reduceLE, Int.reduceNeg, Int.reduceAdd, if_true, if_false, reduceIte, reduceCtorEq, Bool.false_eq_true, ne_eq, qCmp_0, qCmp_1, qCmp_2, qCmp_3, qCmp_4, qCmp_5, ib_0, ib_1, ib_2, lb_0, lb_1, lb_2, dv_0, dv_1, wq_ic, wq_ld_i, wq_ld_a, wq_st_a, wq_nulN, wq_nulS, wq_nnlN, wq_nnlS, wq_ret0, wq_ret1, wq_ret2, wq_ret3, wq_ret4, wq_cut, ldR0, ldI1, wq_callV2_0, stR4, ldI2, mrg_0_, mrg_3_, wq_callS3_1, ldI3, mrg_40_, ldR4, wq_callV3_0, mPut_s, mPut_I0, mPut_R0, mPut_L0, mPut_I1, mPut_R1, mPut_L1, mGo_n, sfxX10_tray_42, cutX10_tray_42, kX10_tray_42, kX10_tray_0, sk_0, al_0, SX10_tray_0, SX10_tray_1, SX10_tray_2, shqRI_, shqIII_, shqRII_, spX10_trayAt, spX10_needNumber, spX8_empty, mrg, mrl, mSet_ap, ncast, Option.some.injEq, hf, cutTr_25, mGo_c, mMask_t, mMask_n]
  (try simp only [mrg, mrl] at *) <;> repeat' (first | (with_reducible assumption) | (with_reducible apply And.intro) | intro _)
  all_goals first | omega | exact hC | skip
set_option maxRecDepth 100000 in
theorem sufX10_tray {fl : Nat → Bool} {I : mM} {t s n : Int} {Q : mO → mM → Prop} (rt : mrg t) (rs : mrg s) (rn : mrg n) (z : trayP t) (y : (0 ≤ s ∧ s ≤ 3) ∧ (0 ≤ n ∧ n ≤ 40)) (hf : fl (3 + t.toNat) = true) (hC : Q (.inl none) (copyM (mSet (mSet I (170 + 2 * t.toNat) 0 s) (170 + 2 * t.toNat) 1 n) (171 + 2 * t.toNat) 0 (fun _ => 0) 40)) : mWp SX10_tray (mGo SX10_tray Q (fun _ _ _ => False) fl mRo0 kX10_tray mNoCut (fun _ _ _ _ => False) 60) Q (fun _ _ _ => False) fl mRo0 (mSfx 42 kX10_tray) [some (mR (some 0)), some (mI t), some (mI s), some (mI n), some (mR (some (170 + 2 * t.toNat)))] [] I := by
  rw [sfxX10_tray_42]
  have F := trayF (show t.toNat < 4 by omega) hf
  have k1 := F.1.1
  have k2 := F.1.2
  clear F
  simp only [false_and, and_false, true_or, or_true, false_or, or_false, true_and, and_true, true_implies, false_implies, implies_true, not_true_eq_false, not_false_eq_true, and_self, List.length_cons, List.length_nil, mNoCut_, mCat_n, mCat_I, mCat_L, mCat_R, mIsL_n, mIsL_I, mIsL_R, mIsL_L, Nat.reduceAdd, Nat.reduceSub, Nat.reduceLeDiff, Nat.reduceLT, Nat.reduceEqDiff, Nat.zero_le, Int.reduceEq, Int.reduceLT, Int.reduceLE, Int.reduceNeg, Int.reduceAdd, if_true, if_false, reduceIte, reduceCtorEq, Bool.false_eq_true, ne_eq, qCmp_0, qCmp_1, qCmp_2, qCmp_3, qCmp_4, qCmp_5, ib_0, ib_1, ib_2, lb_0, lb_1, lb_2, dv_0, dv_1, wq_ic, wq_ld_i, wq_ld_a, wq_st_a, wq_nulN, wq_nulS, wq_nnlN, wq_nnlS, wq_ret0, wq_ret1, wq_ret2, wq_ret3, wq_ret4, wq_cut, ldR0, ldI1, wq_callV2_0, stR4, ldI2, mrg_0_, mrg_3_, wq_callS3_1, ldI3, mrg_40_, ldR4, wq_callV3_0, mPut_s, mPut_I0, mPut_R0, mPut_L0, mPut_I1, mPut_R1, mPut_L1, mGo_n, sfxX10_tray_42, cutX10_tray_42, kX10_tray_42, kX10_tray_0, sk_0, al_0, SX10_tray_0, SX10_tray_1, SX10_tray_2, shqRI_, shqIII_, shqRII_, spX10_trayAt, spX10_needNumber, spX8_empty, mrg, mrl, mSet_ap, ncast, Option.some.injEq, hf, k1, k2]
  (try simp only [mrg, mrl] at *) <;> repeat' (first | (with_reducible assumption) | (with_reducible apply And.intro) | intro _)
  all_goals first | omega | exact ⟨t.toNat, rfl, by omega, hf, hC⟩ | skip
--H X10_image
def cutIm : Nat → Option (List Bool) := fun q => mLk q [(15, [true, true, true])]
theorem cutIm_15 : cutIm 15 = some [true, true, true] := by decide
theorem cutIm_30 : cutIm 30 = none := by decide
set_option maxRecDepth 100000 in
theorem preX10_image {fl : Nat → Bool} {I : mM} {k : Int} {C : Nat → mK} (rt : mrg k) (z : 0 ≤ k ∧ k ≤ 2) (hf : fl k.toNat = false) (hC : C 15 [some (mR (some 0)), some (mI k), some (mR none)] [] I) : mWp SX10_image (mGo SX10_image (fun _ _ => False) (fun _ _ _ => False) fl mRo0 kX10_image cutIm C 60) (fun _ _ => False) (fun _ _ _ => False) fl mRo0 kX10_image (mArgs 3 [mR (some 0), mI k]) [] I := by
  show mWp _ _ _ _ _ _ kX10_image_0 [some (mR (some 0)), some (mI k), none] [] I
  have rn : RF fl 1 k.toNat = none := by
    unfold RF
    rw [if_pos rfl, if_neg (fun w => by rw [hf] at w; exact absurd w.2 (by decide))]
  simp only [false_and, and_false, true_or, or_true, false_or, or_false, true_and, and_true, true_implies, false_implies, implies_true, not_true_eq_false, not_false_eq_true, and_self, List.length_cons, List.length_nil, mNoCut_, mCat_n, mCat_I, mCat_L, mCat_R, mIsL_n, mIsL_I, mIsL_R, mIsL_L, Nat.reduceAdd, Nat.reduceSub, Nat.reduceLeDiff, Nat.reduceLT, Nat.reduceEqDiff, Nat.zero_le, Int.reduceEq, Int.reduceLT, Int.reduceLE, Int.reduceNeg, Int.reduceAdd, if_true, if_false, reduceIte, reduceCtorEq, Bool.false_eq_true, ne_eq, qCmp_0, qCmp_1, qCmp_2, qCmp_3, qCmp_4, qCmp_5, ib_0, ib_1, ib_2, lb_0, lb_1, lb_2, dv_0, dv_1, wq_ld_i, wq_ld_a, wq_st_a, wq_nulN, wq_nulS, wq_nnlN, wq_nnlS, wq_get, mGet_0, mGet_1, mGet_2, mGet_3, wq_ald, wq_ret0, wq_ret1, wq_ret2, wq_ret3, wq_ret4, wq_cut, ldI1, wq_callS1_1, ldR0, fk_10_1, stR2, ldR2, fk_10_0, wq_callV2_0, mPut_s, mPut_I0, mPut_R0, mPut_L0, mPut_I1, mPut_R1, mPut_L1, mGo_n, sfxX10_image_30, cutX10_image_30, kX10_image_30, kX10_image_0, sk_0, al_0, rf_0_1, sk_1, al_1, sn_1, rf_0_0, sk_10, al_10, ald_n, ro0_n, al_ro, SX10_image_0, SX10_image_1, shqI_, shqRR_, spX10_needImage, spX7_copyFrom, mrg, mrl, mSet_ap, ncast, Option.some.injEq, rn, cutIm_15, mGo_c, mMask_t, mMask_n]
  (try simp only [mrg, mrl] at *) <;> repeat' (first | (with_reducible assumption) | (with_reducible apply And.intro) | intro _)
  all_goals first | omega | exact hC | skip
set_option maxRecDepth 100000 in
theorem sufX10_image {fl : Nat → Bool} {I : mM} {k : Int} {Q : mO → mM → Prop} (z : 0 ≤ k ∧ k ≤ 2) (hf : fl k.toNat = true) (h13 : I 13 2 = 0 ∨ I 13 2 = 1) (hC : ∀ I' : mM, cpS I' I (30 + 20 * k.toNat) 10 → Q (.inl none) I') : mWp SX10_image (mGo SX10_image Q (fun _ _ _ => False) fl mRo0 kX10_image mNoCut (fun _ _ _ _ => False) 60) Q (fun _ _ _ => False) fl mRo0 (mSfx 30 kX10_image) [some (mR (some 0)), some (mI k), some (mR (some (30 + 20 * k.toNat)))] [] I := by
  rw [sfxX10_image_30]
  have F := imgF (show k.toNat < 3 by omega) hf
  simp only [false_and, and_false, true_or, or_true, false_or, or_false, true_and, and_true, true_implies, false_implies, implies_true, not_true_eq_false, not_false_eq_true, and_self, List.length_cons, List.length_nil, mNoCut_, mCat_n, mCat_I, mCat_L, mCat_R, mIsL_n, mIsL_I, mIsL_R, mIsL_L, Nat.reduceAdd, Nat.reduceSub, Nat.reduceLeDiff, Nat.reduceLT, Nat.reduceEqDiff, Nat.zero_le, Int.reduceEq, Int.reduceLT, Int.reduceLE, Int.reduceNeg, Int.reduceAdd, if_true, if_false, reduceIte, reduceCtorEq, Bool.false_eq_true, ne_eq, qCmp_0, qCmp_1, qCmp_2, qCmp_3, qCmp_4, qCmp_5, ib_0, ib_1, ib_2, lb_0, lb_1, lb_2, dv_0, dv_1, wq_ld_i, wq_ld_a, wq_st_a, wq_nulN, wq_nulS, wq_nnlN, wq_nnlS, wq_get, mGet_0, mGet_1, mGet_2, mGet_3, wq_ald, wq_ret0, wq_ret1, wq_ret2, wq_ret3, wq_ret4, wq_cut, ldI1, wq_callS1_1, ldR0, fk_10_1, stR2, ldR2, fk_10_0, wq_callV2_0, mPut_s, mPut_I0, mPut_R0, mPut_L0, mPut_I1, mPut_R1, mPut_L1, mGo_n, sfxX10_image_30, cutX10_image_30, kX10_image_30, kX10_image_0, sk_0, al_0, rf_0_1, sk_1, al_1, sn_1, rf_0_0, sk_10, al_10, ald_n, ro0_n, al_ro, SX10_image_0, SX10_image_1, shqI_, shqRR_, spX10_needImage, spX7_copyFrom, mrg, mrl, mSet_ap, ncast, Option.some.injEq, F.1, F.2]
  (try simp only [mrg, mrl] at *) <;> repeat' (first | (with_reducible assumption) | (with_reducible apply And.intro) | intro _)
  all_goals first | omega | exact ⟨30 + 20 * k.toNat, 10, rfl, rfl, Or.inr ⟨k.toNat, by omega, rfl, hf⟩, Or.inl rfl, by omega, h13, hC⟩ | skip
end LPRE
section LNEW
def flS (fl : Nat → Bool) (a : Nat) : Nat → Bool := fun q => if q = a then true else fl q
theorem flS_eq {fl : Nat → Bool} {a : Nat} : flS fl a a = true := if_pos rfl
theorem flS_ne {fl : Nat → Bool} {a q : Nat} (h : q ≠ a) : flS fl a q = fl q := if_neg h
theorem flS_up {fl : Nat → Bool} {a : Nat} (h : fl a = false) {q : Nat} : fl q = true → flS fl a q = true := fun z => by
  unfold flS
  split <;> first | rfl | exact z
def mPn (D : va_G) (cA : Nat → ClassId) (ρ : Nat → Nat) (fl : Nat → Bool) (avs : List mV) (I : mM) (sz : Nat) : Array Value → State → Prop := fun v U => mPc D cA ρ fl avs I v U ∧ U.heap.size = sz ∧ va_AO "NineOnGrass$State" U ∧ va_AO "NineOnGrass$Tray" U
/-- a call that leaves a world with more objects -/
def mQn (D : va_G) (cA : Nat → ClassId) (ρ : Nat → Nat) (fl fl' : Nat → Bool) (ov : Option Value) (P : mM → Prop) (sz : Nat) : Array Value → State → Outcome → State → Prop := fun _ st oc t =>
  (∃ (I' : mM) (ρ' : Nat → Nat), oc = .returned ov ∧ P I' ∧ va_P D vwCl (mWs cA ρ' fl' I') t.heap ∧ va_D (mA ρ' fl') (mWs cA ρ' fl' I') ∧ mExt ρ fl ρ' fl' sz) ∧ va_F (mA ρ fl) st t
theorem mPn_blind {D : va_G} {cA : Nat → ClassId} {ρ : Nat → Nat} {fl : Nat → Bool} {avs : List mV} {I : mM} {sz : Nat} : FrameBlind (mPn D cA ρ fl avs I sz) := fun a U g mk h =>
  ⟨mPc_blind a U g mk h.1, h.2.1, va_AO.moved (u := U) (U := U.calling g mk a) (Vm.Alike.refl U.vm) h.2.2.1, va_AO.moved (u := U) (U := U.calling g mk a) (Vm.Alike.refl U.vm) h.2.2.2⟩
/-- the answer is one object's or none's -/
def qOf (P : mM → Prop) : mO → mM → Prop := fun o I => match o with
  | .inl none => P I
  | _ => False
theorem new_conv {D : va_G} {cA : Nat → ClassId} {ρ ρ' : Nat → Nat} {fl fl' : Nat → Bool} {P : mM → Prop} {s : State} {below : List Frame} {args : Array Value} {a b : Nat} (hx : mExt ρ fl ρ' fl' s.heap.size) (hd : ∀ I : mM, va_D (mA ρ' fl') (mWs cA ρ' fl' I)) : ∀ t, vx_MQ below (mQc D cA ρ' fl' (qOf P)) (mXc D cA ρ' fl' (qOf P)) args s a b (mA ρ' fl') t → vx_MQ below (mQn D cA ρ fl fl' none P s.heap.size) (fun _ _ _ => False) args s a b (mA2 ρ fl s.heap.size) t := by
  rintro t ⟨o, h1, h2, h3⟩
  refine ⟨o, h1, h2, ?_⟩
  rcases h3 with ⟨⟨⟨ov, I', e1, q, hp⟩, hF⟩, L, hL1, hL2⟩ | ⟨q, e1, E, ce, L, ⟨I', x1, x2⟩, x3⟩
  · left
    cases ov with
    | none => exact ⟨⟨⟨I', ρ', e1, q, hp, hd I', hx⟩, hF.1, fun q hq hn => hF.2 q hq (hx.no q hq hn)⟩, L, hL1, fun z hz => hx.sub _ (hL2 z hz)⟩
    | some v => exact q.elim
  · exact x1.elim
theorem new_ret {p : Program} {l : Launch} {e : Env} {R : Room} {s : State} {m : MethodId} {args : Array Value} {below : List Frame} {meth : Method} {c : Code} {nL : Nat} {D : va_G} {cA : Nat → ClassId} {ρ ρ' : Nat → Nat} {fl fl' : Nat → Bool} {acc acs : Nat → Nat} {cc : ByteArray} {own : String} {rm : Nat × Nat × Nat × Nat} {P : mM → Prop} (hx : mExt ρ fl ρ' fl' s.heap.size) (F : mFx p s m args c cc nL own D cA ρ' fl' mRo0) (hr : meth.sig.returnType = none) (hlk : meth.locks = false) : mRetOK p l e R s m args below meth c (vx_MQ below (mQn D cA ρ fl fl' none P s.heap.size) (fun _ _ _ => False) args s rm.2.2.1 rm.2.2.2 (mA2 ρ fl s.heap.size)) nL D cA ρ' fl' acc acs cc none rm (qOf P) := by
  intro pc a lv st I h hm hd
  match a with
  | 0 =>
    simp only [Bool.and_eq_true, decide_eq_true_eq] at hd
    intro H locs ls cells slots c1 c2 hP hD hS hl
    exact W_mono (new_conv hx (fun _ => mD_any hD)) (so_ret_void F hm hr hlk (mDc_of hd.1) h H locs ls cells slots c1 c2 hP hD hS hl)
  | 1 => simp at hd
  | 2 => simp at hd
  | 3 => simp at hd
  | 4 => simp at hd
  | _ + 5 => exact absurd hd (by simp)
theorem mA_mWs {cA : Nat → ClassId} {ρ : Nat → Nat} {fl : Nat → Bool} {I : mM} {w9 : va_W} {A : Nat → Prop} {h : Nat} {o : va_E} {k : Nat} (hD : va_D A (mWs cA ρ fl I ++ w9)) (hw : w9[k]? = some (h, o)) : ¬ mA ρ fl h := by
  rintro ⟨i, hi, rfl⟩
  obtain ⟨q0, hq⟩ := mIds_at hi
  have h1 := mWs_at cA ρ I hq
  have hlt := (List.getElem?_eq_some_iff.mp h1).1
  have := hD.1 q0 ((mWs cA ρ fl I).length + k) (ρ i, mE cA ρ fl (I i) i) (ρ i, o) (by rw [List.getElem?_append_left hlt]; exact h1) (by rw [List.getElem?_append_right (by omega), show (mWs cA ρ fl I).length + k - (mWs cA ρ fl I).length = k by omega]; exact hw) rfl
  omega

def mZ (a b : Nat) (I : mM) : mM := fun i => if a ≤ i ∧ i ≤ b then (fun _ => 0) else I i
theorem tray_RF1 {fl : Nat → Bool} {k : Nat} (hk : k < 4) {i : Nat} (hi : i ≠ 2) (q : Nat) : RF (flS fl (3 + k)) i q = RF fl i q := by
  unfold RF
  by_cases h1 : i = 1
  · rw [if_pos h1, if_pos h1]
    by_cases h2 : q < 3
    · rw [flS_ne (by omega)]
    · rw [if_neg (fun z => h2 z.1), if_neg (fun z => h2 z.1)]
  · rw [if_neg h1, if_neg h1, if_neg hi, if_neg hi]
theorem al_S {fl : Nat → Bool} {a i : Nat} (h : al (flS fl a) i = true) : al fl i = true ∨ mTA.getD i 0 = a + 2 := by
  unfold al at h ⊢
  match hm : mTA.getD i 0 with
  | 0 => rw [hm] at h; cases h
  | 1 => exact Or.inl rfl
  | n + 2 =>
    rw [hm] at h
    by_cases hn : n = a
    · right; omega
    · left
      have h9 : flS fl a n = true := h
      rw [flS_ne hn] at h9
      exact h9
theorem al_S2 {fl : Nat → Bool} {a i : Nat} (h : al fl i = true) : al (flS fl a) i = true := by
  unfold al at h ⊢
  match hm : mTA.getD i 0 with
  | 0 => rw [hm] at h; cases h
  | 1 => rfl
  | n + 2 =>
    rw [hm] at h
    have h : fl n = true := h
    show flS fl a n = true
    unfold flS
    split
    · rfl
    · exact h
theorem mTA_tray : ∀ i, i < 240 → ∀ k, k < 4 → mTA.getD i 0 = 3 + k + 2 → i = 170 + 2 * k ∨ i = 171 + 2 * k := by decide +kernel
theorem mTA_img : ∀ i, i < 240 → ∀ k, k < 3 → mTA.getD i 0 = k + 2 → 30 + 20 * k ≤ i ∧ i ≤ 47 + 20 * k := by decide +kernel
set_option maxRecDepth 100000 in
set_option maxHeartbeats 4000000 in
theorem newX10_tray {l : Launch} (hst : l.stackTraces = false) (hT : mTxM l) {D : va_G} {cA : Nat → ClassId} {ρ : Nat → Nat} {fl : Nat → Bool} {I : mM} {t s n : Int} {sz : Nat} {P : mM → Prop} (rt : mrg t) (rs : mrg s) (rn : mrg n) (z : trayP t) (y : (0 ≤ s ∧ s ≤ 3) ∧ (0 ≤ n ∧ n ≤ 40)) (hf : fl (3 + t.toNat) = false)
    (hC : P (copyM (mSet (mSet (mZ (170 + 2 * t.toNat) (171 + 2 * t.toNat) I) (170 + 2 * t.toNat) 0 s) (170 + 2 * t.toNat) 1 n) (171 + 2 * t.toNat) 0 (fun _ => 0) 40)) :
    vx_Met l yX10_tray (mWd calX10_tray) (mRm (7, 112, 5, 61)) (mPn D cA ρ fl [mR (some 0), mI t, mI s, mI n] I sz) (mQn D cA ρ fl (flS fl (3 + t.toNat)) none P sz) (fun _ _ _ => False) 5 61 (mA2 ρ fl sz) := by
  have hk4 : t.toNat < 4 := by have z1 : 0 ≤ t ∧ t < 4 := z; omega
  refine vx_ofW (y := yX10_tray) (cc := cX10_tray) (maxL := 5) (ret := none) (by decide) rfl ?_
  intro p e s0 m args below meth c s₁ B hml hno hPn
  obtain ⟨⟨hargs, hK, hPP, hD, hE⟩, hsz, hA1, hA2⟩ := hPn
  subst hsz
  have hts : ∀ w ∈ mBW, w.before args s0 = true := fun w hw => atoms_spec (ws := mWd calX10_tray) B.pre w (List.mem_cons_of_mem _ hw)
  have hfc : s0.vm.findClass "NineOnGrass" = some m.cls := findClass_of_methodNamed B.named
  have F : mFx p s0 m args c cX10_tray 5 "NineOnGrass" D cA ρ fl mRo0 := ⟨B.exec, B.bytes, hml, hfc, hts, hK, hE, mRo0_at hE⟩
  have FN : nF p s0 m args c cX10_tray 5 "NineOnGrass" D cA (mA2 ρ fl s0.heap.size) := ⟨B.exec, B.bytes, hml, hfc, hts, hK, hE.1, fun q h => Or.inr h⟩
  have hCl : ∀ a, mCtr l (TX10_tray a) (SX10_tray a) := fun a => match a with
    | 0 => ctrX10_trayAt hst hT
    | 1 => ctrX10_needNumber hst hT
    | 2 => ctrX8_empty hst hT
    | _ + 3 => mCtr_no
  have hret := B.returns
  have hlk := B.notSynchronized
  have hsuf : ∀ (ρ' : Nat → Nat) (H : Heap) (locs : List Loc) (ls : Array Slot) (cells slots : Nat), mExt ρ fl ρ' (flS fl (3 + t.toNat)) s0.heap.size → cells ≤ 5 → slots ≤ 61 → va_P D vwCl (mWs cA ρ' (flS fl (3 + t.toNat)) (mZ (170 + 2 * t.toNat) (171 + 2 * t.toNat) I)) H → va_D (mA ρ' (flS fl (3 + t.toNat))) (mWs cA ρ' (flS fl (3 + t.toNat)) (mZ (170 + 2 * t.toNat) (171 + 2 * t.toNat) I)) → va_S (mA ρ' (flS fl (3 + t.toNat))) s0.heap H locs → mLoc ρ' ls 5 [some (mR (some 0)), some (mI t), some (mI s), some (mI n), some (mR (some (170 + 2 * t.toNat)))] →
      W p l e (mRm (7, 112, 5, 61)) s0 m args below meth c H locs cells slots (vx_MQ below (mQn D cA ρ fl (flS fl (3 + t.toNat)) none P s0.heap.size) (fun _ _ _ => False) args s0 5 61 (mA2 ρ fl s0.heap.size)) (F0 m 42 ls []) := by
    intro ρ' H locs ls cells slots hx hc1 hc2 hP' hD' hS' hl'
    have F' := F.ext mRo0_240 hx
    obtain ⟨q, r, e1, hw⟩ := mWp_ok (X := fun _ _ _ => False) (Q := qOf P) (S := SX10_tray) (T := TX10_tray) (acc := mAcf [(2, 1), (10, 1), (17, 1), (29, 2)]) (acs := mAcf [(2, 6), (10, 6), (17, 6), (29, 43)]) F' rfl hCl hT (fun _ _ _ _ _ h => h.elim) (new_ret (rm := (7, 112, 5, 61)) hx F' (by rw [hret]) hlk) (fun _ _ _ _ _ _ _ _ _ h _ => h.2.elim)
      (mGo_ok (X := fun _ _ _ => False) (Q := qOf P) F' rfl hCl hT (fun _ _ _ _ _ h => h.elim) (new_ret (rm := (7, 112, 5, 61)) hx F' (by rw [hret]) hlk) (fun _ _ _ _ _ _ _ _ _ h _ => h.2.elim) okX10_tray (cuts := mNoCut) (C := fun _ _ _ _ => False) (fun t2 bs2 h => by cases h) 60) (mSfx 42 kX10_tray) (mSfx_ok okX10_tray).1 _ _ _ (sufX10_tray rt rs rn z y flS_eq hC)
    rw [(mSfx_ok okX10_tray).2 q r e1] at hw
    exact hw H locs ls cells slots hc1 hc2 hP' hD' hS' hl'
  have hcut : ∀ (t2 : Nat) (bs : List Bool), cutTr t2 = some bs → ∀ (lv : mLv) (st : mSt) (I1 : mM), (t2 = 25 ∧ mMask bs lv = [some (mR (some 0)), some (mI t), some (mI s), some (mI n), some (mR none)] ∧ st = [] ∧ I1 = I) → mAW p l e (mRm (7, 112, 5, 61)) s0 m args below meth c (vx_MQ below (mQn D cA ρ fl (flS fl (3 + t.toNat)) none P s0.heap.size) (fun _ _ _ => False) args s0 5 61 (mA2 ρ fl s0.heap.size)) 5 D cA ρ fl (mAcf [(2, 1), (10, 1), (17, 1), (29, 2)]) (mAcf [(2, 6), (10, 6), (17, 6), (29, 43)]) t2 lv st I1 := by
    rintro t2 bs hbs lv st I1 ⟨rfl, elv, rfl, rfl⟩ H locs ls cells slots hc1 hc2 hP hD hS hl
    have hc1 : cells ≤ 3 := hc1
    have hc2 : slots ≤ 18 := hc2
    have hbl : bs.length = 5 := by rw [cutTr_25] at hbs; cases hbs; rfl
    have hl := hl.mask hbl
    rw [elv] at hl
    have hl := hl.has
    have hl : lv_has ls 5 [(0, .ref (ρ 0)), (1, .int (Int32.ofInt t)), (2, .int (Int32.ofInt s)), (3, .int (Int32.ofInt n)), (4, .null)] := hl
    have hD2 : va_D (mA2 ρ fl s0.heap.size) (mWs cA ρ fl I1) := hD.weaken (fun _ _ _ h => Or.inl h)
    have hS2 : va_S (mA2 ρ fl s0.heap.size) s0.heap H locs := ⟨hS.1, fun q h1 h2 => hS.2.1 q h1 (fun h3 => h2 (Or.inl h3)), fun q hq => Or.inl (hS.2.2 q hq)⟩
    have hx := FN.1
    have hb := FN.2.1
    have hc8 : vwCl[8]? = some (RX8, TX8, 3) := rfl
    have hc10 : vwCl[10]? = some (RX10, TX10, 16) := rfl
    refine va_new hx hb FN.2.2.2.2.1 (mU_in hc8) (mTy (RX8, TX8, 3)) (mU_ty hc8) hfc (hts _ (mBW_of 462 (by decide +kernel))) (hts _ (mBW_of 1488 (by decide +kernel))) (hts _ (mBW_of 131 (by decide +kernel))) hK hP hD2 hS2 FN.2.2.2.2.2.2.2 hc8 (fs := [.int 0, .int 0, .null]) (by decide +kernel) (by show cells + 1 ≤ 5; omega) (by show slots + 3 ≤ 61; omega) (by decide +kernel : decode cX10_tray 25 = .ok (.new 53, 3)) (fun h H1 hP1 hD1 hS1 => ?_)
    have hnh : ¬ mA ρ fl h := mA_mWs (k := 0) hD1 rfl
    have hfr : s0.heap.size ≤ h := by
      rcases hD1.2 (mWs cA ρ fl I1).length (h, _) (by rw [List.getElem?_append_right (Nat.le_refl _), Nat.sub_self]; rfl) with q | q
      · exact absurd q hnh
      · exact q
    refine lv_dup hx hb (by decide +kernel : decode cX10_tray 28 = .ok (.dup, 1)) rfl ?_
    refine n_initF (n := 0) (wf := trayW cA h) (As := []) (lv := [(0, .ref (ρ 0)), (1, .int (Int32.ofInt t)), (2, .int (Int32.ofInt s)), (3, .int (Int32.ofInt n)), (4, .null)]) (idx := 377) FN ⟨hA1, hA2⟩ (n_X8) (by decide +kernel) ⟨(mBW_of 1491 (by decide +kernel)), (mBW_of 131 (by decide +kernel)), by decide +kernel, ⟨by decide, by decide⟩⟩ (by decide +kernel) (mBW_of 1490 (by decide +kernel)) rfl rfl (Nat.le_of_ble_eq_true rfl) ⟨by show cells + 1 + 1 ≤ 5; omega, by show slots + 3 + 40 ≤ 61; omega⟩ hfr hP1 hD1 hS1 hl (fun u H2 hP2 hD2 hS2 => ?_)
    refine lv_astore (i := 4) (lv' := [(4, .ref h), (0, .ref (ρ 0)), (1, .int (Int32.ofInt t)), (2, .int (Int32.ofInt s)), (3, .int (Int32.ofInt n))]) hx hb (by decide +kernel : decode cX10_tray 32 = .ok (.astore 4, 2)) hl (by decide) rfl (fun ls hl => ?_)
    have hnu : ¬ mA ρ fl (u 0) := mA_mWs (k := 1) hD2 rfl
    have hfru : s0.heap.size ≤ u 0 := by
      rcases hD2.2 ((mWs cA ρ fl I1).length + 1) (u 0, _) (by rw [List.getElem?_append_right (by omega), show (mWs cA ρ fl I1).length + 1 - (mWs cA ρ fl I1).length = 1 by omega]; rfl) with q | q
      · exact absurd q hnu
      · exact q
    have hgr : ∀ {i : Nat}, al fl i = true → ∃ q0, (mIds fl)[q0]? = some i ∧ (mWs cA ρ fl I1 ++ trayW cA h u)[q0]? = some (ρ i, mE cA ρ fl (I1 i) i) := fun {i} hi => by
      obtain ⟨q0, hq⟩ := mIds_at hi
      have h1 := mWs_at cA ρ I1 hq
      exact ⟨q0, hq, by rw [List.getElem?_append_left (List.getElem?_eq_some_iff.mp h1).1]; exact h1⟩
    obtain ⟨q0, -, g0⟩ := hgr (i := 0) rfl
    obtain ⟨q2, hq2, g2⟩ := hgr (i := 2) rfl
    refine lv_aload_n (k := 0) hx hb (by decide +kernel : decode cX10_tray 34 = .ok (.aload_n 0, 1)) rfl (lv_at hl 1 rfl) ?_
    refine va_get hx hb FN.2.2.2.2.1 (mU_in hc10) hfc hK hP2 q0 (ci := 10) g0 hc10 2 (by decide) (hts _ (mBW_of 543 (by decide +kernel))) (fun _ z => z) (v := .ref (ρ 2)) rfl (by decide +kernel : decode cX10_tray 35 = .ok (.getfield 55, 3)) ?_
    refine lv_iload_n (k := 1) hx hb (by decide +kernel : decode cX10_tray 38 = .ok (.iload_n 1, 1)) rfl (lv_at hl 2 rfl) ?_
    refine lv_aload hx hb (by decide +kernel : decode cX10_tray 39 = .ok (.aload 4, 2)) (lv_at hl 0 rfl) ?_
    have htn : (Int32.ofInt t).toNatClampNeg = t.toNat := by
      have z1 : 0 ≤ t ∧ t < 4 := z
      rw [Int32.toNatClampNeg, Int32.toInt_ofInt_of_le (by omega) (by omega)]
    obtain ⟨ρ', hρ⟩ : ∃ ρ' : Nat → Nat, ρ' = fun i => if i = 170 + 2 * t.toNat then h else if i = 171 + 2 * t.toNat then u 0 else ρ i := ⟨_, rfl⟩
    have a1 : al fl (170 + 2 * t.toNat) = false := by
      have : t.toNat = 0 ∨ t.toNat = 1 ∨ t.toNat = 2 ∨ t.toNat = 3 := by omega
      rcases this with q | q | q | q <;> rw [q] at hf ⊢ <;> exact hf
    have a2 : al fl (171 + 2 * t.toNat) = false := by
      have : t.toNat = 0 ∨ t.toNat = 1 ∨ t.toNat = 2 ∨ t.toNat = 3 := by omega
      rcases this with q | q | q | q <;> rw [q] at hf ⊢ <;> exact hf
    have r1 : ρ' (170 + 2 * t.toNat) = h := by rw [hρ]; exact if_pos rfl
    have r2 : ρ' (171 + 2 * t.toNat) = u 0 := by rw [hρ]; dsimp only; rw [if_neg (by omega), if_pos rfl]
    have r3 : ∀ i, i ≠ 170 + 2 * t.toNat → i ≠ 171 + 2 * t.toNat → ρ' i = ρ i := fun i h1 h2 => by rw [hρ]; dsimp only; rw [if_neg h1, if_neg h2]
    have r4 : ∀ i, al fl i = true → ρ' i = ρ i := fun i hi => r3 i (fun z => by rw [z, a1] at hi; cases hi) (fun z => by rw [z, a2] at hi; cases hi)
    have hnew : ∀ i, al (flS fl (3 + t.toNat)) i = true → al fl i = true ∨ i = 170 + 2 * t.toNat ∨ i = 171 + 2 * t.toNat := fun i hi => by
      rcases al_S hi with q | q
      · exact Or.inl q
      · exact Or.inr (mTA_tray i (al_lt hi) t.toNat hk4 (by omega))
    have hF := trayF (fl := flS fl (3 + t.toNat)) hk4 flS_eq
    have hX : mExt ρ fl ρ' (flS fl (3 + t.toNat)) s0.heap.size := ⟨fun i hi => al_S2 hi, fun i hi => by
      rcases hi with q | q
      · exact r4 i q
      · exact r3 i (by omega) (by omega), fun i hi hn => by
      rcases hnew i hi with q | q | q
      · rw [q] at hn; cases hn
      · rw [q, r1]; exact hfr
      · rw [q, r2]; exact hfru⟩
    have hS3 : va_S (mA ρ' (flS fl (3 + t.toNat))) s0.heap H2 locs := ⟨hS2.1, fun q h1 h2 => hS2.2.1 q h1 (fun h3 => by
      rcases h3 with ⟨i, hi, rfl⟩ | h3
      · exact h2 ⟨i, al_S2 hi, (r4 i hi).symm⟩
      · omega), fun q hq => by
      obtain ⟨i, hi, e⟩ := hS.2.2 q hq
      exact ⟨i, al_S2 hi, by rw [e, r4 i hi]⟩⟩
    have hD3 : va_D (mA ρ' (flS fl (3 + t.toNat))) (mWs cA ρ fl I1 ++ trayW cA h u) := ⟨hD2.1, fun k q hq => by
      rcases Nat.lt_or_ge k (mWs cA ρ fl I1).length with g | g
      · rw [List.getElem?_append_left g] at hq
        obtain ⟨i, -, hi, rfl⟩ := mWs_ad cA ρ fl I1 hq
        exact ⟨i, al_S2 hi, (r4 i hi).symm⟩
      · rw [List.getElem?_append_right g] at hq
        rcases hk9 : k - (mWs cA ρ fl I1).length with _ | _ | k9
        · rw [hk9] at hq
          cases hq
          exact ⟨_, hF.1.2, r1.symm⟩
        · rw [hk9] at hq
          cases hq
          exact ⟨_, hF.2.2.1.2, r2.symm⟩
        · rw [hk9] at hq
          simp [trayW] at hq⟩
    refine va_astq hx hb hK hP2 hD3 hS3 q2 5 ((mWs cA ρ fl I1).length) 8 (cA := cA 25) (n := 4) g2 rfl (v := h) (by rw [List.getElem?_append_right (Nat.le_refl _), Nat.sub_self]; rfl) rfl (by
      show ¬ (Int32.ofInt t < 0 ∨ 4 ≤ (Int32.ofInt t).toNatClampNeg)
      rw [htn]
      rintro (q | q)
      · have z1 : 0 ≤ t ∧ t < 4 := z
        rw [Int32.lt_iff_toInt_lt, Int32.toInt_ofInt_of_le (by omega) (by omega)] at q
        have : (0 : Int32).toInt = 0 := rfl
        omega
      · omega) (by decide +kernel : decode cX10_tray 41 = .ok (.aastore, 1)) (fun H3 locs3 hP3 hD4 hS4 => ?_)
    rw [htn] at hP3 hD4
    obtain ⟨x1, x2, -⟩ := mWs_ext (cA := cA) (I := I1) (I' := mZ (170 + 2 * t.toNat) (171 + 2 * t.toNat) I1) (ρ := ρ) (ρ' := ρ') (fl := fl) (fl' := flS fl (3 + t.toNat)) (ws9 := trayW cA h u) (a0 := 2) (q0 := q2) (fun i => if i = 170 + 2 * t.toNat then some 0 else if i = 171 + 2 * t.toNat then some 1 else none)
      (fun i hi => by
        rcases hnew i hi with q | q | q
        · exact Or.inl ⟨q, by rw [if_neg (fun w => by rw [w, a1] at q; cases q), if_neg (fun w => by rw [w, a2] at q; cases q)]⟩
        · exact Or.inr ⟨0, if_pos q⟩
        · exact Or.inr ⟨1, by rw [if_neg (by omega), if_pos q]⟩)
      (fun i i' j h1 h2 => by
        split at h1 <;> split at h2 <;> (try split at h1) <;> (try split at h2) <;> simp_all <;> omega)
      r4
      (fun i hi hi2 => by
        have e1 : mZ (170 + 2 * t.toNat) (171 + 2 * t.toNat) I1 i = I1 i := if_neg (fun w => by
          have : i = 170 + 2 * t.toNat ∨ i = 171 + 2 * t.toNat := by omega
          rcases this with q | q
          · rw [q, a1] at hi; cases hi
          · rw [q, a2] at hi; cases hi)
        rw [e1]
        exact mE_same (fun k => tray_RF1 hk4 hi2 k) (fun k j hj => r4 j (RF_al hi hj)))
      (o' := .inl (cA 25, 4, .inr (.inr (.inr (.inr (va_up (fun j => (RF fl 2 j).map ρ) t.toNat (some h))))))) (by
        rw [mE_arr (by decide)]
        show Sum.inl (cA 25, (4, Sum.inr (Sum.inr (Sum.inr (Sum.inr (fun j => (RF (flS fl (3 + t.toNat)) 2 j).map ρ')))))) = _
        refine congrArg (fun f => Sum.inl (cA 25, (4, Sum.inr (Sum.inr (Sum.inr (Sum.inr f)))))) (funext fun j => ?_)
        show (RF (flS fl (3 + t.toNat)) 2 j).map ρ' = if j = t.toNat then some h else (RF fl 2 j).map ρ
        by_cases hj : j = t.toNat
        · rw [if_pos hj, hj, rf_2 hk4, if_pos flS_eq]
          exact congrArg some r1
        · rw [if_neg hj]
          by_cases hj4 : j < 4
          · rw [rf_2 hj4, rf_2 hj4, flS_ne (by omega)]
            by_cases hfj : fl (3 + j) = true
            · rw [if_pos hfj]
              exact congrArg some (r4 _ (trayF hj4 hfj).1.2)
            · rw [if_neg hfj]; rfl
          · unfold RF
            rw [if_neg (by decide), if_pos rfl, if_neg (fun w => hj4 w.1), if_neg (by decide), if_pos rfl, if_neg (fun w => hj4 w.1)]; rfl)
      (fun i j hj => by
        by_cases h1 : i = 170 + 2 * t.toNat
        · rw [if_pos h1] at hj
          cases hj
          rw [h1, r1, mE_obj (a := 8) hF.1.1 (by decide), show mZ (170 + 2 * t.toNat) (171 + 2 * t.toNat) I1 (170 + 2 * t.toNat) = fun _ => 0 from if_pos ⟨Nat.le_refl _, by omega⟩]
          show some (h, Sum.inr (8, [Value.int 0, Value.int 0, Value.ref (u 0)])) = some (h, Sum.inr (8, [Value.int (Int32.ofInt 0), Value.int (Int32.ofInt 0), va_rf ((RF (flS fl (3 + t.toNat)) (170 + 2 * t.toNat) 2).map ρ')]))
          rw [hF.2.1]
          show _ = some (h, Sum.inr (8, [Value.int (Int32.ofInt 0), Value.int (Int32.ofInt 0), Value.ref (ρ' (171 + 2 * t.toNat))]))
          rw [r2]; rfl
        · rw [if_neg h1] at hj
          by_cases h2 : i = 171 + 2 * t.toNat
          · rw [if_pos h2] at hj
            cases hj
            rw [h2, r2, mE_arr (by rw [hF.2.2.1.1]; decide), show mZ (170 + 2 * t.toNat) (171 + 2 * t.toNat) I1 (171 + 2 * t.toNat) = fun _ => 0 from if_pos ⟨by omega, Nat.le_refl _⟩, hF.2.2.1.1, hF.2.2.2.1]
            unfold mAr
            rw [hF.2.2.1.1]
            rfl
          · rw [if_neg h2] at hj; cases hj)
      hq2 hP3 hD4
    refine hsuf ρ' H3 locs3 ls _ _ hX (by show cells + 1 + 1 ≤ 5; omega) (by show slots + 3 + 40 ≤ 61; omega) x1 x2 hS4 (mLoc_of hl rfl (fun i v hi => ?_))
    rcases i with _ | _ | _ | _ | _ | i
    · cases hi; rw [mc_R]; show (0, Value.ref (ρ' 0)) ∈ _; rw [r3 0 (by omega) (by omega)]; simp
    · cases hi; rw [mc_I]; simp
    · cases hi; rw [mc_I]; simp
    · cases hi; rw [mc_I]; simp
    · cases hi; rw [mc_R]; show (4, Value.ref (ρ' (170 + 2 * t.toNat))) ∈ _; rw [r1]; simp
    · simp at hi
  obtain ⟨q, r, e1, hw⟩ := mWp_ok (X := fun _ _ _ => False) (Q := fun _ _ => False) (S := SX10_tray) (T := TX10_tray) (acc := mAcf [(2, 1), (10, 1), (17, 1), (29, 2)]) (acs := mAcf [(2, 6), (10, 6), (17, 6), (29, 43)]) F rfl hCl hT (fun _ _ _ _ _ h => h.elim) (rt := none) (rm := (7, 112, 5, 61)) (fun _ _ _ _ _ h => (w_ret_no h).elim) (fun _ _ _ _ _ _ _ _ _ h _ => h.2.elim)
    (mGo_ok (X := fun _ _ _ => False) (Q := fun _ _ => False) F rfl hCl hT (fun _ _ _ _ _ h => h.elim) (fun _ _ _ _ _ h => (w_ret_no h).elim) (fun _ _ _ _ _ _ _ _ _ h _ => h.2.elim) okX10_tray (cuts := cutTr) (C := fun q lv st I1 => q = 25 ∧ lv = [some (mR (some 0)), some (mI t), some (mI s), some (mI n), some (mR none)] ∧ st = [] ∧ I1 = I) hcut 60) kX10_tray okX10_tray _ _ _ (preX10_tray rt rs rn z y hf ⟨rfl, rfl, rfl, rfl⟩)
  obtain ⟨q', r', e2, h00⟩ : ∃ q r, kX10_tray = q :: r ∧ q.1 = 0 := ⟨_, _, rfl, rfl⟩
  rw [e1] at e2
  cases e2
  rw [h00] at hw
  have hfin := hw s0.heap [] _ 0 0 (Nat.zero_le _) (Nat.zero_le _) hPP hD va_S.rf (mArgs_loc rfl)
  subst hargs
  rw [lg_entry_eq]
  exact hfin
end LNEW
section LIMG
def stV (d : Nat) (j : Int) : Int := match d with
  | 1 => if j = 1 then 8 else if j = 2 then 9 else if j = 3 then 20 else if j = 4 then 9 else if j = 5 then 1 else 0
  | 10 => -1
  | 11 => 3
  | 12 => 80
  | 13 => 10
  | 14 => 1
  | _ => 0
/-- a state made anew stands from b on -/
def stM (b : Nat) (I : mM) : mM := fun i => if b ≤ i ∧ i ≤ b + 17 then stV (i - b) else I i
def imgA (h : Nat) (u : Nat → Nat) : List Nat := [h, u 0, u 7, u 14, u 1, u 2, u 3, u 4, u 5, u 6, u 8, u 9, u 10, u 11, u 12, u 13, u 15, u 16]
def imgP : List Nat := [0, 1, 8, 15, 2, 3, 4, 5, 6, 7, 9, 10, 11, 12, 13, 14, 16, 17]
def imgR (b h : Nat) (u ρ : Nat → Nat) : Nat → Nat := fun i => if b ≤ i ∧ i ≤ b + 17 then (imgA h u).getD (i - b) 0 else ρ i
set_option maxRecDepth 100000 in
set_option maxHeartbeats 4000000 in
theorem img_at {cA : Nat → ClassId} {h : Nat} {u ρ : Nat → Nat} {fl : Nat → Bool} {I : mM} {k d : Nat} (hk : k < 3) (hd : d < 18) : (stW cA h u)[imgP.getD d 0]? = some (imgR (30 + 20 * k) h u ρ (30 + 20 * k + d), mE cA (imgR (30 + 20 * k) h u ρ) fl (stM (30 + 20 * k) I (30 + 20 * k + d)) (30 + 20 * k + d)) := by
  have e : ∀ d, d < 18 → stM (30 + 20 * k) I (30 + 20 * k + d) = stV d := fun d hd => by
    unfold stM
    rw [if_pos ⟨by omega, by omega⟩, show 30 + 20 * k + d - (30 + 20 * k) = d by omega]
  rw [e d hd]
  have hd : d = 0 ∨ d = 1 ∨ d = 2 ∨ d = 3 ∨ d = 4 ∨ d = 5 ∨ d = 6 ∨ d = 7 ∨ d = 8 ∨ d = 9 ∨ d = 10 ∨ d = 11 ∨ d = 12 ∨ d = 13 ∨ d = 14 ∨ d = 15 ∨ d = 16 ∨ d = 17 := by omega
  have hk : k = 0 ∨ k = 1 ∨ k = 2 := by omega
  clear e
  rcases hk with rfl | rfl | rfl
  · rcases hd with rfl | rfl | rfl | rfl | rfl | rfl | rfl | rfl | rfl | rfl | rfl | rfl | rfl | rfl | rfl | rfl | rfl | rfl <;> rfl
  · rcases hd with rfl | rfl | rfl | rfl | rfl | rfl | rfl | rfl | rfl | rfl | rfl | rfl | rfl | rfl | rfl | rfl | rfl | rfl <;> rfl
  · rcases hd with rfl | rfl | rfl | rfl | rfl | rfl | rfl | rfl | rfl | rfl | rfl | rfl | rfl | rfl | rfl | rfl | rfl | rfl <;> rfl
end LIMG
section LNEWI
theorem mTA_img2 : ∀ k, k < 3 → ∀ i, i ≤ 30 + 20 * k + 17 → 30 + 20 * k ≤ i → mTA.getD i 0 = k + 2 := by decide +kernel
theorem imgP_inj : ∀ a, a < 18 → ∀ b, b < 18 → imgP.getD a 0 = imgP.getD b 0 → a = b := by decide +kernel
theorem imgP_on : ∀ a, a < 18 → ∃ d, d < 18 ∧ imgP.getD d 0 = a := by decide +kernel
theorem img_RF1 {fl : Nat → Bool} {k : Nat} (hk : k < 3) {i : Nat} (hi : i ≠ 1) (q : Nat) : RF (flS fl k) i q = RF fl i q := by
  unfold RF
  rw [if_neg hi, if_neg hi]
  by_cases h1 : i = 2
  · rw [if_pos h1, if_pos h1, flS_ne (by omega)]
  · rw [if_neg h1, if_neg h1]
set_option maxRecDepth 100000 in
set_option maxHeartbeats 4000000 in
theorem newX10_image {l : Launch} (hst : l.stackTraces = false) (hT : mTxM l) {D : va_G} {cA : Nat → ClassId} {ρ : Nat → Nat} {fl : Nat → Bool} {I : mM} {t : Int} {sz : Nat} {P : mM → Prop} (rt : mrg t) (z : 0 ≤ t ∧ t ≤ 2) (hf : fl t.toNat = false) (h13 : I 13 2 = 0 ∨ I 13 2 = 1)
    (hC : ∀ I' : mM, cpS I' (stM (30 + 20 * t.toNat) I) (30 + 20 * t.toNat) 10 → P I') :
    vx_Met l yX10_image (mWd calX10_image) (mRm (7, 123, 19, 653)) (mPn D cA ρ fl [mR (some 0), mI t] I sz) (mQn D cA ρ fl (flS fl t.toNat) none P sz) (fun _ _ _ => False) 19 653 (mA2 ρ fl sz) := by
  have hk4 : t.toNat < 3 := by omega
  refine vx_ofW (y := yX10_image) (cc := cX10_image) (maxL := 3) (ret := none) (by decide) rfl ?_
  intro p e s0 m args below meth c s₁ B hml hno hPn
  obtain ⟨⟨hargs, hK, hPP, hD, hE⟩, hsz, hA1, hA2⟩ := hPn
  subst hsz
  have hts : ∀ w ∈ mBW, w.before args s0 = true := fun w hw => atoms_spec (ws := mWd calX10_image) B.pre w (List.mem_cons_of_mem _ hw)
  have hfc : s0.vm.findClass "NineOnGrass" = some m.cls := findClass_of_methodNamed B.named
  have F : mFx p s0 m args c cX10_image 3 "NineOnGrass" D cA ρ fl mRo0 := ⟨B.exec, B.bytes, hml, hfc, hts, hK, hE, mRo0_at hE⟩
  have FN : nF p s0 m args c cX10_image 3 "NineOnGrass" D cA (mA2 ρ fl s0.heap.size) := ⟨B.exec, B.bytes, hml, hfc, hts, hK, hE.1, fun q h => Or.inr h⟩
  have hCl : ∀ a, mCtr l (TX10_image a) (SX10_image a) := fun a => match a with
    | 0 => ctrX10_needImage hst hT
    | 1 => ctrX7_copyFrom hst hT
    | _ + 2 => mCtr_no
  have hret := B.returns
  have hlk := B.notSynchronized
  have hsuf : ∀ (ρ' : Nat → Nat) (H : Heap) (locs : List Loc) (ls : Array Slot) (cells slots : Nat), mExt ρ fl ρ' (flS fl t.toNat) s0.heap.size → cells ≤ 19 → slots ≤ 653 → va_P D vwCl (mWs cA ρ' (flS fl t.toNat) (stM (30 + 20 * t.toNat) I)) H → va_D (mA ρ' (flS fl t.toNat)) (mWs cA ρ' (flS fl t.toNat) (stM (30 + 20 * t.toNat) I)) → va_S (mA ρ' (flS fl t.toNat)) s0.heap H locs → mLoc ρ' ls 3 [some (mR (some 0)), some (mI t), some (mR (some (30 + 20 * t.toNat)))] →
      W p l e (mRm (7, 123, 19, 653)) s0 m args below meth c H locs cells slots (vx_MQ below (mQn D cA ρ fl (flS fl t.toNat) none P s0.heap.size) (fun _ _ _ => False) args s0 19 653 (mA2 ρ fl s0.heap.size)) (F0 m 30 ls []) := by
    intro ρ' H locs ls cells slots hx hc1 hc2 hP' hD' hS' hl'
    have F' := F.ext mRo0_240 hx
    obtain ⟨q, r, e1, hw⟩ := mWp_ok (X := fun _ _ _ => False) (Q := qOf P) (S := SX10_image) (T := TX10_image) (acc := mAcf [(1, 1), (19, 18)]) (acs := mAcf [(1, 6), (19, 647)]) F' rfl hCl hT (fun _ _ _ _ _ h => h.elim) (new_ret (rm := (7, 123, 19, 653)) hx F' (by rw [hret]) hlk) (fun _ _ _ _ _ _ _ _ _ h _ => h.2.elim)
      (mGo_ok (X := fun _ _ _ => False) (Q := qOf P) F' rfl hCl hT (fun _ _ _ _ _ h => h.elim) (new_ret (rm := (7, 123, 19, 653)) hx F' (by rw [hret]) hlk) (fun _ _ _ _ _ _ _ _ _ h _ => h.2.elim) okX10_image (cuts := mNoCut) (C := fun _ _ _ _ => False) (fun t2 bs2 h => by cases h) 60) (mSfx 30 kX10_image) (mSfx_ok okX10_image).1 _ _ _ (sufX10_image z flS_eq (by show stM (30 + 20 * t.toNat) I 13 2 = 0 ∨ stM (30 + 20 * t.toNat) I 13 2 = 1; unfold stM; rw [if_neg (by omega)]; exact h13) hC)
    rw [(mSfx_ok okX10_image).2 q r e1] at hw
    exact hw H locs ls cells slots hc1 hc2 hP' hD' hS' hl'
  have hcut : ∀ (t2 : Nat) (bs : List Bool), cutIm t2 = some bs → ∀ (lv : mLv) (st : mSt) (I1 : mM), (t2 = 15 ∧ mMask bs lv = [some (mR (some 0)), some (mI t), some (mR none)] ∧ st = [] ∧ I1 = I) → mAW p l e (mRm (7, 123, 19, 653)) s0 m args below meth c (vx_MQ below (mQn D cA ρ fl (flS fl t.toNat) none P s0.heap.size) (fun _ _ _ => False) args s0 19 653 (mA2 ρ fl s0.heap.size)) 3 D cA ρ fl (mAcf [(1, 1), (19, 18)]) (mAcf [(1, 6), (19, 647)]) t2 lv st I1 := by
    rintro t2 bs hbs lv st I1 ⟨rfl, elv, rfl, rfl⟩ H locs ls cells slots hc1 hc2 hP hD hS hl
    have hc1 : cells ≤ 1 := hc1
    have hc2 : slots ≤ 6 := hc2
    have hbl : bs.length = 3 := by rw [cutIm_15] at hbs; cases hbs; rfl
    have hl := hl.mask hbl
    rw [elv] at hl
    have hl := hl.has
    have hl : lv_has ls 3 [(0, .ref (ρ 0)), (1, .int (Int32.ofInt t)), (2, .null)] := hl
    have hD2 : va_D (mA2 ρ fl s0.heap.size) (mWs cA ρ fl I1) := hD.weaken (fun _ _ _ h => Or.inl h)
    have hS2 : va_S (mA2 ρ fl s0.heap.size) s0.heap H locs := ⟨hS.1, fun q h1 h2 => hS.2.1 q h1 (fun h3 => h2 (Or.inl h3)), fun q hq => Or.inl (hS.2.2 q hq)⟩
    have hx := FN.1
    have hb := FN.2.1
    have hc8 : vwCl[7]? = some (RX7, TX7, 3) := rfl
    have hc10 : vwCl[10]? = some (RX10, TX10, 16) := rfl
    refine va_new hx hb FN.2.2.2.2.1 (mU_in hc8) (mTy (RX7, TX7, 3)) (mU_ty hc8) hfc (hts _ (mBW_of 140 (by decide +kernel))) (hts _ (mBW_of 141 (by decide +kernel))) (hts _ (mBW_of 106 (by decide +kernel))) hK hP hD2 hS2 FN.2.2.2.2.2.2.2 hc8 (fs := [.null, .null, .null]) (by decide +kernel) (by show cells + 1 ≤ 19; omega) (by show slots + 3 ≤ 653; omega) (by decide +kernel : decode cX10_image 15 = .ok (.new 9, 3)) (fun h H1 hP1 hD1 hS1 => ?_)
    have hnh : ¬ mA ρ fl h := mA_mWs (k := 0) hD1 rfl
    have hfr : s0.heap.size ≤ h := by
      rcases hD1.2 (mWs cA ρ fl I1).length (h, _) (by rw [List.getElem?_append_right (Nat.le_refl _), Nat.sub_self]; rfl) with q | q
      · exact absurd q hnh
      · exact q
    refine lv_dup hx hb (by decide +kernel : decode cX10_image 18 = .ok (.dup, 1)) rfl ?_
    refine n_initF (n := 0) (wf := stW cA h) (As := []) (lv := [(0, .ref (ρ 0)), (1, .int (Int32.ofInt t)), (2, .null)]) (idx := 11) FN ⟨hA1, hA2⟩ (n_X7) (by decide +kernel) ⟨(mBW_of 144 (by decide +kernel)), (mBW_of 106 (by decide +kernel)), by decide +kernel, ⟨by decide, by decide⟩⟩ (by decide +kernel) (mBW_of 143 (by decide +kernel)) rfl rfl (Nat.le_of_ble_eq_true rfl) ⟨by show cells + 1 + 17 ≤ 19; omega, by show slots + 3 + 644 ≤ 653; omega⟩ hfr hP1 hD1 hS1 hl (fun u H2 hP2 hD2 hS2 => ?_)
    refine lv_astore_n (i := 2) (k := 2) (lv' := [(2, .ref h), (0, .ref (ρ 0)), (1, .int (Int32.ofInt t))]) hx hb (by decide +kernel : decode cX10_image 22 = .ok (.astore_n 2, 1)) rfl hl (by decide) rfl (fun ls hl => ?_)
    have hadr : ∀ d, d < 18 → s0.heap.size ≤ (imgA h u).getD d 0 := fun d hd => by
      have h9 := img_at (cA := cA) (h := h) (u := u) (ρ := ρ) (fl := fl) (I := I1) (k := t.toNat) (d := d) hk4 hd
      have e9 : imgR (30 + 20 * t.toNat) h u ρ (30 + 20 * t.toNat + d) = (imgA h u).getD d 0 := by
        unfold imgR
        rw [if_pos ⟨by omega, by omega⟩, show 30 + 20 * t.toNat + d - (30 + 20 * t.toNat) = d by omega]
      rw [e9] at h9
      rcases hD2.2 ((mWs cA ρ fl I1).length + imgP.getD d 0) _ (by rw [List.getElem?_append_right (by omega), show (mWs cA ρ fl I1).length + imgP.getD d 0 - (mWs cA ρ fl I1).length = imgP.getD d 0 by omega]; exact h9) with q | q
      · exact absurd q (mA_mWs hD2 h9)
      · exact q
    have hgr : ∀ {i : Nat}, al fl i = true → ∃ q0, (mIds fl)[q0]? = some i ∧ (mWs cA ρ fl I1 ++ stW cA h u)[q0]? = some (ρ i, mE cA ρ fl (I1 i) i) := fun {i} hi => by
      obtain ⟨q0, hq⟩ := mIds_at hi
      have h1 := mWs_at cA ρ I1 hq
      exact ⟨q0, hq, by rw [List.getElem?_append_left (List.getElem?_eq_some_iff.mp h1).1]; exact h1⟩
    obtain ⟨q0, -, g0⟩ := hgr (i := 0) rfl
    obtain ⟨q2, hq2, g2⟩ := hgr (i := 1) rfl
    refine lv_aload_n (k := 0) hx hb (by decide +kernel : decode cX10_image 23 = .ok (.aload_n 0, 1)) rfl (lv_at hl 1 rfl) ?_
    refine va_get hx hb FN.2.2.2.2.1 (mU_in hc10) hfc hK hP2 q0 (ci := 10) g0 hc10 1 (by decide) (hts _ (mBW_of 542 (by decide +kernel))) (fun _ z => z) (v := .ref (ρ 1)) rfl (by decide +kernel : decode cX10_image 24 = .ok (.getfield 49, 3)) ?_
    refine lv_iload_n (k := 1) hx hb (by decide +kernel : decode cX10_image 27 = .ok (.iload_n 1, 1)) rfl (lv_at hl 2 rfl) ?_
    refine lv_aload_n (k := 2) hx hb (by decide +kernel : decode cX10_image 28 = .ok (.aload_n 2, 1)) rfl (lv_at hl 0 rfl) ?_
    have htn : (Int32.ofInt t).toNatClampNeg = t.toNat := by
      rw [Int32.toNatClampNeg, Int32.toInt_ofInt_of_le (by omega) (by omega)]
    obtain ⟨ρ', hρ⟩ : ∃ ρ' : Nat → Nat, ρ' = imgR (30 + 20 * t.toNat) h u ρ := ⟨_, rfl⟩
    have a1 : ∀ i, 30 + 20 * t.toNat ≤ i → i ≤ 30 + 20 * t.toNat + 17 → al fl i = false := fun i i0 i1 => by
      have g : mTA.getD i 0 = t.toNat + 2 := mTA_img2 t.toNat hk4 i i1 i0
      unfold al
      rw [g]
      exact hf
    have r1 : ∀ i, 30 + 20 * t.toNat ≤ i → i ≤ 30 + 20 * t.toNat + 17 → ρ' i = (imgA h u).getD (i - (30 + 20 * t.toNat)) 0 := fun i i0 i1 => by rw [hρ]; exact if_pos ⟨i0, i1⟩
    have r3 : ∀ i, ¬ (30 + 20 * t.toNat ≤ i ∧ i ≤ 30 + 20 * t.toNat + 17) → ρ' i = ρ i := fun i h1 => by rw [hρ]; exact if_neg h1
    have r4 : ∀ i, al fl i = true → ρ' i = ρ i := fun i hi => r3 i (fun z => by rw [a1 i z.1 z.2] at hi; cases hi)
    have hnew : ∀ i, al (flS fl t.toNat) i = true → al fl i = true ∨ (30 + 20 * t.toNat ≤ i ∧ i ≤ 30 + 20 * t.toNat + 17) := fun i hi => by
      rcases al_S hi with q | q
      · exact Or.inl q
      · have := mTA_img i (al_lt hi) t.toNat hk4 (by omega)
        exact Or.inr ⟨this.1, by omega⟩
    have hF : ∀ i, 30 + 20 * t.toNat ≤ i → i ≤ 30 + 20 * t.toNat + 17 → al (flS fl t.toNat) i = true := fun i i0 i1 => by
      have g : mTA.getD i 0 = t.toNat + 2 := mTA_img2 t.toNat hk4 i i1 i0
      unfold al
      rw [g]
      exact flS_eq
    have hX : mExt ρ fl ρ' (flS fl t.toNat) s0.heap.size := ⟨fun i hi => al_S2 hi, fun i hi => by
      rcases hi with q | q
      · exact r4 i q
      · exact r3 i (by omega), fun i hi hn => by
      rcases hnew i hi with q | q
      · rw [q] at hn; cases hn
      · rw [r1 i q.1 q.2]; exact hadr _ (by omega)⟩
    have hS3 : va_S (mA ρ' (flS fl t.toNat)) s0.heap H2 locs := ⟨hS2.1, fun q h1 h2 => hS2.2.1 q h1 (fun h3 => by
      rcases h3 with ⟨i, hi, rfl⟩ | h3
      · exact h2 ⟨i, al_S2 hi, (r4 i hi).symm⟩
      · omega), fun q hq => by
      obtain ⟨i, hi, e⟩ := hS.2.2 q hq
      exact ⟨i, al_S2 hi, by rw [e, r4 i hi]⟩⟩
    have hD3 : va_D (mA ρ' (flS fl t.toNat)) (mWs cA ρ fl I1 ++ stW cA h u) := ⟨hD2.1, fun k q hq => by
      rcases Nat.lt_or_ge k (mWs cA ρ fl I1).length with g | g
      · rw [List.getElem?_append_left g] at hq
        obtain ⟨i, -, hi, rfl⟩ := mWs_ad cA ρ fl I1 hq
        exact ⟨i, al_S2 hi, (r4 i hi).symm⟩
      · rw [List.getElem?_append_right g] at hq
        have g9 : k - (mWs cA ρ fl I1).length < 18 := (List.getElem?_eq_some_iff.mp hq).1
        obtain ⟨d, hd, hd2⟩ : ∃ d, d < 18 ∧ imgP.getD d 0 = k - (mWs cA ρ fl I1).length := imgP_on _ g9
        have h9 := img_at (cA := cA) (h := h) (u := u) (ρ := ρ) (fl := fl) (I := I1) (k := t.toNat) (d := d) hk4 hd
        rw [hd2, hq] at h9
        refine ⟨30 + 20 * t.toNat + d, hF _ (by omega) (by omega), ?_⟩
        rw [hρ]
        exact congrArg Prod.fst (Option.some.inj h9)⟩
    refine va_astq hx hb hK hP2 hD3 hS3 q2 4 ((mWs cA ρ fl I1).length) 7 (cA := cA 24) (n := 3) g2 rfl (v := h) (by rw [List.getElem?_append_right (Nat.le_refl _), Nat.sub_self]; rfl) rfl (by
      show ¬ (Int32.ofInt t < 0 ∨ 3 ≤ (Int32.ofInt t).toNatClampNeg)
      rw [htn]
      rintro (q | q)
      · rw [Int32.lt_iff_toInt_lt, Int32.toInt_ofInt_of_le (by omega) (by omega)] at q
        have : (0 : Int32).toInt = 0 := rfl
        omega
      · omega) (by decide +kernel : decode cX10_image 29 = .ok (.aastore, 1)) (fun H3 locs3 hP3 hD4 hS4 => ?_)
    rw [htn] at hP3 hD4
    obtain ⟨x1, x2, -⟩ := mWs_ext (cA := cA) (I := I1) (I' := stM (30 + 20 * t.toNat) I1) (ρ := ρ) (ρ' := ρ') (fl := fl) (fl' := flS fl t.toNat) (ws9 := stW cA h u) (a0 := 1) (q0 := q2) (fun i => if 30 + 20 * t.toNat ≤ i ∧ i ≤ 30 + 20 * t.toNat + 17 then some (imgP.getD (i - (30 + 20 * t.toNat)) 0) else none)
      (fun i hi => by
        rcases hnew i hi with q | q
        · exact Or.inl ⟨q, if_neg (fun w => by rw [a1 i w.1 w.2] at q; cases q)⟩
        · exact Or.inr ⟨_, if_pos q⟩)
      (fun i i' j h1 h2 => by
        by_cases g1 : 30 + 20 * t.toNat ≤ i ∧ i ≤ 30 + 20 * t.toNat + 17
        · by_cases g2 : 30 + 20 * t.toNat ≤ i' ∧ i' ≤ 30 + 20 * t.toNat + 17
          · rw [if_pos g1] at h1
            rw [if_pos g2] at h2
            have := imgP_inj (i - (30 + 20 * t.toNat)) (by omega) (i' - (30 + 20 * t.toNat)) (by omega) (Option.some.inj (h1.trans h2.symm))
            omega
          · rw [if_neg g2] at h2; cases h2
        · rw [if_neg g1] at h1; cases h1)
      r4
      (fun i hi hi2 => by
        have e1 : stM (30 + 20 * t.toNat) I1 i = I1 i := if_neg (fun w => by rw [a1 i w.1 w.2] at hi; cases hi)
        rw [e1]
        exact mE_same (fun k => img_RF1 hk4 hi2 k) (fun k j hj => r4 j (RF_al hi hj)))
      (o' := .inl (cA 24, 3, .inr (.inr (.inr (.inr (va_up (fun j => (RF fl 1 j).map ρ) t.toNat (some h))))))) (by
        rw [mE_arr (by decide)]
        show Sum.inl (cA 24, (3, Sum.inr (Sum.inr (Sum.inr (Sum.inr (fun j => (RF (flS fl t.toNat) 1 j).map ρ')))))) = _
        refine congrArg (fun f => Sum.inl (cA 24, (3, Sum.inr (Sum.inr (Sum.inr (Sum.inr f)))))) (funext fun j => ?_)
        show (RF (flS fl t.toNat) 1 j).map ρ' = if j = t.toNat then some h else (RF fl 1 j).map ρ
        by_cases hj : j = t.toNat
        · rw [if_pos hj, hj]
          unfold RF
          rw [if_pos rfl, if_pos ⟨hk4, flS_eq⟩]
          show some (ρ' (30 + 20 * t.toNat)) = some h
          rw [r1 _ (Nat.le_refl _) (by omega), Nat.sub_self]; rfl
        · rw [if_neg hj]
          by_cases hj4 : j < 3 ∧ fl j = true
          · have e1 : RF (flS fl t.toNat) 1 j = some (30 + 20 * j) := by unfold RF; rw [if_pos rfl, if_pos ⟨hj4.1, by rw [flS_ne hj]; exact hj4.2⟩]
            have e2 : RF fl 1 j = some (30 + 20 * j) := by unfold RF; rw [if_pos rfl, if_pos hj4]
            rw [e1, e2]
            exact congrArg some (r4 _ (imgF hj4.1 hj4.2).2)
          · have e1 : RF (flS fl t.toNat) 1 j = none := by unfold RF; rw [if_pos rfl, if_neg (by rw [flS_ne hj]; exact hj4)]
            have e2 : RF fl 1 j = none := by unfold RF; rw [if_pos rfl, if_neg hj4]
            rw [e1, e2]; rfl)
      (fun i j hj => by
        by_cases h1 : 30 + 20 * t.toNat ≤ i ∧ i ≤ 30 + 20 * t.toNat + 17
        · rw [if_pos h1] at hj
          cases hj
          have h9 := img_at (cA := cA) (h := h) (u := u) (ρ := ρ) (fl := flS fl t.toNat) (I := I1) (k := t.toNat) (d := i - (30 + 20 * t.toNat)) hk4 (by omega)
          rw [show 30 + 20 * t.toNat + (i - (30 + 20 * t.toNat)) = i by omega] at h9
          rw [hρ]
          exact h9
        · rw [if_neg h1] at hj; cases hj)
      hq2 hP3 hD4
    refine hsuf ρ' H3 locs3 ls _ _ hX (by show cells + 1 + 17 ≤ 19; omega) (by show slots + 3 + 644 ≤ 653; omega) x1 x2 hS4 (mLoc_of hl rfl (fun i v hi => ?_))
    rcases i with _ | _ | _ | i
    · cases hi; rw [mc_R]; show (0, Value.ref (ρ' 0)) ∈ _; rw [r3 0 (by omega)]; simp
    · cases hi; rw [mc_I]; simp
    · cases hi; rw [mc_R]; show (2, Value.ref (ρ' (30 + 20 * t.toNat))) ∈ _; rw [r1 _ (Nat.le_refl _) (by omega), Nat.sub_self]; show (2, Value.ref h) ∈ _; simp
    · simp at hi
  obtain ⟨q, r, e1, hw⟩ := mWp_ok (X := fun _ _ _ => False) (Q := fun _ _ => False) (S := SX10_image) (T := TX10_image) (acc := mAcf [(1, 1), (19, 18)]) (acs := mAcf [(1, 6), (19, 647)]) F rfl hCl hT (fun _ _ _ _ _ h => h.elim) (rt := none) (rm := (7, 123, 19, 653)) (fun _ _ _ _ _ h => (w_ret_no h).elim) (fun _ _ _ _ _ _ _ _ _ h _ => h.2.elim)
    (mGo_ok (X := fun _ _ _ => False) (Q := fun _ _ => False) F rfl hCl hT (fun _ _ _ _ _ h => h.elim) (fun _ _ _ _ _ h => (w_ret_no h).elim) (fun _ _ _ _ _ _ _ _ _ h _ => h.2.elim) okX10_image (cuts := cutIm) (C := fun q lv st I1 => q = 15 ∧ lv = [some (mR (some 0)), some (mI t), some (mR none)] ∧ st = [] ∧ I1 = I) hcut 60) kX10_image okX10_image _ _ _ (preX10_image rt z hf ⟨rfl, rfl, rfl, rfl⟩)
  obtain ⟨q', r', e2, h00⟩ : ∃ q r, kX10_image = q :: r ∧ q.1 = 0 := ⟨_, _, rfl, rfl⟩
  rw [e1] at e2
  cases e2
  rw [h00] at hw
  have hfin := hw s0.heap [] _ 0 0 (Nat.zero_le _) (Nat.zero_le _) hPP hD va_S.rf (mArgs_loc rfl)
  subst hargs
  rw [lg_entry_eq]
  exact hfin
end LNEWI
section LW2
def kL_tray_18 : List mIn := (18, 0, 0, 0, 0, 0, []) :: (19, 33, 0, 1, 0, 0, []) :: []
def kL_tray_0 : List mIn := (0, 4, 0, 0, 1, 0, []) :: (1, 2, 0, 1, 1, 0, []) :: (2, 2, 0, 2, 1, 0, []) :: (3, 2, 0, 3, 1, 0, []) :: (4, 32, 0, 100, 4, 124, [10, 1484, 1485, 1486, 105, 1487]) :: (7, 22, 0, 0, 18, 0, []) :: (10, 7, 0, 4, 2, 0, []) :: (12, 0, 1, 0, 0, 0, []) :: (13, 33, 0, 1, 0, 0, []) :: (14, 7, 0, 4, 2, 0, []) :: (16, 0, 2, 0, 0, 0, []) :: (17, 33, 0, 1, 0, 0, []) :: kL_tray_18
def kL_tray : List mIn := kL_tray_0
def TL_tray : Nat → mCal := tOne calX10_tray (yL_tray, cL_tray, 5, some .int, (0, 0, 0, 0))
def calL_tray : mCal := (yL_tray, cL_tray, 5, some .int, (8, 136, 5, 61))
def tabL_tray : List (Nat × Nat × Nat × Nat) := [(0, 10, 18, 959), (1, 14, 13, 738)]
theorem okL_tray : mOKL (fun _ => []) (yL_tray.cls, cL_tray, TL_tray, some .int, (8, 136, 5, 61), 5, mAcf [(4, 5)], mAcf [(4, 61)]) kL_tray = true := by decide +kernel
theorem okHL_tray : kL_tray.all (fun q => decide (q.2.1 = 32 → q.1 = 4)) = true ∧ (hBds yL_tray.cls cL_tray 4 0 tabL_tray && decide (4 < 5 ∧ 0 ≤ 4 ∧ 4 < 7 ∧ yL_tray.cls ≠ RX10)) = true := by decide +kernel
theorem sfxL_tray_18 : mSfx 18 kL_tray = kL_tray_18 := rfl
def kL_image_11 : List mIn := (11, 0, 0, 0, 0, 0, []) :: (12, 33, 0, 1, 0, 0, []) :: []
def kL_image_0 : List mIn := (0, 4, 0, 0, 1, 0, []) :: (1, 2, 0, 1, 1, 0, []) :: (2, 32, 0, 100, 2, 135, [10, 1536, 1537, 1538, 105, 1539]) :: (5, 22, 0, 0, 11, 0, []) :: (8, 7, 0, 2, 1, 0, []) :: (9, 0, 1, 0, 0, 0, []) :: (10, 33, 0, 1, 0, 0, []) :: kL_image_11
def kL_image : List mIn := kL_image_0
def TL_image : Nat → mCal := tOne calX10_image (yL_image, cL_image, 3, some .int, (0, 0, 0, 0))
def calL_image : mCal := (yL_image, cL_image, 3, some .int, (8, 145, 19, 653))
def tabL_image : List (Nat × Nat × Nat × Nat) := [(0, 8, 18, 959)]
theorem okL_image : mOKL (fun _ => []) (yL_image.cls, cL_image, TL_image, some .int, (8, 145, 19, 653), 3, mAcf [(2, 19)], mAcf [(2, 653)]) kL_image = true := by decide +kernel
theorem okHL_image : kL_image.all (fun q => decide (q.2.1 = 32 → q.1 = 2)) = true ∧ (hBds yL_image.cls cL_image 2 0 tabL_image && decide (2 < 3 ∧ 0 ≤ 2 ∧ 2 < 5 ∧ yL_image.cls ≠ RX10)) = true := by decide +kernel
theorem sfxL_image_11 : mSfx 11 kL_image = kL_image_11 := rfl


def spL_tray : mSp := fun fl avs I Q => ∃ p0 p1 p2 : Int, avs = [mR (some 0), mI p0, mI p1, mI p2] ∧ mUp spX10_tray fl [mR (some 0), mI p0, mI p1, mI p2] I (wKv (tabL_tray.map (fun q => q.1)) Q)
def SL_tray : Nat → mSp := mOne (mUp spX10_tray)
theorem SL_tray_100 : SL_tray 100 = mUp spX10_tray := mOne_100 _
set_option maxRecDepth 100000 in
theorem vcL_tray (fl : Nat → Bool) (avs : List mV) (I : mM) (Q : mO → mM → Prop) (hsp : spL_tray fl avs I Q) : mVCH (tabL_tray.map (fun q => q.1)) SL_tray fl Q kL_tray 5 avs I := by
  obtain ⟨p0, p1, p2, rfl, Q0, h0, hQ⟩ := hsp
  refine ⟨rfl, ?_⟩
  show mWpL _ _ _ _ _ _ kL_tray_0 [some (mR (some 0)), some (mI p0), some (mI p1), some (mI p2), none] [] I
  simp only [false_and, and_false, true_or, or_true, false_or, or_false, true_and, and_true, true_implies, false_implies, implies_true, not_true_eq_false, not_false_eq_true, and_self, List.length_cons, List.length_nil, mNoCut_, mCat_n, mCat_I, mCat_L, mCat_R, mIsL_n, mIsL_I, mIsL_R, mIsL_L, Nat.reduceAdd, Nat.reduceSub, Nat.reduceLeDiff, Nat.reduceLT, Nat.reduceEqDiff, Nat.zero_le, Int.reduceEq, Int.reduceLT, Int.reduceLE, Int.reduceNeg, Int.reduceAdd, if_true, if_false, reduceIte, reduceCtorEq, Bool.false_eq_true, ne_eq, qCmp_0, qCmp_1, qCmp_2, qCmp_3, qCmp_4, qCmp_5, ib_0, ib_1, ib_2, lb_0, lb_1, lb_2, dv_0, dv_1, wl_ic, wl_ld_i, wl_ld_a, wl_st_a, wl_goto, wl_ret1, ldR0, ldI1, ldI2, ldI3, wl_callV4_0, stR4, mPut_s, mPut_I0, mPut_R0, mPut_L0, mPut_I1, mPut_R1, mPut_L1, mGoL_n, sfxL_tray_18, kL_tray_0, kL_tray_18, SL_tray_100, sk_0, al_0, sk_230, al_230, sn_230, mSet_ap, ncast]
  refine ⟨Q0, h0, fun o I1 hq => ?_⟩
  have hk := hQ o I1 hq
  rcases o with (_ | v) | E
  · simp only [false_and, and_false, true_or, or_true, false_or, or_false, true_and, and_true, true_implies, false_implies, implies_true, not_true_eq_false, not_false_eq_true, and_self, List.length_cons, List.length_nil, mNoCut_, mCat_n, mCat_I, mCat_L, mCat_R, mIsL_n, mIsL_I, mIsL_R, mIsL_L, Nat.reduceAdd, Nat.reduceSub, Nat.reduceLeDiff, Nat.reduceLT, Nat.reduceEqDiff, Nat.zero_le, Int.reduceEq, Int.reduceLT, Int.reduceLE, Int.reduceNeg, Int.reduceAdd, if_true, if_false, reduceIte, reduceCtorEq, Bool.false_eq_true, ne_eq, qCmp_0, qCmp_1, qCmp_2, qCmp_3, qCmp_4, qCmp_5, ib_0, ib_1, ib_2, lb_0, lb_1, lb_2, dv_0, dv_1, wl_ic, wl_ld_i, wl_ld_a, wl_st_a, wl_goto, wl_ret1, ldR0, ldI1, ldI2, ldI3, wl_callV4_0, stR4, mPut_s, mPut_I0, mPut_R0, mPut_L0, mPut_I1, mPut_R1, mPut_L1, mGoL_n, sfxL_tray_18, kL_tray_0, kL_tray_18, SL_tray_100, sk_0, al_0, sk_230, al_230, sn_230, mSet_ap, ncast]
    exact hk
  · exact hk.elim
  · exact hk
theorem ctrL_tray {l : Launch} (hst : l.stackTraces = false) (hT : mTxM l) : mCtrH l (hTab 0 7 tabL_tray) calL_tray spL_tray :=
  mMetH (T := TL_tray) (S := SL_tray) (hs := fun _ => []) hT tabL_tray 0 7 4 4 (by decide) okL_tray ⟨_, _, rfl, rfl⟩ okHL_tray.1 okHL_tray.2 (one_ok (mCtr_up (ctrX10_tray hst hT))) one_no vcL_tray
def spL_image : mSp := fun fl avs I Q => ∃ p0 : Int, avs = [mR (some 0), mI p0] ∧ mUp spX10_image fl [mR (some 0), mI p0] I (wKv (tabL_image.map (fun q => q.1)) Q)
def SL_image : Nat → mSp := mOne (mUp spX10_image)
theorem SL_image_100 : SL_image 100 = mUp spX10_image := mOne_100 _
set_option maxRecDepth 100000 in
theorem vcL_image (fl : Nat → Bool) (avs : List mV) (I : mM) (Q : mO → mM → Prop) (hsp : spL_image fl avs I Q) : mVCH (tabL_image.map (fun q => q.1)) SL_image fl Q kL_image 3 avs I := by
  obtain ⟨p0, rfl, Q0, h0, hQ⟩ := hsp
  refine ⟨rfl, ?_⟩
  show mWpL _ _ _ _ _ _ kL_image_0 [some (mR (some 0)), some (mI p0), none] [] I
  simp only [false_and, and_false, true_or, or_true, false_or, or_false, true_and, and_true, true_implies, false_implies, implies_true, not_true_eq_false, not_false_eq_true, and_self, List.length_cons, List.length_nil, mNoCut_, mCat_n, mCat_I, mCat_L, mCat_R, mIsL_n, mIsL_I, mIsL_R, mIsL_L, Nat.reduceAdd, Nat.reduceSub, Nat.reduceLeDiff, Nat.reduceLT, Nat.reduceEqDiff, Nat.zero_le, Int.reduceEq, Int.reduceLT, Int.reduceLE, Int.reduceNeg, Int.reduceAdd, if_true, if_false, reduceIte, reduceCtorEq, Bool.false_eq_true, ne_eq, qCmp_0, qCmp_1, qCmp_2, qCmp_3, qCmp_4, qCmp_5, ib_0, ib_1, ib_2, lb_0, lb_1, lb_2, dv_0, dv_1, wl_ic, wl_ld_i, wl_ld_a, wl_st_a, wl_goto, wl_ret1, ldR0, ldI1, wl_callV2_0, stR2, mPut_s, mPut_I0, mPut_R0, mPut_L0, mPut_I1, mPut_R1, mPut_L1, mGoL_n, sfxL_image_11, kL_image_0, kL_image_11, SL_image_100, sk_0, al_0, sk_230, al_230, sn_230, mSet_ap, ncast]
  refine ⟨Q0, h0, fun o I1 hq => ?_⟩
  have hk := hQ o I1 hq
  rcases o with (_ | v) | E
  · simp only [false_and, and_false, true_or, or_true, false_or, or_false, true_and, and_true, true_implies, false_implies, implies_true, not_true_eq_false, not_false_eq_true, and_self, List.length_cons, List.length_nil, mNoCut_, mCat_n, mCat_I, mCat_L, mCat_R, mIsL_n, mIsL_I, mIsL_R, mIsL_L, Nat.reduceAdd, Nat.reduceSub, Nat.reduceLeDiff, Nat.reduceLT, Nat.reduceEqDiff, Nat.zero_le, Int.reduceEq, Int.reduceLT, Int.reduceLE, Int.reduceNeg, Int.reduceAdd, if_true, if_false, reduceIte, reduceCtorEq, Bool.false_eq_true, ne_eq, qCmp_0, qCmp_1, qCmp_2, qCmp_3, qCmp_4, qCmp_5, ib_0, ib_1, ib_2, lb_0, lb_1, lb_2, dv_0, dv_1, wl_ic, wl_ld_i, wl_ld_a, wl_st_a, wl_goto, wl_ret1, ldR0, ldI1, wl_callV2_0, stR2, mPut_s, mPut_I0, mPut_R0, mPut_L0, mPut_I1, mPut_R1, mPut_L1, mGoL_n, sfxL_image_11, kL_image_0, kL_image_11, SL_image_100, sk_0, al_0, sk_230, al_230, sn_230, mSet_ap, ncast]
    exact hk
  · exact hk.elim
  · exact hk
theorem ctrL_image {l : Launch} (hst : l.stackTraces = false) (hT : mTxM l) : mCtrH l (hTab 0 5 tabL_image) calL_image spL_image :=
  mMetH (T := TL_image) (S := SL_image) (hs := fun _ => []) hT tabL_image 0 5 2 2 (by decide) okL_image ⟨_, _, rfl, rfl⟩ okHL_image.1 okHL_image.2 (one_ok (mCtr_up (ctrX10_image hst hT))) one_no vcL_image

end LW2
section LNW
theorem so_afterN {p : Program} {l : Launch} {e : Env} {R : Room} {s : State} {m : MethodId} {args : Array Value} {below : List Frame} {meth : Method} {c : Code} {D : va_G} {cA : Nat → ClassId} {ρ : Nat → Nat} {fl fl' : Nat → Bool} {ov : Option Value} {P : mM → Prop} {Q : State → Prop} {H : Heap} {locs : List Loc} {ls : Array Slot} {cells slots mc0 ms0 pc : Nat} {st0 rest : List Value} {a : Array Value}
    (hr : vx_Run p l e R s m args below meth c H locs cells slots mc0 ms0 (F0 m pc ls st0) rest (mQn D cA ρ fl fl' ov P H.size a) (fun _ _ _ => False) (mA2 ρ fl H.size)) (hS : va_S (mA2 ρ fl s.heap.size) s.heap H locs)
    (k : ∀ (I' : mM) (ρ' : Nat → Nat) (H1 : Heap) (locs1 : List Loc), P I' → mExt ρ fl ρ' fl' H.size → va_P D vwCl (mWs cA ρ' fl' I') H1 → va_D (mA ρ' fl') (mWs cA ρ' fl' I') → va_S (mA2 ρ fl s.heap.size) s.heap H1 locs1 → W p l e R s m args below meth c H1 locs1 (cells + mc0) (slots + ms0) Q (F0 m (pc + 3) ls (ov.toList ++ rest))) : W p l e R s m args below meth c H locs cells slots Q (F0 m pc ls st0) := by
  intro T hT X
  rcases hr T hT X with ⟨v, st₀, t, T', L, h0, X', hL, e1, e2, ⟨⟨I', ρ', hv, hp, hP, hD, hx⟩, hF⟩, stp⟩ | ⟨q, st₀, t, T', L, E, ce, h0, X', hL, e1, e2, hF, stp⟩
  · cases hv
    obtain ⟨k1, k2, k3⟩ := vx_keep h0 e1 hS (A1 := mA ρ fl) (fun q _ h => Or.inl h) (fun q h => by
      rcases h with h | h
      · exact Or.inl h
      · exact Or.inr (Nat.le_trans hS.1 h)) hL hF
    obtain ⟨t2, a1, b1⟩ := k I' ρ' T'.heap (locs ++ L) hp hx (by rw [e1]; exact hP) hD k3 T' rfl X'
    exact ⟨t2, stp t2 a1, b1⟩
  · exact hF.elim
set_option maxRecDepth 100000 in
set_option maxHeartbeats 4000000 in
theorem newL_tray {l : Launch} (hst : l.stackTraces = false) (hT : mTxM l) {D : va_G} {cA : Nat → ClassId} {ρ : Nat → Nat} {fl : Nat → Bool} {I : mM} {t s n : Int} {sz : Nat} {P : mM → Prop} (rt : mrg t) (rs : mrg s) (rn : mrg n) (z : trayP t) (y : (0 ≤ s ∧ s ≤ 3) ∧ (0 ≤ n ∧ n ≤ 40)) (hf : fl (3 + t.toNat) = false)
    (hC : P (copyM (mSet (mSet (mZ (170 + 2 * t.toNat) (171 + 2 * t.toNat) I) (170 + 2 * t.toNat) 0 s) (170 + 2 * t.toNat) 1 n) (171 + 2 * t.toNat) 0 (fun _ => 0) 40)) :
    vx_Met l yL_tray (mWdH (hTab 0 7 tabL_tray) calL_tray) (mRm (8, 136, 5, 61)) (mPn D cA ρ fl [mR (some 0), mI t, mI s, mI n] I sz) (mQn D cA ρ fl (flS fl (3 + t.toNat)) (some (.int 0)) P sz) (fun _ _ _ => False) 5 61 (mA2 ρ fl sz) := by
  refine vx_ofWH (y := yL_tray) (cc := cL_tray) (maxL := 5) (ret := some .int) (hh := hTab 0 7 tabL_tray) (by decide) rfl ?_
  intro p e s0 m args below meth c s₁ B hml hPn
  obtain ⟨⟨hargs, hK, hPP, hD, hE⟩, hsz, hA1, hA2⟩ := hPn
  subst hsz
  have hts : ∀ w ∈ mBW, w.before args s0 = true := fun w hw => atoms_spec (ws := mWdH (hTab 0 7 tabL_tray) calL_tray) B.pre w (List.mem_cons_of_mem _ hw)
  have hfc : s0.vm.findClass "NineOnGrassLaw" = some m.cls := findClass_of_methodNamed B.named
  have hret := B.returns
  have hlk := B.notSynchronized
  have hx := B.exec
  have hb := B.bytes
  have hl := (mArgs_loc (ρ := ρ) (nL := 5) (avs := [mR (some 0), mI t, mI s, mI n]) rfl).has
  subst hargs
  rw [lg_entry_eq]
  generalize (lg_sl (([mR (some 0), mI t, mI s, mI n] : List mV).map (mc ρ)) ++ List.replicate (5 - (lg_sl (([mR (some 0), mI t, mI s, mI n] : List mV).map (mc ρ))).length) Slot.unset).toArray = ls at hl ⊢
  have hl : lv_has ls 5 [(0, .ref (ρ 0)), (1, .int (Int32.ofInt t)), (2, .int (Int32.ofInt s)), (3, .int (Int32.ofInt n))] := hl
  refine lv_aload_n (k := 0) hx hb (by decide +kernel : decode cL_tray 0 = .ok (.aload_n 0, 1)) rfl (lv_at hl 0 rfl) ?_
  refine lv_iload_n (k := 1) hx hb (by decide +kernel : decode cL_tray 1 = .ok (.iload_n 1, 1)) rfl (lv_at hl 1 rfl) ?_
  refine lv_iload_n (k := 2) hx hb (by decide +kernel : decode cL_tray 2 = .ok (.iload_n 2, 1)) rfl (lv_at hl 2 rfl) ?_
  refine lv_iload_n (k := 3) hx hb (by decide +kernel : decode cL_tray 3 = .ok (.iload_n 3, 1)) rfl (lv_at hl 3 rfl) ?_
  obtain ⟨q0, hq⟩ := mIds_at (fl := fl) (i := 0) rfl
  have hc10 : vwCl[10]? = some (RX10, TX10, 16) := rfl
  have hrecv := va_recv hK hPP (ci := 10) (q0 := q0) hc10 (mWs_at cA ρ I hq)
  refine so_afterN (fl' := flS fl (3 + t.toNat)) (ov := none) (P := P) (rest := []) (vx_runV (nL := 5) (n := 3) (index := 124) (own := "NineOnGrassLaw") (As := [.int (Int32.ofInt t), .int (Int32.ofInt s), .int (Int32.ofInt n)]) (rest := []) ⟨hx, hb, hml, hfc, hts⟩ (newX10_tray hst hT (D := D) (cA := cA) (ρ := ρ) (I := I) (sz := s0.heap.size) rt rs rn z y hf hC) ⟨callB_of 3 hts (mWd_good (t := calX10_tray) (mBW_of 1487 (by decide +kernel))) rfl rfl rfl (hts _ (mBW_of 105 (by decide +kernel))) (hts _ (mBW_of 1484 (by decide +kernel))) (by decide +kernel) (by decide), hts _ (mBW_of 1485 (by decide +kernel)), hts _ (mBW_of 1486 (by decide +kernel))⟩ ⟨mPn_blind, hrecv, fun U hU hW => ⟨⟨rfl, va_K.moved hW.alike hK, by rw [hU]; exact hPP, hD, by rw [hU]; exact hE.to hW (fun _ _ _ => rfl)⟩, by rw [hU], va_AO.moved hW.alike hA1, va_AO.moved hW.alike hA2⟩⟩ rfl rfl hl.1 rfl (Nat.le_of_ble_eq_true rfl) (by decide +kernel : decode cL_tray 4 = .ok (.invokevirtual 124, 3)) (by decide)) (va_S.rf) (fun I' ρ' H1 locs1 hp hxx hP1 hD1 hS1 => ?_)
  refine lv_goto (tgt := 18) hx hb (by decide +kernel : decode cL_tray 7 = .ok (.goto 11, 3)) (by decide) ?_
  refine lv_iconst (v := 0) hx hb (by decide +kernel : decode cL_tray 18 = .ok (.iconst 0, 1)) (by decide) ?_
  exact vx_ret (W.widen (by decide) (by decide) (W.iret hx hb (by rw [hret]) (fun t ht _ => ⟨⟨I', ρ', rfl, hp, by rw [ht]; exact hP1, hD1, hxx⟩, by rw [ht]; exact hS1.1, fun q hq hn => by
    rw [ht]
    refine hS1.2.1 q hq (fun z => ?_)
    rcases z with z | z
    · exact hn z
    · omega⟩) hS1.2.2 (by decide +kernel : decode cL_tray 19 = .ok (.ireturn, 1)) hlk))
set_option maxRecDepth 100000 in
set_option maxHeartbeats 4000000 in
theorem newL_image {l : Launch} (hst : l.stackTraces = false) (hT : mTxM l) {D : va_G} {cA : Nat → ClassId} {ρ : Nat → Nat} {fl : Nat → Bool} {I : mM} {t : Int} {sz : Nat} {P : mM → Prop} (rt : mrg t) (z : 0 ≤ t ∧ t ≤ 2) (hf : fl t.toNat = false) (h13 : I 13 2 = 0 ∨ I 13 2 = 1)
    (hC : ∀ I' : mM, cpS I' (stM (30 + 20 * t.toNat) I) (30 + 20 * t.toNat) 10 → P I') :
    vx_Met l yL_image (mWdH (hTab 0 5 tabL_image) calL_image) (mRm (8, 145, 19, 653)) (mPn D cA ρ fl [mR (some 0), mI t] I sz) (mQn D cA ρ fl (flS fl t.toNat) (some (.int 0)) P sz) (fun _ _ _ => False) 19 653 (mA2 ρ fl sz) := by
  refine vx_ofWH (y := yL_image) (cc := cL_image) (maxL := 3) (ret := some .int) (hh := hTab 0 5 tabL_image) (by decide) rfl ?_
  intro p e s0 m args below meth c s₁ B hml hPn
  obtain ⟨⟨hargs, hK, hPP, hD, hE⟩, hsz, hA1, hA2⟩ := hPn
  subst hsz
  have hts : ∀ w ∈ mBW, w.before args s0 = true := fun w hw => atoms_spec (ws := mWdH (hTab 0 5 tabL_image) calL_image) B.pre w (List.mem_cons_of_mem _ hw)
  have hfc : s0.vm.findClass "NineOnGrassLaw" = some m.cls := findClass_of_methodNamed B.named
  have hret := B.returns
  have hlk := B.notSynchronized
  have hx := B.exec
  have hb := B.bytes
  have hl := (mArgs_loc (ρ := ρ) (nL := 3) (avs := [mR (some 0), mI t]) rfl).has
  subst hargs
  rw [lg_entry_eq]
  generalize (lg_sl (([mR (some 0), mI t] : List mV).map (mc ρ)) ++ List.replicate (3 - (lg_sl (([mR (some 0), mI t] : List mV).map (mc ρ))).length) Slot.unset).toArray = ls at hl ⊢
  have hl : lv_has ls 3 [(0, .ref (ρ 0)), (1, .int (Int32.ofInt t))] := hl
  refine lv_aload_n (k := 0) hx hb (by decide +kernel : decode cL_image 0 = .ok (.aload_n 0, 1)) rfl (lv_at hl 0 rfl) ?_
  refine lv_iload_n (k := 1) hx hb (by decide +kernel : decode cL_image 1 = .ok (.iload_n 1, 1)) rfl (lv_at hl 1 rfl) ?_
  obtain ⟨q0, hq⟩ := mIds_at (fl := fl) (i := 0) rfl
  have hc10 : vwCl[10]? = some (RX10, TX10, 16) := rfl
  have hrecv := va_recv hK hPP (ci := 10) (q0 := q0) hc10 (mWs_at cA ρ I hq)
  refine so_afterN (fl' := flS fl t.toNat) (ov := none) (P := P) (rest := []) (vx_runV (nL := 3) (n := 1) (index := 135) (own := "NineOnGrassLaw") (As := [.int (Int32.ofInt t)]) (rest := []) ⟨hx, hb, hml, hfc, hts⟩ (newX10_image hst hT (D := D) (cA := cA) (ρ := ρ) (I := I) (sz := s0.heap.size) rt z hf h13 hC) ⟨callB_of 1 hts (mWd_good (t := calX10_image) (mBW_of 1539 (by decide +kernel))) rfl rfl rfl (hts _ (mBW_of 105 (by decide +kernel))) (hts _ (mBW_of 1536 (by decide +kernel))) (by decide +kernel) (by decide), hts _ (mBW_of 1537 (by decide +kernel)), hts _ (mBW_of 1538 (by decide +kernel))⟩ ⟨mPn_blind, hrecv, fun U hU hW => ⟨⟨rfl, va_K.moved hW.alike hK, by rw [hU]; exact hPP, hD, by rw [hU]; exact hE.to hW (fun _ _ _ => rfl)⟩, by rw [hU], va_AO.moved hW.alike hA1, va_AO.moved hW.alike hA2⟩⟩ rfl rfl hl.1 rfl (Nat.le_of_ble_eq_true rfl) (by decide +kernel : decode cL_image 2 = .ok (.invokevirtual 135, 3)) (by decide)) (va_S.rf) (fun I' ρ' H1 locs1 hp hxx hP1 hD1 hS1 => ?_)
  refine lv_goto (tgt := 11) hx hb (by decide +kernel : decode cL_image 5 = .ok (.goto 6, 3)) (by decide) ?_
  refine lv_iconst (v := 0) hx hb (by decide +kernel : decode cL_image 11 = .ok (.iconst 0, 1)) (by decide) ?_
  exact vx_ret (W.widen (by decide) (by decide) (W.iret hx hb (by rw [hret]) (fun t ht _ => ⟨⟨I', ρ', rfl, hp, by rw [ht]; exact hP1, hD1, hxx⟩, by rw [ht]; exact hS1.1, fun q hq hn => by
    rw [ht]
    refine hS1.2.1 q hq (fun z => ?_)
    rcases z with z | z
    · exact hn z
    · omega⟩) hS1.2.2 (by decide +kernel : decode cL_image 12 = .ok (.ireturn, 1)) hlk))
end LNW
