section SPM15
theorem rawT_stR (t s : Int → Int) {b h w : Int} (hb : 0 ≤ b ∧ b < 6) (hh : 0 ≤ h ∧ h < 8) (hw : 0 ≤ w ∧ w < 5) : rawT (stR t s) b h w = rawT t b h w := stR_out t s (by omega)
theorem allN_stR (t s : Int → Int) {b : Int} (hb : 0 ≤ b ∧ b < 6) : ∀ n : Nat, n ≤ 8 → allN (stR t s) b n = allN t b n
  | 0, _ => rfl
  | n + 1, hn => by
    simp only [allN]
    rw [allN_stR t s hb n (by omega), rawT_stR t s hb (by omega) (by omega)]
theorem hits_stR (t s : Int → Int) {b : Int} (hb : 0 ≤ b ∧ b < 6) : stR t s (13 + b) = t (13 + b) := stR_out t s (by omega)
theorem allT_stR {t : Int → Int} (H : WFt t) (s : Int → Int) {b : Int} (hb : 0 ≤ b ∧ b < 6) : allT (stR t s) b = allT t b := by
  have hn := H.2.1 b hb.1 hb.2
  unfold allT
  rw [hits_stR t s hb]
  exact allN_stR t s hb _ (by omega)
theorem mPost.arr {I I1 : mM} {t : Int → Int} {k x y : Int} (h : mPost I I1 t k x y) {a : Nat} (ha : 206 ≤ a ∧ a ≤ 215) (p v : Int) : mPost I (mSet I1 a p v) t k x y := by
  obtain ⟨a1, b, c, d, e, f⟩ := h
  refine ⟨fun i h1 h2 h3 => by rw [set_ne (by omega)]; exact a1 i h1 h2 h3, by rw [set_ne (by omega)]; exact b, by rw [set_ne (by omega)]; exact c, by rw [set_ne (by omega)]; exact d, by rw [set_ne (by omega)]; exact e, fun p hp => by rw [set_ne (by omega)]; exact f p hp⟩
theorem mPost.f200 {I I1 : mM} {t : Int → Int} {k x y : Int} (h : mPost I I1 t k x y) {p : Int} (hp : ¬ (4 ≤ p ∧ p ≤ 17) ∧ p ≤ 32 ∧ p ≠ 3) (v : Int) : mPost I (mSet I1 200 p v) t k x y := by
  obtain ⟨a1, b, c, d, e, f⟩ := h
  refine ⟨fun i h1 h2 h3 => by rw [set_ne h1]; exact a1 i h1 h2 h3, by rw [set_ne (by omega)]; exact b, by rw [set_nq (by omega)]; exact c, by rw [set_nq (by omega)]; exact d, by rw [set_nq (by omega)]; exact e, fun q hq => by rw [set_nq (by omega)]; exact f q hq⟩
theorem mPost.thr2 {I I1 : mM} {t : Int → Int} {k x y : Int} (h : mPost I I1 t k x y) (k' : Int) : mPost I (mSet I1 200 3 k') t k' x y := by
  obtain ⟨a1, b, c, d, e, f⟩ := h
  exact ⟨fun i h1 h2 h3 => by rw [set_ne h1]; exact a1 i h1 h2 h3, by rw [set_ne (by omega)]; exact b, set_eq, by rw [set_nq (by omega)]; exact d, by rw [set_nq (by omega)]; exact e, fun q hq => by rw [set_nq (by omega)]; exact f q hq⟩
theorem mPost.put {I I1 : mM} {t : Int → Int} {k x y : Int} (h : mPost I I1 t k x y) (f c : Int) : mPost I (mSet I1 201 (550 + 5 * f) c) (putT t f c) k x y := by
  obtain ⟨a1, b, c1, d, e, f1⟩ := h
  refine ⟨fun i h1 h2 h3 => by rw [set_ne h2]; exact a1 i h1 h2 h3, by rw [set_put, b], by rw [set_ne (by omega)]; exact c1, by rw [set_ne (by omega)]; exact d, by rw [set_ne (by omega)]; exact e, fun q hq => by rw [set_ne (by omega)]; exact f1 q hq⟩
theorem standsM_201 (I : mM) (g : Int → Int) : standsM I g 9 201 = stR (I 201) g := by
  funext q
  simp only [standsM, stR, true_and]
  split
  · rw [if_pos (by omega)]
  · rw [if_neg (by omega)]
theorem standsM_ne (I : mM) (g : Int → Int) {k : Nat} (h : k ≠ 201) : standsM I g 9 k = I k := by
  funext q
  exact standsM_out I g 9 (Or.inl h)
theorem noteM_ne (I : mM) (a : Nat) (g : Int → Int) (n : Int) {k : Nat} (h : k ≠ a) : noteM I a g n k = I k := by
  funext q
  exact noteM_out I a g n (Or.inl h)
theorem noteM_at (I : mM) (a : Nat) (g : Int → Int) {n q : Int} (h : 0 ≤ q ∧ q < n) : noteM I a g n a q = g q := if_pos ⟨rfl, h⟩
theorem mPost.st {I I1 : mM} {t : Int → Int} {k x y : Int} (h : mPost I I1 t k x y) (g : Int → Int) : mPost I (standsM I1 g 9) (stR t g) k x y := by
  obtain ⟨a1, b, c1, d, e, f1⟩ := h
  refine ⟨fun i h1 h2 h3 => by rw [standsM_ne _ _ h2]; exact a1 i h1 h2 h3, by rw [standsM_201, b], by rw [standsM_ne _ _ (by omega)]; exact c1, by rw [standsM_ne _ _ (by omega)]; exact d, by rw [standsM_ne _ _ (by omega)]; exact e, fun q hq => by rw [standsM_ne _ _ (by omega)]; exact f1 q hq⟩
theorem mPost.note {I I1 : mM} {t : Int → Int} {k x y : Int} (h : mPost I I1 t k x y) {a : Nat} (ha : 206 ≤ a ∧ a ≤ 215) (g : Int → Int) (n : Int) : mPost I (noteM I1 a g n) t k x y := by
  obtain ⟨a1, b, c1, d, e, f1⟩ := h
  refine ⟨fun i h1 h2 h3 => by rw [noteM_ne _ _ _ _ (by omega)]; exact a1 i h1 h2 h3, by rw [noteM_ne _ _ _ _ (by omega)]; exact b, by rw [noteM_ne _ _ _ _ (by omega)]; exact c1, by rw [noteM_ne _ _ _ _ (by omega)]; exact d, by rw [noteM_ne _ _ _ _ (by omega)]; exact e, fun q hq => by rw [noteM_ne _ _ _ _ (by omega)]; exact f1 q hq⟩
abbrev wayP (i : Int) : Prop := 0 ≤ i ∧ i < 4
abbrev keptP (t : Int → Int) (i : Int) : Prop := t (595 + 10 * i) = 1
def keptS (t : Int → Int) (i : Int) : Int → Int := fun f => t (595 + 10 * i + 1 + f)
theorem WFt.kept {t : Int → Int} (H : WFt t) {i : Int} (hi : 0 ≤ i ∧ i < 4) : ∀ f, 0 ≤ f → f < 9 → -1 ≤ keptS t i f ∧ keptS t i f ≤ 288 := fun f h1 h2 => by
  have h := (H.2.2.2.2.2.2 i hi.1 hi.2).2 f h1 h2
  unfold keptS
  rw [show 595 + 10 * i + 1 + f = 596 + 10 * i + f by omega]
  exact h
theorem keptS_stR (t s : Int → Int) {i : Int} (hi : 0 ≤ i) : ∀ f, 0 ≤ f → keptS (stR t s) i f = keptS t i f := fun f h1 => stR_out t s (by omega)
def spX11_isKept : mSp := shRI (fun _ i w I Q => i = some 200 ∧ WFt (I 201) ∧ wayP w ∧ (keptP (I 201) w → Q (.inl (some (mI 1))) I) ∧ (¬ keptP (I 201) w → Q (.inl (some (mI 0))) I))
def SX11_isKept : Nat → mSp := fun a => match a with
  | _ => fun _ _ _ _ => False
set_option maxRecDepth 100000 in
set_option maxHeartbeats 4000000 in
theorem vcX11_isKept (fl : Nat → Bool) (avs : List mV) (I : mM) (Q : mO → mM → Prop) (hsp : spX11_isKept fl avs I Q) : mVC0 SX11_isKept fl Q kX11_isKept 2 avs I := by
  obtain ⟨i, w, rfl, h0⟩ := shRI_inv hsp
  refine ⟨rfl, ?_⟩
  show mWp _ _ _ _ _ _ kX11_isKept_0 [some (mR i), some (mI w)] [] I
  obtain ⟨rfl, H, hw, h1, h2⟩ := h0
  have hk := (H.2.2.2.2.2.2 w hw.1 hw.2).1
  simp only [false_and, and_false, true_or, or_true, false_or, or_false, true_and, and_true, true_implies, false_implies, implies_true, not_true_eq_false, not_false_eq_true, and_self, List.length_cons, List.length_nil, mNoCut_, mCat_n, mCat_I, mCat_L, mCat_R, mIsL_n, mIsL_I, mIsL_R, mIsL_L, Nat.reduceAdd, Nat.reduceSub, Nat.reduceLeDiff, Nat.reduceLT, Nat.reduceEqDiff, Nat.zero_le, Int.reduceEq, Int.reduceLT, Int.reduceLE, Int.reduceNeg, Int.reduceAdd, if_true, if_false, reduceIte, reduceCtorEq, Bool.false_eq_true, ne_eq, qCmp_0, qCmp_1, qCmp_2, qCmp_3, qCmp_4, qCmp_5, ib_0, ib_1, ib_2, lb_0, lb_1, lb_2, dv_0, dv_1, wq_ic, wq_ld_i, wq_ld_a, wq_ib, wq_icmp, wq_goto, wq_get, mGet_0, mGet_1, mGet_2, mGet_3, wq_ald, wq_ret0, wq_ret1, wq_ret2, wq_ret3, wq_ret4, ldR0, fk_11_0, mrg_595_, mrg_10_, ldI1, mrg_1_, mrg_0_, mGo_n, sfxX11_isKept_21, cutX11_isKept_21, sfxX11_isKept_22, cutX11_isKept_22, kX11_isKept_22, kX11_isKept_21, kX11_isKept_0, sk_200, al_200, rf_200_0, sk_201, al_201, sn_201, ald_n, ro0_n, al_ro, mrg, mrl, mSet_ap, ncast, Option.some.injEq]
  (try simp only [mrg, mrl] at *) <;> repeat' (first | (with_reducible assumption) | (with_reducible apply And.intro) | intro _)
  all_goals first | omega | exact h1 (by omega) | exact h2 (by omega)
theorem ctrX11_isKept {l : Launch} (hst : l.stackTraces = false) (hT : mTxM l) : mCtr l calX11_isKept spX11_isKept :=
  mMet0 (T := TX11_isKept) (S := SX11_isKept) hst hT (by decide) okX11_isKept ⟨_, _, rfl, rfl⟩ (fun a => mCtr_no) vcX11_isKept

def keepN (t : Int → Int) (i j : Int) : Int → Int := fun q => if q = 595 + 10 * i then 1 else if 596 + 10 * i ≤ q ∧ q < 596 + 10 * i + j then stT t (q - (596 + 10 * i)) else t q
def spX11_way : mSp := shRII (fun _ i w m I Q => i = some 200 ∧ WFt (I 201) ∧ mrg w ∧ mrg m ∧ (¬ wayP w → Q (.inl none) (mSet I 200 3 1)) ∧ (wayP w → ¬ (0 ≤ m ∧ m ≤ 1) → Q (.inl none) (mSet I 200 3 2)) ∧ (wayP w → m = 1 → ¬ keptP (I 201) w → Q (.inl none) (mSet I 200 3 3)) ∧ (wayP w → m = 1 → keptP (I 201) w → Q (.inl none) (standsM (mSet I 200 3 0) (keptS (I 201) w) 9)) ∧ (wayP w → m = 0 → Q (.inl none) (rowM (mSet I 200 3 0) (keepN (I 201) w 9))))
def SX11_way : Nat → mSp := fun a => match a with
  | 0 => spX11_isWay
  | 1 => spX11_within
  | 2 => spX11_isKept
  | 3 => spX11_takesWay
  | 4 => spX11_standOf
  | _ => fun _ _ _ _ => False
theorem SX11_way_0 : SX11_way 0 = spX11_isWay := Eq.trans rfl rfl
theorem SX11_way_1 : SX11_way 1 = spX11_within := Eq.trans rfl rfl
theorem SX11_way_2 : SX11_way 2 = spX11_isKept := Eq.trans rfl rfl
theorem SX11_way_3 : SX11_way 3 = spX11_takesWay := Eq.trans rfl rfl
theorem SX11_way_4 : SX11_way 4 = spX11_standOf := Eq.trans rfl rfl
theorem cutsX11_way {t : Nat} {bs : List Bool} (h : cutX11_way t = some bs) : (t = 82 ∧ bs = [true, true, false, true]) := by
  unfold cutX11_way at h
  simp only [mLk] at h
  by_cases h0 : 82 = t
  · subst h0
    simp at h
    exact ⟨rfl, h.symm⟩
  rw [if_neg h0] at h
  cases h
set_option maxRecDepth 100000 in
set_option maxHeartbeats 4000000 in
theorem vcX11_way (fl : Nat → Bool) (avs : List mV) (I : mM) (Q : mO → mM → Prop) (hsp : spX11_way fl avs I Q) : mVC SX11_way fl Q kX11_way cutX11_way 4 avs I := by
  obtain ⟨i, w, m, rfl, h0⟩ := shRII_inv hsp
  obtain ⟨rfl, H, hw, hm, h1, h2, h3, h4, h5⟩ := h0
  refine ⟨rfl, (fun n t lv st I1 => st = [] ∧ ∃ j : Nat, lv = [some (mR (some 200)), some (mI w), none, some (mI j)] ∧ I1 = rowM (mSet I 200 3 0) (keepN (I 201) w j) ∧ j ≤ 9 ∧ n = 9 - j ∧ wayP w ∧ m = 0), ?_, ?_⟩
  · intro n t bs hbs lv st I1 hc
    rcases cutsX11_way hbs with ⟨rfl, rfl⟩
    rw [sfxX11_way_82]
    obtain ⟨rfl, j, rfl, rfl, hj, hn, hwp, hm0⟩ := hc
    have es : j < 9 → stT (keepN (I 201) w j) j = stT (I 201) j := fun z => by
      unfold stT keepN
      rw [if_neg (by omega), if_neg (by omega)]
    have ek : mSet (rowM (mSet I 200 3 0) (keepN (I 201) w j)) 201 (595 + 10 * w + 1 + j) (stT (I 201) j) = rowM (mSet I 200 3 0) (keepN (I 201) w ((j : Int) + 1)) := by
      funext k q
      simp only [mSet, rowM, keepN]
      by_cases hk : k = 201
      · simp only [hk, if_true, true_and]
        by_cases hq : q = 595 + 10 * w + 1 + j
        · rw [if_pos hq, if_neg (by omega), if_pos (by omega)]
          congr 1
          omega
        · rw [if_neg hq]
          split
          · rfl
          · split
            · rw [if_pos (by omega)]
            · rw [if_neg (by omega)]
      · simp [hk]
    simp only [false_and, and_false, true_or, or_true, false_or, or_false, true_and, and_true, true_implies, false_implies, implies_true, not_true_eq_false, not_false_eq_true, and_self, List.length_cons, List.length_nil, mNoCut_, mCat_n, mCat_I, mCat_L, mCat_R, mIsL_n, mIsL_I, mIsL_R, mIsL_L, Nat.reduceAdd, Nat.reduceSub, Nat.reduceLeDiff, Nat.reduceLT, Nat.reduceEqDiff, Nat.zero_le, Int.reduceEq, Int.reduceLT, Int.reduceLE, Int.reduceNeg, Int.reduceAdd, if_true, if_false, reduceIte, reduceCtorEq, Bool.false_eq_true, ne_eq, qCmp_0, qCmp_1, qCmp_2, qCmp_3, qCmp_4, qCmp_5, ib_0, ib_1, ib_2, lb_0, lb_1, lb_2, dv_0, dv_1, wq_ic, wq_lc, wq_ld_i, wq_ld_a, wq_st_i, wq_iinc, wq_ib, wq_i2l, wq_icmp, wq_if, wq_goto, wq_get, mGet_0, mGet_1, mGet_2, mGet_3, wq_putI, wq_putL, wq_astI, wq_astL, wq_ret0, wq_ret1, wq_ret2, wq_ret3, wq_ret4, ldR0, ldI1, wq_callS1_1, mrg_1_, ldI2, wq_callS3_1, mrg_2_, wq_callV2_0, mrg_3_, mrg_0_, fk_11_3, fk_11_0, mrg_595_, mrg_10_, stI3, ldI3, mrg_9_, wqinc3, mPut_s, mPut_I0, mPut_R0, mPut_L0, mPut_I1, mPut_R1, mPut_L1, mGo_n, sfxX11_way_12, cutX11_way_12, sfxX11_way_26, cutX11_way_26, sfxX11_way_43, cutX11_way_43, sfxX11_way_44, cutX11_way_44, sfxX11_way_55, cutX11_way_55, sfxX11_way_66, cutX11_way_66, sfxX11_way_82, cutX11_way_82, sfxX11_way_116, cutX11_way_116, wq_cut, mGo_c, mMask_t, mMask_f, mMask_n, kX11_way_116, kX11_way_82, kX11_way_66, kX11_way_55, kX11_way_44, kX11_way_43, kX11_way_26, kX11_way_12, kX11_way_0, sk_200, al_200, rf_200_0, sk_201, al_201, sn_201, SX11_way_0, SX11_way_1, SX11_way_2, SX11_way_3, SX11_way_4, shqI_, shqLLL_, shqRI_, spX11_isWay, spX11_within, spX11_isKept, spX11_takesWay, spX11_standOf, mrg, mrl, mSet_ap, ncast, Option.some.injEq, rowM_201]
    (try simp only [mrg, mrl] at *) <;> repeat' (first | (with_reducible assumption) | (with_reducible apply And.intro) | intro _)
    all_goals first | omega | (have : j = 9 := by omega); subst this; exact h5 hwp hm0 | (rw [es (by omega), ek]; exact ⟨9 - (j + 1), by omega, j + 1, rfl, rfl, by omega, rfl, hwp, hm0⟩) | skip
  · show mWp _ _ _ _ _ _ kX11_way_0 [some (mR (some 200)), some (mI w), some (mI m), none] [] I
    have hk := fun z : wayP w => (H.2.2.2.2.2.2 w z.1 z.2).1
    have ek : mSet (mSet I 200 3 0) 201 (595 + 10 * w) 1 = rowM (mSet I 200 3 0) (keepN (I 201) w (0 : Nat)) := by
      funext k q
      simp only [mSet, rowM, keepN]
      by_cases hk : k = 201
      · simp only [hk, if_true, true_and]
        split
        · rfl
        · rw [if_neg (by omega), if_neg (by omega)]
      · simp [hk]
    simp only [false_and, and_false, true_or, or_true, false_or, or_false, true_and, and_true, true_implies, false_implies, implies_true, not_true_eq_false, not_false_eq_true, and_self, List.length_cons, List.length_nil, mNoCut_, mCat_n, mCat_I, mCat_L, mCat_R, mIsL_n, mIsL_I, mIsL_R, mIsL_L, Nat.reduceAdd, Nat.reduceSub, Nat.reduceLeDiff, Nat.reduceLT, Nat.reduceEqDiff, Nat.zero_le, Int.reduceEq, Int.reduceLT, Int.reduceLE, Int.reduceNeg, Int.reduceAdd, if_true, if_false, reduceIte, reduceCtorEq, Bool.false_eq_true, ne_eq, qCmp_0, qCmp_1, qCmp_2, qCmp_3, qCmp_4, qCmp_5, ib_0, ib_1, ib_2, lb_0, lb_1, lb_2, dv_0, dv_1, wq_ic, wq_lc, wq_ld_i, wq_ld_a, wq_st_i, wq_iinc, wq_ib, wq_i2l, wq_icmp, wq_if, wq_goto, wq_get, mGet_0, mGet_1, mGet_2, mGet_3, wq_putI, wq_putL, wq_astI, wq_astL, wq_ret0, wq_ret1, wq_ret2, wq_ret3, wq_ret4, ldR0, ldI1, wq_callS1_1, mrg_1_, ldI2, wq_callS3_1, mrg_2_, wq_callV2_0, mrg_3_, mrg_0_, fk_11_3, fk_11_0, mrg_595_, mrg_10_, stI3, ldI3, mrg_9_, wqinc3, mPut_s, mPut_I0, mPut_R0, mPut_L0, mPut_I1, mPut_R1, mPut_L1, mGo_n, sfxX11_way_12, cutX11_way_12, sfxX11_way_26, cutX11_way_26, sfxX11_way_43, cutX11_way_43, sfxX11_way_44, cutX11_way_44, sfxX11_way_55, cutX11_way_55, sfxX11_way_66, cutX11_way_66, sfxX11_way_82, cutX11_way_82, sfxX11_way_116, cutX11_way_116, wq_cut, mGo_c, mMask_t, mMask_f, mMask_n, kX11_way_116, kX11_way_82, kX11_way_66, kX11_way_55, kX11_way_44, kX11_way_43, kX11_way_26, kX11_way_12, kX11_way_0, sk_200, al_200, rf_200_0, sk_201, al_201, sn_201, SX11_way_0, SX11_way_1, SX11_way_2, SX11_way_3, SX11_way_4, shqI_, shqLLL_, shqRI_, spX11_isWay, spX11_within, spX11_isKept, spX11_takesWay, spX11_standOf, mrg, mrl, mSet_ap, ncast, Option.some.injEq, set_201, set_over1]
    (try simp only [mrg, mrl] at *) <;> repeat' (first | (with_reducible assumption) | (with_reducible apply And.intro) | intro _)
    all_goals first | omega | exact h1 (by omega) | exact h2 (by omega) (by omega) | exact h3 (by omega) (by omega) (by omega) | exact h4 (by omega) (by omega) (by omega) | (rw [ek]; exact ⟨9, 0, rfl, rfl, by omega, rfl, by omega, by omega⟩) | skip
theorem ctrX11_way {l : Launch} (hst : l.stackTraces = false) (hT : mTxM l) : mCtr l calX11_way spX11_way :=
  mMet (T := TX11_way) (S := SX11_way) hst hT cutX11_way (by decide) okX11_way ⟨_, _, rfl, rfl⟩ trivial (fun t bs h => by rcases cutsX11_way h with ⟨-, rfl⟩ <;> rfl) (fun a => match a with
    | 0 => ctrX11_isWay hst hT
    | 1 => ctrX11_within hst hT
    | 2 => ctrX11_isKept hst hT
    | 3 => ctrX11_takesWay hst hT
    | 4 => ctrX11_standOf hst hT
    | _ + 5 => mCtr_no) vcX11_way

def peakN (A B : Int → Int) (a b : Int) : Nat → Int
  | 0 => 0
  | h + 1 => if h = 0 ∨ a * A h + (b - a) * B h > peakN A B a b h then a * A h + (b - a) * B h else peakN A B a b h
def tryT (A B : Int → Int) (n : Nat) (p : Int × Int × Int) (up down : Int) : Int × Int × Int :=
  let a := if down < 0 then -up else up
  let b := if down < 0 then -down else down
  if down = 0 ∨ a < 0 ∨ b < a then p
  else if p.2.1 = 0 ∨ peakN A B a b n * p.2.1 < p.2.2 * b ∨ (peakN A B a b n * p.2.1 = p.2.2 * b ∧ a * p.2.1 < p.1 * b) then (a, b, peakN A B a b n) else p
abbrev cstP (x : Int) : Prop := -9900 ≤ x ∧ x ≤ 9900
abbrev triP (p : Int × Int × Int) : Prop := (0 ≤ p.1 ∧ p.1 ≤ 40000) ∧ (0 ≤ p.2.1 ∧ p.2.1 ≤ 40000) ∧ (-400000000 ≤ p.2.2 ∧ p.2.2 ≤ 400000000)
theorem mix_bd {A B a b : Int} (hA : cstP A) (hB : cstP B) (ha : 0 ≤ a ∧ a ≤ b) (hb : b ≤ 40000) : (-400000000 ≤ a * A ∧ a * A ≤ 400000000) ∧ (-400000000 ≤ (b - a) * B ∧ (b - a) * B ≤ 400000000) ∧ (-396000000 ≤ a * A + (b - a) * B ∧ a * A + (b - a) * B ≤ 396000000) := by
  have h1 := Int.mul_le_mul_of_nonneg_left hA.1 ha.1
  have h2 := Int.mul_le_mul_of_nonneg_left hA.2 ha.1
  have h3 := Int.mul_le_mul_of_nonneg_left hB.1 (show 0 ≤ b - a by omega)
  have h4 := Int.mul_le_mul_of_nonneg_left hB.2 (show 0 ≤ b - a by omega)
  omega
theorem peakN_bd {A B : Int → Int} {a b : Int} (ha : 0 ≤ a ∧ a ≤ b) (hb : b ≤ 40000) : ∀ n : Nat, (∀ h : Int, 0 ≤ h → h < n → cstP (A h) ∧ cstP (B h)) → -396000000 ≤ peakN A B a b n ∧ peakN A B a b n ≤ 396000000
  | 0, _ => by simp [peakN]
  | h + 1, hc => by
    have ih := peakN_bd ha hb h (fun g g0 g1 => hc g g0 (by omega))
    have hh := hc h (by omega) (by omega)
    have m := mix_bd hh.1 hh.2 ha hb
    simp only [peakN]
    split <;> omega
theorem tryT_cases (A B : Int → Int) (n : Nat) (p : Int × Int × Int) (up down : Int) : tryT A B n p up down = p ∨ ∃ a b : Int, a = (if down < 0 then -up else up) ∧ b = (if down < 0 then -down else down) ∧ ¬ (down = 0 ∨ a < 0 ∨ b < a) ∧ tryT A B n p up down = (a, b, peakN A B a b n) := by
  simp only [tryT]
  generalize ha : (if down < 0 then -up else up) = a
  generalize hb : (if down < 0 then -down else down) = b
  split
  · exact Or.inl rfl
  · rename_i h1
    split
    · exact Or.inr ⟨a, b, rfl, rfl, h1, rfl⟩
    · exact Or.inl rfl
theorem tryT_bd {A B : Int → Int} {n : Nat} {p : Int × Int × Int} {up down : Int} (hp : triP p) (hu : -40000 ≤ up ∧ up ≤ 40000) (hd : -40000 ≤ down ∧ down ≤ 40000) (hc : ∀ h : Int, 0 ≤ h → h < n → cstP (A h) ∧ cstP (B h)) : triP (tryT A B n p up down) := by
  rcases tryT_cases A B n p up down with e | ⟨a, b, ea, eb, hz, e⟩
  · rw [e]
    exact hp
  · rw [e]
    have h := peakN_bd (A := A) (B := B) (a := a) (b := b) ⟨by omega, by omega⟩ (by omega) n hc
    exact ⟨⟨by show 0 ≤ a; omega, by show a ≤ 40000; omega⟩, ⟨by show 0 ≤ b; omega, by show b ≤ 40000; omega⟩, ⟨by show -400000000 ≤ peakN A B a b n; omega, by show peakN A B a b n ≤ 400000000; omega⟩⟩
theorem tryT_pos {A B : Int → Int} {n : Nat} {p : Int × Int × Int} {up down : Int} (hp : 1 ≤ p.2.1) : 1 ≤ (tryT A B n p up down).2.1 := by
  rcases tryT_cases A B n p up down with e | ⟨a, b, ea, eb, hz, e⟩
  · rw [e]
    exact hp
  · rw [e]
    show 1 ≤ b
    omega
theorem m3_self (I : mM) : mSet (mSet (mSet I 200 24 (I 200 24)) 200 25 (I 200 25)) 200 26 (I 200 26) = I := by
  rw [set_self I 200 24, set_self I 200 25, set_self I 200 26]
def spX11_tries : mSp := shRLLI (fun _ i up down n I Q => i = some 200 ∧ (-40000 ≤ up ∧ up ≤ 40000) ∧ (-40000 ≤ down ∧ down ≤ 40000) ∧ (0 ≤ n ∧ n ≤ 8) ∧ (∀ h : Int, 0 ≤ h → h < n → cstP (I 209 h) ∧ cstP (I 210 h)) ∧ (I 200 25 = 0 ∨ triP (I 200 24, I 200 25, I 200 26)) ∧ Q (.inl none) (mSet (mSet (mSet I 200 24 (tryT (I 209) (I 210) n.toNat (I 200 24, I 200 25, I 200 26) up down).1) 200 25 (tryT (I 209) (I 210) n.toNat (I 200 24, I 200 25, I 200 26) up down).2.1) 200 26 (tryT (I 209) (I 210) n.toNat (I 200 24, I 200 25, I 200 26) up down).2.2))
def SX11_tries : Nat → mSp := fun a => match a with
  | _ => fun _ _ _ _ => False
theorem cutsX11_tries {t : Nat} {bs : List Bool} (h : cutX11_tries t = some bs) : (t = 57 ∧ bs = [true, false, false, false, false, true, true, false, true, false, true, false, true, false, false]) := by
  unfold cutX11_tries at h
  simp only [mLk] at h
  by_cases h0 : 57 = t
  · subst h0
    simp at h
    exact ⟨rfl, h.symm⟩
  rw [if_neg h0] at h
  cases h
set_option maxRecDepth 100000 in
set_option maxHeartbeats 4000000 in
theorem vcX11_tries (fl : Nat → Bool) (avs : List mV) (I : mM) (Q : mO → mM → Prop) (hsp : spX11_tries fl avs I Q) : mVC SX11_tries fl Q kX11_tries cutX11_tries 15 avs I := by
  obtain ⟨i, up, down, nn, rfl, h0⟩ := shRLLI_inv hsp
  obtain ⟨rfl, hu, hd, hn, hc1, ht, h⟩ := h0
  refine ⟨rfl, (fun m t lv st I1 => st = [] ∧ I1 = I ∧ ∃ (a b v : Int) (j : Nat), lv = [some (mR (some 200)), none, none, none, none, some (mI nn), some (mL a), none, some (mL b), none, some (mL v), none, some (mI j), none, none] ∧ a = (if down < 0 then -up else up) ∧ b = (if down < 0 then -down else down) ∧ v = peakN (I 209) (I 210) a b j ∧ j ≤ nn.toNat ∧ m = 8 - j ∧ ¬ (down = 0 ∨ a < 0 ∨ b < a)), ?_, ?_⟩
  · intro n t bs hbs lv st I1 hc
    rcases cutsX11_tries hbs with ⟨rfl, rfl⟩
    rw [sfxX11_tries_57]
    obtain ⟨rfl, rfl, a, b, v, j, rfl, ea, eb, ev, hj, hm, hz⟩ := hc
    have pj := peakN_bd (A := I1 209) (B := I1 210) (a := a) (b := b) ⟨by omega, by omega⟩ (by omega) j (fun g g0 g1 => hc1 g g0 (by omega))
    have ps : peakN (I1 209) (I1 210) a b (j + 1) = if j = 0 ∨ a * I1 209 j + (b - a) * I1 210 j > peakN (I1 209) (I1 210) a b j then a * I1 209 j + (b - a) * I1 210 j else peakN (I1 209) (I1 210) a b j := rfl
    rw [← ev] at pj ps
    by_cases z : (j : Int) < nn
    · have mj := mix_bd (hc1 j (by omega) z).1 (hc1 j (by omega) z).2 (a := a) (b := b) ⟨by omega, by omega⟩ (by omega)
      clear h ht hc1
      generalize hX : a * I1 209 j = X at *
      generalize hY : (b - a) * I1 210 j = Y at *
      simp only [false_and, and_false, true_or, or_true, false_or, or_false, true_and, and_true, true_implies, false_implies, implies_true, not_true_eq_false, not_false_eq_true, and_self, List.length_cons, List.length_nil, mNoCut_, mCat_n, mCat_I, mCat_L, mCat_R, mIsL_n, mIsL_I, mIsL_R, mIsL_L, Nat.reduceAdd, Nat.reduceSub, Nat.reduceLeDiff, Nat.reduceLT, Nat.reduceEqDiff, Nat.zero_le, Int.reduceEq, Int.reduceLT, Int.reduceLE, Int.reduceNeg, Int.reduceAdd, if_true, if_false, reduceIte, reduceCtorEq, Bool.false_eq_true, ne_eq, qCmp_0, qCmp_1, qCmp_2, qCmp_3, qCmp_4, qCmp_5, ib_0, ib_1, ib_2, lb_0, lb_1, lb_2, dv_0, dv_1, wq_ic, wq_lc, wq_ld_i, wq_ld_l, wq_ld_a, wq_st_i, wq_st_l, wq_iinc, wq_lb, wq_lneg, wq_icmp, wq_if, wq_lcmp, wq_goto, wq_get, mGet_0, mGet_1, mGet_2, mGet_3, wq_putI, wq_putL, wq_ald, wq_ret0, wq_ret1, wq_ret2, wq_ret3, wq_ret4, ldL3, ldL1, stL6, stL8, ldL6, ldL8, stL10, mrg_0_, stI12, ldI12, ldI5, ldR0, fk_11_22, fk_11_23, stL13, ldL13, ldL10, wqinc12, fk_11_25, fk_11_26, fk_11_24, mrg_1_, mPut_s, mPut_I0, mPut_R0, mPut_L0, mPut_I1, mPut_R1, mPut_L1, mGo_n, sfxX11_tries_7, cutX11_tries_7, sfxX11_tries_18, cutX11_tries_18, sfxX11_tries_19, cutX11_tries_19, sfxX11_tries_32, cutX11_tries_32, sfxX11_tries_33, cutX11_tries_33, sfxX11_tries_50, cutX11_tries_50, sfxX11_tries_51, cutX11_tries_51, sfxX11_tries_57, cutX11_tries_57, sfxX11_tries_103, cutX11_tries_103, sfxX11_tries_108, cutX11_tries_108, sfxX11_tries_110, cutX11_tries_110, sfxX11_tries_118, cutX11_tries_118, sfxX11_tries_181, cutX11_tries_181, sfxX11_tries_185, cutX11_tries_185, sfxX11_tries_186, cutX11_tries_186, sfxX11_tries_194, cutX11_tries_194, wq_cut, mGo_c, mMask_t, mMask_f, mMask_n, kX11_tries_194, kX11_tries_186, kX11_tries_185, kX11_tries_181, kX11_tries_118, kX11_tries_110, kX11_tries_108, kX11_tries_103, kX11_tries_57, kX11_tries_51, kX11_tries_50, kX11_tries_33, kX11_tries_32, kX11_tries_19, kX11_tries_18, kX11_tries_7, kX11_tries_0, sk_200, al_200, rf_200_22, sk_209, al_209, sn_209, rf_200_23, sk_210, al_210, sn_210, ald_n, ro0_n, al_ro, mrg, mrl, mSet_ap, ncast, Option.some.injEq, hX, hY]
      (try simp only [mrg, mrl] at *) <;> repeat' (first | (with_reducible assumption) | (with_reducible apply And.intro) | intro _)
      all_goals first | omega | exact ⟨8 - (j + 1), by omega, a, b, _, j + 1, rfl, ea, eb, by rw [ps, if_pos (by omega)], by omega, rfl, hz⟩ | exact ⟨8 - (j + 1), by omega, a, b, _, j + 1, rfl, ea, eb, by rw [ps, if_neg (by omega)], by omega, rfl, hz⟩ | skip
    · have ej : j = nn.toNat := by omega
      have t0 : tryT (I1 209) (I1 210) nn.toNat (I1 200 24, I1 200 25, I1 200 26) up down = if I1 200 25 = 0 ∨ v * I1 200 25 < I1 200 26 * b ∨ (v * I1 200 25 = I1 200 26 * b ∧ a * I1 200 25 < I1 200 24 * b) then (a, b, v) else (I1 200 24, I1 200 25, I1 200 26) := by
        simp only [tryT]
        rw [← ea, ← eb, if_neg hz, ← ej, ← ev]
      have q : I1 200 25 = 0 ∨ (-16000000000000 ≤ v * I1 200 25 ∧ v * I1 200 25 ≤ 16000000000000) ∧ (-16000000000000 ≤ I1 200 26 * b ∧ I1 200 26 * b ≤ 16000000000000) ∧ (-16000000000000 ≤ a * I1 200 25 ∧ a * I1 200 25 ≤ 16000000000000) ∧ (-16000000000000 ≤ I1 200 24 * b ∧ I1 200 24 * b ≤ 16000000000000) ∧ 0 ≤ I1 200 25 ∧ I1 200 25 ≤ 40000 := by
        rcases ht with e | ⟨⟨k1, k2⟩, ⟨k3, k4⟩, k5, k6⟩
        · exact Or.inl e
        · right
          dsimp only at k1 k2 k3 k4 k5 k6
          have q1 := mul_abs_bd (x := I1 200 25) (a := 40000) (b := 400000000) (y := v) ⟨by omega, by omega⟩ ⟨by omega, by omega⟩
          have q2 := mul_abs_bd (x := b) (a := 40000) (b := 400000000) (y := I1 200 26) ⟨by omega, by omega⟩ ⟨by omega, by omega⟩
          have q3 := mul_abs_bd (x := a) (a := 40000) (b := 40000) (y := I1 200 25) ⟨by omega, by omega⟩ ⟨by omega, by omega⟩
          have q4 := mul_abs_bd (x := b) (a := 40000) (b := 40000) (y := I1 200 24) ⟨by omega, by omega⟩ ⟨by omega, by omega⟩
          rw [Int.mul_comm (I1 200 25) v] at q1
          rw [Int.mul_comm b (I1 200 26)] at q2
          rw [Int.mul_comm b (I1 200 24)] at q4
          omega
      clear ht hc1 ps pj
      rw [t0] at h
      generalize hX : v * I1 200 25 = X at *
      generalize hY : I1 200 26 * b = Y at *
      generalize hZ : a * I1 200 25 = Z at *
      generalize hW : I1 200 24 * b = W at *
      have hA : (I1 200 25 = 0 ∨ X < Y ∨ (X = Y ∧ Z < W)) → Q (.inl none) (mSet (mSet (mSet I1 200 24 a) 200 25 b) 200 26 v) := fun w => by
        rw [if_pos w] at h
        exact h
      have hB : ¬ (I1 200 25 = 0 ∨ X < Y ∨ (X = Y ∧ Z < W)) → Q (.inl none) I1 := fun w => by
        rw [if_neg w, m3_self] at h
        exact h
      simp only [false_and, and_false, true_or, or_true, false_or, or_false, true_and, and_true, true_implies, false_implies, implies_true, not_true_eq_false, not_false_eq_true, and_self, List.length_cons, List.length_nil, mNoCut_, mCat_n, mCat_I, mCat_L, mCat_R, mIsL_n, mIsL_I, mIsL_R, mIsL_L, Nat.reduceAdd, Nat.reduceSub, Nat.reduceLeDiff, Nat.reduceLT, Nat.reduceEqDiff, Nat.zero_le, Int.reduceEq, Int.reduceLT, Int.reduceLE, Int.reduceNeg, Int.reduceAdd, if_true, if_false, reduceIte, reduceCtorEq, Bool.false_eq_true, ne_eq, qCmp_0, qCmp_1, qCmp_2, qCmp_3, qCmp_4, qCmp_5, ib_0, ib_1, ib_2, lb_0, lb_1, lb_2, dv_0, dv_1, wq_ic, wq_lc, wq_ld_i, wq_ld_l, wq_ld_a, wq_st_i, wq_st_l, wq_iinc, wq_lb, wq_lneg, wq_icmp, wq_if, wq_lcmp, wq_goto, wq_get, mGet_0, mGet_1, mGet_2, mGet_3, wq_putI, wq_putL, wq_ald, wq_ret0, wq_ret1, wq_ret2, wq_ret3, wq_ret4, ldL3, ldL1, stL6, stL8, ldL6, ldL8, stL10, mrg_0_, stI12, ldI12, ldI5, ldR0, fk_11_22, fk_11_23, stL13, ldL13, ldL10, wqinc12, fk_11_25, fk_11_26, fk_11_24, mrg_1_, mPut_s, mPut_I0, mPut_R0, mPut_L0, mPut_I1, mPut_R1, mPut_L1, mGo_n, sfxX11_tries_7, cutX11_tries_7, sfxX11_tries_18, cutX11_tries_18, sfxX11_tries_19, cutX11_tries_19, sfxX11_tries_32, cutX11_tries_32, sfxX11_tries_33, cutX11_tries_33, sfxX11_tries_50, cutX11_tries_50, sfxX11_tries_51, cutX11_tries_51, sfxX11_tries_57, cutX11_tries_57, sfxX11_tries_103, cutX11_tries_103, sfxX11_tries_108, cutX11_tries_108, sfxX11_tries_110, cutX11_tries_110, sfxX11_tries_118, cutX11_tries_118, sfxX11_tries_181, cutX11_tries_181, sfxX11_tries_185, cutX11_tries_185, sfxX11_tries_186, cutX11_tries_186, sfxX11_tries_194, cutX11_tries_194, wq_cut, mGo_c, mMask_t, mMask_f, mMask_n, kX11_tries_194, kX11_tries_186, kX11_tries_185, kX11_tries_181, kX11_tries_118, kX11_tries_110, kX11_tries_108, kX11_tries_103, kX11_tries_57, kX11_tries_51, kX11_tries_50, kX11_tries_33, kX11_tries_32, kX11_tries_19, kX11_tries_18, kX11_tries_7, kX11_tries_0, sk_200, al_200, rf_200_22, sk_209, al_209, sn_209, rf_200_23, sk_210, al_210, sn_210, ald_n, ro0_n, al_ro, mrg, mrl, mSet_ap, ncast, Option.some.injEq, hX, hY, hZ, hW]
      (try simp only [mrg, mrl] at *) <;> repeat' (first | (with_reducible assumption) | (with_reducible apply And.intro) | intro _)
      all_goals first | omega | exact hA (by omega) | exact hB (by omega) | skip
  · show mWp _ _ _ _ _ _ kX11_tries_0 [some (mR (some 200)), some (mL up), none, some (mL down), none, some (mI nn), none, none, none, none, none, none, none, none, none] [] I
    have t3 : (down = 0 ∨ (if down < 0 then -up else up) < 0 ∨ (if down < 0 then -down else down) < (if down < 0 then -up else up)) → tryT (I 209) (I 210) nn.toNat (I 200 24, I 200 25, I 200 26) up down = (I 200 24, I 200 25, I 200 26) := fun z => by
      simp only [tryT]
      rw [if_pos z]
    simp only [false_and, and_false, true_or, or_true, false_or, or_false, true_and, and_true, true_implies, false_implies, implies_true, not_true_eq_false, not_false_eq_true, and_self, List.length_cons, List.length_nil, mNoCut_, mCat_n, mCat_I, mCat_L, mCat_R, mIsL_n, mIsL_I, mIsL_R, mIsL_L, Nat.reduceAdd, Nat.reduceSub, Nat.reduceLeDiff, Nat.reduceLT, Nat.reduceEqDiff, Nat.zero_le, Int.reduceEq, Int.reduceLT, Int.reduceLE, Int.reduceNeg, Int.reduceAdd, if_true, if_false, reduceIte, reduceCtorEq, Bool.false_eq_true, ne_eq, qCmp_0, qCmp_1, qCmp_2, qCmp_3, qCmp_4, qCmp_5, ib_0, ib_1, ib_2, lb_0, lb_1, lb_2, dv_0, dv_1, wq_ic, wq_lc, wq_ld_i, wq_ld_l, wq_ld_a, wq_st_i, wq_st_l, wq_iinc, wq_lb, wq_lneg, wq_icmp, wq_if, wq_lcmp, wq_goto, wq_get, mGet_0, mGet_1, mGet_2, mGet_3, wq_putI, wq_putL, wq_ald, wq_ret0, wq_ret1, wq_ret2, wq_ret3, wq_ret4, ldL3, ldL1, stL6, stL8, ldL6, ldL8, stL10, mrg_0_, stI12, ldI12, ldI5, ldR0, fk_11_22, fk_11_23, stL13, ldL13, ldL10, wqinc12, fk_11_25, fk_11_26, fk_11_24, mrg_1_, mPut_s, mPut_I0, mPut_R0, mPut_L0, mPut_I1, mPut_R1, mPut_L1, mGo_n, sfxX11_tries_7, cutX11_tries_7, sfxX11_tries_18, cutX11_tries_18, sfxX11_tries_19, cutX11_tries_19, sfxX11_tries_32, cutX11_tries_32, sfxX11_tries_33, cutX11_tries_33, sfxX11_tries_50, cutX11_tries_50, sfxX11_tries_51, cutX11_tries_51, sfxX11_tries_57, cutX11_tries_57, sfxX11_tries_103, cutX11_tries_103, sfxX11_tries_108, cutX11_tries_108, sfxX11_tries_110, cutX11_tries_110, sfxX11_tries_118, cutX11_tries_118, sfxX11_tries_181, cutX11_tries_181, sfxX11_tries_185, cutX11_tries_185, sfxX11_tries_186, cutX11_tries_186, sfxX11_tries_194, cutX11_tries_194, wq_cut, mGo_c, mMask_t, mMask_f, mMask_n, kX11_tries_194, kX11_tries_186, kX11_tries_185, kX11_tries_181, kX11_tries_118, kX11_tries_110, kX11_tries_108, kX11_tries_103, kX11_tries_57, kX11_tries_51, kX11_tries_50, kX11_tries_33, kX11_tries_32, kX11_tries_19, kX11_tries_18, kX11_tries_7, kX11_tries_0, sk_200, al_200, rf_200_22, sk_209, al_209, sn_209, rf_200_23, sk_210, al_210, sn_210, ald_n, ro0_n, al_ro, mrg, mrl, mSet_ap, ncast, Option.some.injEq]
    (try simp only [mrg, mrl] at *) <;> repeat' (first | (with_reducible assumption) | (with_reducible apply And.intro) | intro _)
    all_goals first | omega | exact ⟨8, _, _, 0, 0, rfl, (by omega), (by omega), rfl, by omega, rfl, (by omega)⟩ | (rw [t3 (by omega)] at h; rw [m3_self] at h; exact h) | skip
theorem ctrX11_tries {l : Launch} (hst : l.stackTraces = false) (hT : mTxM l) : mCtr l calX11_tries spX11_tries :=
  mMet (T := TX11_tries) (S := SX11_tries) hst hT cutX11_tries (by decide) okX11_tries ⟨_, _, rfl, rfl⟩ trivial (fun t bs h => by rcases cutsX11_tries h with ⟨-, rfl⟩ <;> rfl) (fun a => mCtr_no) vcX11_tries

end SPM15
