section SPM19
theorem ush16 (x : Int) : 0 ≤ ib 8 x 16 ∧ ib 8 x 16 ≤ 65535 := by
  have e : ib 8 x 16 = ((Int32.ofInt x).toUInt32 >>> 16).toInt32.toInt := rfl
  rw [e]
  generalize (Int32.ofInt x).toUInt32 = u
  have h1 : (u >>> 16).toNat < 65536 := by
    rw [UInt32.toNat_shiftRight]
    have := u.toNat_lt
    have e2 : (16 : UInt32).toNat % 32 = 16 := rfl
    rw [e2, Nat.shiftRight_eq_div_pow]
    omega
  have h2 : (u >>> 16).toInt32.toInt = ((u >>> 16).toNat : Int) := by
    show ((u >>> 16).toBitVec).toInt = _
    rw [BitVec.toInt_eq_toNat_of_lt]
    · rfl
    · show 2 * (u >>> 16).toNat < 2 ^ 32
      omega
  omega
def nx (x : Int) : Int := 1103515245 * x + 12345
def spX11_draw : mSp := shRI (fun _ i m I Q => i = some 200 ∧ (1 ≤ m ∧ m ≤ 2147483647) ∧ Q (.inl (some (mI (ib 8 (nx (I 200 32)) 16 % m)))) (mSet I 200 32 (nx (I 200 32))))
def SX11_draw : Nat → mSp := fun a => match a with
  | _ => fun _ _ _ _ => False
set_option maxRecDepth 100000 in
set_option maxHeartbeats 1000000 in
theorem vcX11_draw (fl : Nat → Bool) (avs : List mV) (I : mM) (Q : mO → mM → Prop) (hsp : spX11_draw fl avs I Q) : mVC0 SX11_draw fl Q kX11_draw 2 avs I := by
  obtain ⟨i, m, rfl, h0⟩ := shRI_inv hsp
  refine ⟨rfl, ?_⟩
  show mWp _ _ _ _ _ _ kX11_draw_0 [some (mR i), some (mI m)] [] I
  obtain ⟨rfl, hm, h⟩ := h0
  have hu := ush16 (nx (I 200 32))
  have ht : (ib 8 (nx (I 200 32)) 16).tmod m = ib 8 (nx (I 200 32)) 16 % m := Int.tmod_eq_emod_of_nonneg hu.1
  rw [← ht] at h
  unfold nx at h hu
  simp only [false_and, and_false, true_or, or_true, false_or, or_false, true_and, and_true, true_implies, false_implies, implies_true, not_true_eq_false, not_false_eq_true, and_self, List.length_cons, List.length_nil, mNoCut_, mCat_n, mCat_I, mCat_L, mCat_R, mIsL_n, mIsL_I, mIsL_R, mIsL_L, Nat.reduceAdd, Nat.reduceSub, Nat.reduceLeDiff, Nat.reduceLT, Nat.reduceEqDiff, Nat.zero_le, Int.reduceEq, Int.reduceLT, Int.reduceLE, Int.reduceNeg, Int.reduceAdd, if_true, if_false, reduceIte, reduceCtorEq, Bool.false_eq_true, ne_eq, qCmp_0, qCmp_1, qCmp_2, qCmp_3, qCmp_4, qCmp_5, ib_0, ib_1, ib_2, lb_0, lb_1, lb_2, dv_0, dv_1, wq_ic, wq_ld_i, wq_ld_a, wq_ib, wq_idv, wq_get, mGet_0, mGet_1, mGet_2, mGet_3, wq_putI, wq_putL, wq_ret0, wq_ret1, wq_ret2, wq_ret3, wq_ret4, ldR0, mrg_1103515245_, fk_11_32, mrg_12345_, mrg_16_, ldI1, kX11_draw_0, sk_200, al_200, mrg, mrl, mSet_ap, ncast, Option.some.injEq]
  exact ⟨⟨⟨by omega, by omega⟩, ⟨by omega, by omega⟩, by omega⟩, h⟩
theorem ctrX11_draw {l : Launch} (hst : l.stackTraces = false) (hT : mTxM l) : mCtr l calX11_draw spX11_draw :=
  mMet0 (T := TX11_draw) (S := SX11_draw) hst hT (by decide) okX11_draw ⟨_, _, rfl, rfl⟩ (fun a => mCtr_no) vcX11_draw

def dearN (t : Int → Int) (b : Int) : Nat → Int
  | 0 => 0
  | n + 1 => if n ≠ 0 ∧ costT t b n > costT t b (dearN t b n) then n else dearN t b n
theorem dearN_bd (t : Int → Int) (b : Int) : ∀ n : Nat, 0 ≤ dearN t b n ∧ (dearN t b n < n ∨ n = 0)
  | 0 => ⟨by simp [dearN], Or.inr rfl⟩
  | n + 1 => by
    have ih := dearN_bd t b n
    have h0 : dearN t b 0 = 0 := rfl
    simp only [dearN]
    split
    · omega
    · rcases Nat.eq_zero_or_pos n with q | q
      · subst q
        omega
      · omega
def pickGo (t : Int → Int) (b : Int) : Nat → Int → Int → Int
  | 0, _, h => h
  | m + 1, l, h => if l < rawT t b h 3 then h else pickGo t b m (l - rawT t b h 3) (h + 1)
def pickT (t : Int → Int) (b l : Int) : Int := pickGo t b 8 l 0
/-- the HIT that is drawn, and the number behind it -/
def bowledT (t : Int → Int) (b x : Int) : Int × Int :=
  if t 6 = 1 ∧ ib 8 (nx x) 16 % 100 < t 7 then (dearN t b (t (13 + b)).toNat, nx x)
  else (pickT t b (ib 8 (nx (if t 6 = 1 then nx x else x)) 16 % allT t b), nx (if t 6 = 1 then nx x else x))
theorem allN_le {t : Int → Int} (H : WFt t) {b : Int} (hb : 0 ≤ b ∧ b < 6) {m : Nat} : ∀ n : Nat, m ≤ n → n ≤ 8 → allN t b m ≤ allN t b n
  | 0, h, _ => by
    have : m = 0 := by omega
    subst this
    exact Int.le_refl _
  | n + 1, h, hn => by
    rcases Nat.lt_or_ge n m with q | q
    · have : m = n + 1 := by omega
      subst this
      exact Int.le_refl _
    · have ih := allN_le H hb n q (by omega)
      have f := forT_bd H hb (h := n) ⟨by omega, by omega⟩
      simp only [allN]
      omega
theorem allT_pos {t : Int → Int} (H : WFt t) {b : Int} (hb : 0 ≤ b ∧ b < 6) (h : 1 ≤ t (13 + b)) : 1 ≤ allT t b := by
  have hn := H.2.1 b hb.1 hb.2
  have h1 := allN_le H hb (m := 1) (t (13 + b)).toNat (by omega) (by omega)
  have h2 := H.2.2.2.2.1 b 0 hb.1 hb.2 (by omega) (by omega)
  have h3 : allN t b 1 = 0 + rawT t b 0 3 := rfl
  have h4 : rawT t b 0 3 = t (313 + 5 * (8 * b + 0)) := by
    unfold rawT
    congr 1
    omega
  unfold allT
  omega
theorem pickGo_bd {t : Int → Int} (H : WFt t) {b : Int} (hb : 0 ≤ b ∧ b < 6) : ∀ (m : Nat) (l : Int) (h : Nat), 0 ≤ l → l < allT t b - allN t b h → (h : Int) + m ≤ 8 → t (13 + b) ≤ (h : Int) + m → (h : Int) ≤ pickGo t b m l h ∧ pickGo t b m l h < t (13 + b)
  | 0, l, h, h0, h1, h2, h3 => by
    have hn := H.2.1 b hb.1 hb.2
    have := allN_le H hb (m := (t (13 + b)).toNat) h (by omega) (by omega)
    unfold allT at h1
    omega
  | m + 1, l, h, h0, h1, h2, h3 => by
    have hn := H.2.1 b hb.1 hb.2
    have hlt : (h : Int) < t (13 + b) := by
      rcases Int.lt_or_le (h : Int) (t (13 + b)) with q | q
      · exact q
      · have := allN_le H hb (m := (t (13 + b)).toNat) h (by omega) (by omega)
        unfold allT at h1
        omega
    simp only [pickGo]
    split
    · omega
    · have e : allN t b (h + 1) = allN t b h + rawT t b h 3 := rfl
      have ih := pickGo_bd H hb m (l - rawT t b h 3) (h + 1) (by omega) (by omega) (by omega) (by omega)
      have e2 : ((h + 1 : Nat) : Int) = (h : Int) + 1 := by omega
      rw [e2] at ih
      omega
theorem bowledT_bd {t : Int → Int} (H : WFt t) {b : Int} (x : Int) (hb : 0 ≤ b ∧ b < 6) (h : 1 ≤ t (13 + b)) : 0 ≤ (bowledT t b x).1 ∧ (bowledT t b x).1 < t (13 + b) := by
  have hn := H.2.1 b hb.1 hb.2
  unfold bowledT
  split
  · have := dearN_bd t b (t (13 + b)).toNat
    dsimp only
    omega
  · have ap := allT_pos H hb h
    have m1 := Int.emod_nonneg (ib 8 (nx (if t 6 = 1 then nx x else x)) 16) (b := allT t b) (by omega)
    have m2 := Int.emod_lt_of_pos (ib 8 (nx (if t 6 = 1 then nx x else x)) 16) (b := allT t b) (by omega)
    have := pickGo_bd H hb 8 _ 0 m1 (by show _ < allT t b - 0; omega) (by omega) (by omega)
    exact ⟨this.1, this.2⟩
def spX11_bowled : mSp := shRI (fun _ i b I Q => i = some 200 ∧ WFt (I 201) ∧ (0 ≤ b ∧ b < 6) ∧ 1 ≤ I 201 (13 + b) ∧ Q (.inl (some (mI (bowledT (I 201) b (I 200 32)).1))) (mSet I 200 32 (bowledT (I 201) b (I 200 32)).2))
def SX11_bowled : Nat → mSp := fun a => match a with
  | 0 => spX11_draw
  | 1 => spX11_costOf
  | 2 => spX11_allFor
  | 3 => spX11_raw
  | _ => fun _ _ _ _ => False
theorem SX11_bowled_0 : SX11_bowled 0 = spX11_draw := Eq.trans rfl rfl
theorem SX11_bowled_1 : SX11_bowled 1 = spX11_costOf := Eq.trans rfl rfl
theorem SX11_bowled_2 : SX11_bowled 2 = spX11_allFor := Eq.trans rfl rfl
theorem SX11_bowled_3 : SX11_bowled 3 = spX11_raw := Eq.trans rfl rfl
theorem cutsX11_bowled {t : Nat} {bs : List Bool} (h : cutX11_bowled t = some bs) : (t = 42 ∧ bs = [true, true, true, true, true]) ∨ (t = 89 ∧ bs = [true, true, false, true, true]) := by
  unfold cutX11_bowled at h
  simp only [mLk] at h
  by_cases h0 : 42 = t
  · subst h0
    simp at h
    exact Or.inl ⟨rfl, h.symm⟩
  rw [if_neg h0] at h
  by_cases h1 : 89 = t
  · subst h1
    simp at h
    exact Or.inr (⟨rfl, h.symm⟩)
  rw [if_neg h1] at h
  cases h
set_option maxRecDepth 100000 in
set_option maxHeartbeats 1000000 in
theorem vcX11_bowled (fl : Nat → Bool) (avs : List mV) (I : mM) (Q : mO → mM → Prop) (hsp : spX11_bowled fl avs I Q) : mVC SX11_bowled fl Q kX11_bowled cutX11_bowled 5 avs I := by
  obtain ⟨i, b, rfl, h0⟩ := shRI_inv hsp
  obtain ⟨rfl, H, hb, h1, h⟩ := h0
  have hn := H.2.1 b hb.1 hb.2
  refine ⟨rfl, (fun m t lv st I1 => st = [] ∧ ∃ h : Nat, I1 = mSet I 200 32 (bowledT (I 201) b (I 200 32)).2 ∧ (if t = 42 then lv = [some (mR (some 200)), some (mI b), some (mI (I 201 (13 + b))), some (mI (dearN (I 201) b h)), some (mI h)] ∧ 1 ≤ h ∧ h ≤ (I 201 (13 + b)).toNat ∧ m = 8 - h ∧ (bowledT (I 201) b (I 200 32)).1 = dearN (I 201) b (I 201 (13 + b)).toNat else ∃ l : Int, lv = [some (mR (some 200)), some (mI b), none, some (mI l), some (mI h)] ∧ h ≤ (I 201 (13 + b)).toNat ∧ m = 8 - h ∧ 0 ≤ l ∧ l < allT (I 201) b - allN (I 201) b h ∧ (bowledT (I 201) b (I 200 32)).1 = pickGo (I 201) b (8 - h) l h)), ?_, ?_⟩
  · intro n t bs hbs lv st I1 hc
    rcases cutsX11_bowled hbs with ⟨rfl, rfl⟩ | ⟨rfl, rfl⟩
    · skip
      rw [sfxX11_bowled_42]
      obtain ⟨rfl, j, rfl, rfl, hj1, hj, hm, he⟩ := hc
      have db := dearN_bd (I 201) b j
      have c1 := fun z : (j : Int) < I 201 (13 + b) => costT_bd H hb (h := j) ⟨by omega, by omega⟩
      have c2 := costT_bd H hb (h := dearN (I 201) b j) ⟨by omega, by omega⟩
      have ds : dearN (I 201) b (j + 1) = if j ≠ 0 ∧ costT (I 201) b j > costT (I 201) b (dearN (I 201) b j) then (j : Int) else dearN (I 201) b j := rfl
      generalize hX : dearN (I 201) b j = X at *
      simp only [false_and, and_false, true_or, or_true, false_or, or_false, true_and, and_true, true_implies, false_implies, implies_true, not_true_eq_false, not_false_eq_true, and_self, List.length_cons, List.length_nil, mNoCut_, mCat_n, mCat_I, mCat_L, mCat_R, mIsL_n, mIsL_I, mIsL_R, mIsL_L, Nat.reduceAdd, Nat.reduceSub, Nat.reduceLeDiff, Nat.reduceLT, Nat.reduceEqDiff, Nat.zero_le, Int.reduceEq, Int.reduceLT, Int.reduceLE, Int.reduceNeg, Int.reduceAdd, if_true, if_false, reduceIte, reduceCtorEq, Bool.false_eq_true, ne_eq, qCmp_0, qCmp_1, qCmp_2, qCmp_3, qCmp_4, qCmp_5, ib_0, ib_1, ib_2, lb_0, lb_1, lb_2, dv_0, dv_1, wq_ic, wq_ld_i, wq_ld_a, wq_st_i, wq_iinc, wq_ib, wq_l2i, wq_icmp, wq_goto, wq_get, mGet_0, mGet_1, mGet_2, mGet_3, wq_ald, wq_ret0, wq_ret1, wq_ret2, wq_ret3, wq_ret4, ldR0, fk_11_0, mrg_13_, ldI1, stI2, mrg_6_, mrg_1_, mrg_100_, wq_callV2_0, mrg_7_, mrg_0_, stI3, stI4, ldI4, ldI2, wq_callV3_0, ldI3, wqinc4, mrg_3_, wq_callV4_0, mPut_s, mPut_I0, mPut_R0, mPut_L0, mPut_I1, mPut_R1, mPut_L1, mGo_n, sfxX11_bowled_42, cutX11_bowled_42, sfxX11_bowled_67, cutX11_bowled_67, sfxX11_bowled_73, cutX11_bowled_73, sfxX11_bowled_75, cutX11_bowled_75, sfxX11_bowled_89, cutX11_bowled_89, sfxX11_bowled_118, cutX11_bowled_118, wq_cut, mGo_c, mMask_t, mMask_f, mMask_n, kX11_bowled_118, kX11_bowled_89, kX11_bowled_75, kX11_bowled_73, kX11_bowled_67, kX11_bowled_42, kX11_bowled_0, sk_200, al_200, rf_200_0, sk_201, al_201, sn_201, ald_n, ro0_n, al_ro, SX11_bowled_0, SX11_bowled_1, SX11_bowled_2, SX11_bowled_3, shqRI_, shqRII_, shqRIII_, spX11_draw, spX11_costOf, spX11_allFor, spX11_raw, mrg, mrl, mSet_ap, ncast, Option.some.injEq, set_201]
      (try simp only [mrg, mrl] at *) <;> repeat' (first | (with_reducible assumption) | (with_reducible apply And.intro) | intro _)
      all_goals first | omega | assumption | exact q_I (by rw [he]; (have e : j = (I 201 (13 + b)).toNat := by omega); rw [← e, hX]) h | exact ⟨8 - (j + 1), by omega, j + 1, by rw [ds, if_pos (by omega)]; rfl, by omega, by omega, rfl, he⟩ | exact ⟨8 - (j + 1), by omega, j + 1, by rw [ds, if_neg (by omega)]; rfl, by omega, by omega, rfl, he⟩ | skip
    · skip
      rw [sfxX11_bowled_89]
      obtain ⟨rfl, j, rfl, l, rfl, hj, hm, hl0, hl1, he⟩ := hc
      have hlt : (j : Int) < I 201 (13 + b) := by
        rcases Int.lt_or_le (j : Int) (I 201 (13 + b)) with q | q
        · exact q
        · have e : j = (I 201 (13 + b)).toNat := by omega
          unfold allT at hl1
          rw [← e] at hl1
          omega
      have fb := forT_bd H hb (h := j) ⟨by omega, by omega⟩
      have ab := allT_bd H hb
      have aj := allN_bd H hb j (by omega)
      have e1 : allN (I 201) b (j + 1) = allN (I 201) b j + rawT (I 201) b j 3 := rfl
      have ps : pickGo (I 201) b (8 - j) l j = if l < rawT (I 201) b j 3 then (j : Int) else pickGo (I 201) b (8 - (j + 1)) (l - rawT (I 201) b j 3) ((j + 1 : Nat) : Int) := by
        rw [show 8 - j = (8 - (j + 1)) + 1 by omega]
        rfl
      simp only [false_and, and_false, true_or, or_true, false_or, or_false, true_and, and_true, true_implies, false_implies, implies_true, not_true_eq_false, not_false_eq_true, and_self, List.length_cons, List.length_nil, mNoCut_, mCat_n, mCat_I, mCat_L, mCat_R, mIsL_n, mIsL_I, mIsL_R, mIsL_L, Nat.reduceAdd, Nat.reduceSub, Nat.reduceLeDiff, Nat.reduceLT, Nat.reduceEqDiff, Nat.zero_le, Int.reduceEq, Int.reduceLT, Int.reduceLE, Int.reduceNeg, Int.reduceAdd, if_true, if_false, reduceIte, reduceCtorEq, Bool.false_eq_true, ne_eq, qCmp_0, qCmp_1, qCmp_2, qCmp_3, qCmp_4, qCmp_5, ib_0, ib_1, ib_2, lb_0, lb_1, lb_2, dv_0, dv_1, wq_ic, wq_ld_i, wq_ld_a, wq_st_i, wq_iinc, wq_ib, wq_l2i, wq_icmp, wq_goto, wq_get, mGet_0, mGet_1, mGet_2, mGet_3, wq_ald, wq_ret0, wq_ret1, wq_ret2, wq_ret3, wq_ret4, ldR0, fk_11_0, mrg_13_, ldI1, stI2, mrg_6_, mrg_1_, mrg_100_, wq_callV2_0, mrg_7_, mrg_0_, stI3, stI4, ldI4, ldI2, wq_callV3_0, ldI3, wqinc4, mrg_3_, wq_callV4_0, mPut_s, mPut_I0, mPut_R0, mPut_L0, mPut_I1, mPut_R1, mPut_L1, mGo_n, sfxX11_bowled_42, cutX11_bowled_42, sfxX11_bowled_67, cutX11_bowled_67, sfxX11_bowled_73, cutX11_bowled_73, sfxX11_bowled_75, cutX11_bowled_75, sfxX11_bowled_89, cutX11_bowled_89, sfxX11_bowled_118, cutX11_bowled_118, wq_cut, mGo_c, mMask_t, mMask_f, mMask_n, kX11_bowled_118, kX11_bowled_89, kX11_bowled_75, kX11_bowled_73, kX11_bowled_67, kX11_bowled_42, kX11_bowled_0, sk_200, al_200, rf_200_0, sk_201, al_201, sn_201, ald_n, ro0_n, al_ro, SX11_bowled_0, SX11_bowled_1, SX11_bowled_2, SX11_bowled_3, shqRI_, shqRII_, shqRIII_, spX11_draw, spX11_costOf, spX11_allFor, spX11_raw, mrg, mrl, mSet_ap, ncast, Option.some.injEq, set_201]
      (try simp only [mrg, mrl] at *) <;> repeat' (first | (with_reducible assumption) | (with_reducible apply And.intro) | intro _)
      all_goals first | omega | assumption | exact q_I (by rw [he, ps, if_pos (by omega)]) h | exact ⟨8 - (j + 1), by omega, j + 1, _, rfl, by omega, rfl, by omega, by omega, by rw [he, ps, if_neg (by omega)]⟩ | skip
  · show mWp _ _ _ _ _ _ kX11_bowled_0 [some (mR (some 200)), some (mI b), none, none, none] [] I
    have ap := allT_pos H hb h1
    have ab := allT_bd H hb
    have h6 := H.1.2.2.2.2.2.2
    have b1 : I 201 6 = 1 ∧ ib 8 (nx (I 200 32)) 16 % 100 < I 201 7 → bowledT (I 201) b (I 200 32) = (dearN (I 201) b (I 201 (13 + b)).toNat, nx (I 200 32)) := fun z => by
      unfold bowledT
      rw [if_pos z]
    have b2 : I 201 6 = 1 ∧ ¬ ib 8 (nx (I 200 32)) 16 % 100 < I 201 7 → bowledT (I 201) b (I 200 32) = (pickT (I 201) b (ib 8 (nx (nx (I 200 32))) 16 % allT (I 201) b), nx (nx (I 200 32))) := fun z => by
      unfold bowledT
      rw [if_neg (fun w => z.2 w.2), if_pos z.1]
    have b3 : ¬ I 201 6 = 1 → bowledT (I 201) b (I 200 32) = (pickT (I 201) b (ib 8 (nx (I 200 32)) 16 % allT (I 201) b), nx (I 200 32)) := fun z => by
      unfold bowledT
      rw [if_neg (fun w => z w.1), if_neg z]
    have m1 := fun y => Int.emod_nonneg (ib 8 (nx y) 16) (b := allT (I 201) b) (by omega)
    have m2 := fun y => Int.emod_lt_of_pos (ib 8 (nx y) 16) (b := allT (I 201) b) (by omega)
    have m3 := Int.emod_nonneg (ib 8 (nx (I 200 32)) 16) (b := 100) (by omega)
    have m4 := Int.emod_lt_of_pos (ib 8 (nx (I 200 32)) 16) (b := 100) (by omega)
    simp only [false_and, and_false, true_or, or_true, false_or, or_false, true_and, and_true, true_implies, false_implies, implies_true, not_true_eq_false, not_false_eq_true, and_self, List.length_cons, List.length_nil, mNoCut_, mCat_n, mCat_I, mCat_L, mCat_R, mIsL_n, mIsL_I, mIsL_R, mIsL_L, Nat.reduceAdd, Nat.reduceSub, Nat.reduceLeDiff, Nat.reduceLT, Nat.reduceEqDiff, Nat.zero_le, Int.reduceEq, Int.reduceLT, Int.reduceLE, Int.reduceNeg, Int.reduceAdd, if_true, if_false, reduceIte, reduceCtorEq, Bool.false_eq_true, ne_eq, qCmp_0, qCmp_1, qCmp_2, qCmp_3, qCmp_4, qCmp_5, ib_0, ib_1, ib_2, lb_0, lb_1, lb_2, dv_0, dv_1, wq_ic, wq_ld_i, wq_ld_a, wq_st_i, wq_iinc, wq_ib, wq_l2i, wq_icmp, wq_goto, wq_get, mGet_0, mGet_1, mGet_2, mGet_3, wq_ald, wq_ret0, wq_ret1, wq_ret2, wq_ret3, wq_ret4, ldR0, fk_11_0, mrg_13_, ldI1, stI2, mrg_6_, mrg_1_, mrg_100_, wq_callV2_0, mrg_7_, mrg_0_, stI3, stI4, ldI4, ldI2, wq_callV3_0, ldI3, wqinc4, mrg_3_, wq_callV4_0, mPut_s, mPut_I0, mPut_R0, mPut_L0, mPut_I1, mPut_R1, mPut_L1, mGo_n, sfxX11_bowled_42, cutX11_bowled_42, sfxX11_bowled_67, cutX11_bowled_67, sfxX11_bowled_73, cutX11_bowled_73, sfxX11_bowled_75, cutX11_bowled_75, sfxX11_bowled_89, cutX11_bowled_89, sfxX11_bowled_118, cutX11_bowled_118, wq_cut, mGo_c, mMask_t, mMask_f, mMask_n, kX11_bowled_118, kX11_bowled_89, kX11_bowled_75, kX11_bowled_73, kX11_bowled_67, kX11_bowled_42, kX11_bowled_0, sk_200, al_200, rf_200_0, sk_201, al_201, sn_201, ald_n, ro0_n, al_ro, SX11_bowled_0, SX11_bowled_1, SX11_bowled_2, SX11_bowled_3, shqRI_, shqRII_, shqRIII_, spX11_draw, spX11_costOf, spX11_allFor, spX11_raw, mrg, mrl, mSet_ap, ncast, Option.some.injEq, set_201, set_over1, set_eq]
    (try simp only [mrg, mrl] at *) <;> repeat' (first | (with_reducible assumption) | (with_reducible apply And.intro) | intro _)
    all_goals first | omega | assumption | exact ⟨7, 1, by rw [b1 ⟨by omega, by omega⟩], rfl, by omega, by omega, rfl, by rw [b1 ⟨by omega, by omega⟩]⟩ | exact ⟨8, 0, by rw [b2 ⟨by omega, by omega⟩], _, rfl, by omega, rfl, m1 _, by show _ < _ - 0; have := m2 (nx (I 200 32)); omega, by rw [b2 ⟨by omega, by omega⟩]; rfl⟩ | exact ⟨8, 0, by rw [b3 (by omega)], _, rfl, by omega, rfl, m1 _, by show _ < _ - 0; have := m2 (I 200 32); omega, by rw [b3 (by omega)]; rfl⟩ | skip
theorem ctrX11_bowled {l : Launch} (hst : l.stackTraces = false) (hT : mTxM l) : mCtr l calX11_bowled spX11_bowled :=
  mMet (T := TX11_bowled) (S := SX11_bowled) hst hT cutX11_bowled (by decide) okX11_bowled ⟨_, _, rfl, rfl⟩ trivial (fun t bs h => by rcases cutsX11_bowled h with ⟨-, rfl⟩ | ⟨-, rfl⟩ <;> rfl) (fun a => match a with
    | 0 => ctrX11_draw hst hT
    | 1 => ctrX11_costOf hst hT
    | 2 => ctrX11_allFor hst hT
    | 3 => ctrX11_raw hst hT
    | _ + 4 => mCtr_no) vcX11_bowled

/-- who is nearest to a CELL -/
def nearN (st : Int → Int) (c : Int) : Nat → Int
  | 0 => -1
  | n + 1 => if st n ≠ -1 ∧ (nearN st c n = -1 ∨ far (st n) c < far (st (nearN st c n)) c) then n else nearN st c n
theorem nearN_bd (st : Int → Int) (c : Int) : ∀ n : Nat, -1 ≤ nearN st c n ∧ nearN st c n < n ∧ (nearN st c n ≠ -1 → st (nearN st c n) ≠ -1)
  | 0 => ⟨by simp [nearN], by simp [nearN], fun h => absurd rfl h⟩
  | n + 1 => by
    have ih := nearN_bd st c n
    simp only [nearN]
    split
    · rename_i z
      exact ⟨by omega, by omega, fun _ => z.1⟩
    · exact ⟨ih.1, by omega, ih.2.2⟩
def chaseT (t : Int → Int) (b h : Int) : Int → Int :=
  if stepsT t b h = 0 ∨ nearN (stT t) (cellT t b h (stepsT t b h)) 9 = -1 then t
  else if judgeT (putT t (nearN (stT t) (cellT t b h (stepsT t b h)) 9) (cellT t b h (stepsT t b h))) = -1 then putT t (nearN (stT t) (cellT t b h (stepsT t b h)) 9) (cellT t b h (stepsT t b h)) else t
def spX11_chases : mSp := shRII (fun _ i b h I Q => i = some 200 ∧ WFt (I 201) ∧ (0 ≤ b ∧ b < 6) ∧ (0 ≤ h ∧ h < 8) ∧ Q (.inl none) (rowM I (chaseT (I 201) b h)))
def SX11_chases : Nat → mSp := fun a => match a with
  | 0 => spX11_stepsOf
  | 1 => spX11_cellAt
  | 2 => spX11_standOf
  | 3 => spX11_far
  | 4 => spX11_puts
  | 5 => spX11_isLawful
  | _ => fun _ _ _ _ => False
theorem SX11_chases_0 : SX11_chases 0 = spX11_stepsOf := Eq.trans rfl rfl
theorem SX11_chases_1 : SX11_chases 1 = spX11_cellAt := Eq.trans rfl rfl
theorem SX11_chases_2 : SX11_chases 2 = spX11_standOf := Eq.trans rfl rfl
theorem SX11_chases_3 : SX11_chases 3 = spX11_far := Eq.trans rfl rfl
theorem SX11_chases_4 : SX11_chases 4 = spX11_puts := Eq.trans rfl rfl
theorem SX11_chases_5 : SX11_chases 5 = spX11_isLawful := Eq.trans rfl rfl
theorem cutsX11_chases {t : Nat} {bs : List Bool} (h : cutX11_chases t = some bs) : (t = 29 ∧ bs = [true, false, false, true, true, true]) := by
  unfold cutX11_chases at h
  simp only [mLk] at h
  by_cases h0 : 29 = t
  · subst h0
    simp at h
    exact ⟨rfl, h.symm⟩
  rw [if_neg h0] at h
  cases h
set_option maxRecDepth 100000 in
set_option maxHeartbeats 1000000 in
theorem vcX11_chases (fl : Nat → Bool) (avs : List mV) (I : mM) (Q : mO → mM → Prop) (hsp : spX11_chases fl avs I Q) : mVC SX11_chases fl Q kX11_chases cutX11_chases 6 avs I := by
  obtain ⟨i, b, hh, rfl, h0⟩ := shRII_inv hsp
  obtain ⟨rfl, H, hb, hh1, h⟩ := h0
  have st8 := (steps_spec H hb hh1).1
  have cl := cell_in H hb hh1 (k := stepsT (I 201) b hh) ⟨by omega, by omega⟩
  refine ⟨rfl, (fun m t lv st I1 => st = [] ∧ I1 = I ∧ stepsT (I 201) b hh ≠ 0 ∧ ∃ (j : Nat), lv = [some (mR (some 200)), none, none, some (mI (cellT (I 201) b hh (stepsT (I 201) b hh))), some (mI (nearN (stT (I 201)) (cellT (I 201) b hh (stepsT (I 201) b hh)) j)), some (mI j)] ∧ j ≤ 9 ∧ m = 9 - j), ?_, ?_⟩
  · intro n t bs hbs lv st I1 hc
    rcases cutsX11_chases hbs with ⟨rfl, rfl⟩
    rw [sfxX11_chases_29]
    obtain ⟨rfl, rfl, hs0, j, rfl, hj, hm⟩ := hc
    have nb := nearN_bd (stT (I1 201)) (cellT (I1 201) b hh (stepsT (I1 201) b hh)) j
    have ns : nearN (stT (I1 201)) (cellT (I1 201) b hh (stepsT (I1 201) b hh)) (j + 1) = if stT (I1 201) j ≠ -1 ∧ (nearN (stT (I1 201)) (cellT (I1 201) b hh (stepsT (I1 201) b hh)) j = -1 ∨ far (stT (I1 201) j) (cellT (I1 201) b hh (stepsT (I1 201) b hh)) < far (stT (I1 201) (nearN (stT (I1 201)) (cellT (I1 201) b hh (stepsT (I1 201) b hh)) j)) (cellT (I1 201) b hh (stepsT (I1 201) b hh))) then (j : Int) else nearN (stT (I1 201)) (cellT (I1 201) b hh (stepsT (I1 201) b hh)) j := rfl
    have cd : j = 9 → chaseT (I1 201) b hh = if nearN (stT (I1 201)) (cellT (I1 201) b hh (stepsT (I1 201) b hh)) j = -1 then I1 201 else if judgeT (putT (I1 201) (nearN (stT (I1 201)) (cellT (I1 201) b hh (stepsT (I1 201) b hh)) j) (cellT (I1 201) b hh (stepsT (I1 201) b hh))) = -1 then putT (I1 201) (nearN (stT (I1 201)) (cellT (I1 201) b hh (stepsT (I1 201) b hh)) j) (cellT (I1 201) b hh (stepsT (I1 201) b hh)) else I1 201 := fun e => by
      unfold chaseT
      rw [e]
      by_cases z : nearN (stT (I1 201)) (cellT (I1 201) b hh (stepsT (I1 201) b hh)) 9 = -1
      · rw [if_pos (Or.inr z), if_pos z]
      · rw [if_neg (fun w => w.elim hs0 z), if_neg z]
    generalize hC : cellT (I1 201) b hh (stepsT (I1 201) b hh) = X at *
    generalize hY : nearN (stT (I1 201)) X j = Y at *
    rcases Nat.lt_or_ge j 9 with z | z
    · have s1 := H.st j (by omega) (by omega)
      clear cd h st8
      by_cases z2 : stT (I1 201) j = -1
      · simp only [false_and, and_false, true_or, or_true, false_or, or_false, true_and, and_true, true_implies, false_implies, implies_true, not_true_eq_false, not_false_eq_true, and_self, List.length_cons, List.length_nil, mNoCut_, mCat_n, mCat_I, mCat_L, mCat_R, mIsL_n, mIsL_I, mIsL_R, mIsL_L, Nat.reduceAdd, Nat.reduceSub, Nat.reduceLeDiff, Nat.reduceLT, Nat.reduceEqDiff, Nat.zero_le, Int.reduceEq, Int.reduceLT, Int.reduceLE, Int.reduceNeg, Int.reduceAdd, if_true, if_false, reduceIte, reduceCtorEq, Bool.false_eq_true, ne_eq, qCmp_0, qCmp_1, qCmp_2, qCmp_3, qCmp_4, qCmp_5, ib_0, ib_1, ib_2, lb_0, lb_1, lb_2, dv_0, dv_1, wq_ic, wq_ld_i, wq_ld_a, wq_st_i, wq_iinc, wq_icmp, wq_if, wq_goto, wq_ret0, wq_ret1, wq_ret2, wq_ret3, wq_ret4, ldR0, ldI1, ldI2, wq_callV3_0, wq_callV4_0, stI3, mrg_m1_, stI4, mrg_0_, stI5, ldI5, mrg_9_, wq_callV2_0, ldI4, ldI3, wq_callS2_1, wqinc5, wq_callV1_0, mPut_s, mPut_I0, mPut_R0, mPut_L0, mPut_I1, mPut_R1, mPut_L1, mGo_n, sfxX11_chases_10, cutX11_chases_10, sfxX11_chases_29, cutX11_chases_29, sfxX11_chases_75, cutX11_chases_75, sfxX11_chases_79, cutX11_chases_79, sfxX11_chases_85, cutX11_chases_85, sfxX11_chases_92, cutX11_chases_92, sfxX11_chases_122, cutX11_chases_122, wq_cut, mGo_c, mMask_t, mMask_f, mMask_n, kX11_chases_122, kX11_chases_92, kX11_chases_85, kX11_chases_79, kX11_chases_75, kX11_chases_29, kX11_chases_10, kX11_chases_0, sk_200, al_200, SX11_chases_0, SX11_chases_1, SX11_chases_2, SX11_chases_3, SX11_chases_4, SX11_chases_5, shqRII_, shqRIII_, shqRI_, shqII_, shqR_, spX11_stepsOf, spX11_cellAt, spX11_standOf, spX11_far, spX11_puts, spX11_isLawful, mrg, mrl, mSet_ap, ncast, Option.some.injEq]
        (try simp only [mrg, mrl] at *) <;> repeat' (first | (with_reducible assumption) | (with_reducible apply And.intro) | intro _)
        all_goals first | omega | exact ⟨9 - (j + 1), by omega, hs0, j + 1, by rw [ns, if_neg (by omega)]; rfl, by omega, rfl⟩ | skip
      · have f1 := far_bd (a := stT (I1 201) j) ⟨by omega, by omega⟩ cl
        by_cases z3 : Y = -1
        · simp only [false_and, and_false, true_or, or_true, false_or, or_false, true_and, and_true, true_implies, false_implies, implies_true, not_true_eq_false, not_false_eq_true, and_self, List.length_cons, List.length_nil, mNoCut_, mCat_n, mCat_I, mCat_L, mCat_R, mIsL_n, mIsL_I, mIsL_R, mIsL_L, Nat.reduceAdd, Nat.reduceSub, Nat.reduceLeDiff, Nat.reduceLT, Nat.reduceEqDiff, Nat.zero_le, Int.reduceEq, Int.reduceLT, Int.reduceLE, Int.reduceNeg, Int.reduceAdd, if_true, if_false, reduceIte, reduceCtorEq, Bool.false_eq_true, ne_eq, qCmp_0, qCmp_1, qCmp_2, qCmp_3, qCmp_4, qCmp_5, ib_0, ib_1, ib_2, lb_0, lb_1, lb_2, dv_0, dv_1, wq_ic, wq_ld_i, wq_ld_a, wq_st_i, wq_iinc, wq_icmp, wq_if, wq_goto, wq_ret0, wq_ret1, wq_ret2, wq_ret3, wq_ret4, ldR0, ldI1, ldI2, wq_callV3_0, wq_callV4_0, stI3, mrg_m1_, stI4, mrg_0_, stI5, ldI5, mrg_9_, wq_callV2_0, ldI4, ldI3, wq_callS2_1, wqinc5, wq_callV1_0, mPut_s, mPut_I0, mPut_R0, mPut_L0, mPut_I1, mPut_R1, mPut_L1, mGo_n, sfxX11_chases_10, cutX11_chases_10, sfxX11_chases_29, cutX11_chases_29, sfxX11_chases_75, cutX11_chases_75, sfxX11_chases_79, cutX11_chases_79, sfxX11_chases_85, cutX11_chases_85, sfxX11_chases_92, cutX11_chases_92, sfxX11_chases_122, cutX11_chases_122, wq_cut, mGo_c, mMask_t, mMask_f, mMask_n, kX11_chases_122, kX11_chases_92, kX11_chases_85, kX11_chases_79, kX11_chases_75, kX11_chases_29, kX11_chases_10, kX11_chases_0, sk_200, al_200, SX11_chases_0, SX11_chases_1, SX11_chases_2, SX11_chases_3, SX11_chases_4, SX11_chases_5, shqRII_, shqRIII_, shqRI_, shqII_, shqR_, spX11_stepsOf, spX11_cellAt, spX11_standOf, spX11_far, spX11_puts, spX11_isLawful, mrg, mrl, mSet_ap, ncast, Option.some.injEq]
          (try simp only [mrg, mrl] at *) <;> repeat' (first | (with_reducible assumption) | (with_reducible apply And.intro) | intro _)
          all_goals first | omega | exact ⟨9 - (j + 1), by omega, hs0, j + 1, by rw [ns, if_pos (by omega)]; rfl, by omega, rfl⟩ | skip
        · have s2 := H.st Y (by omega) (by omega)
          have s3 := nb.2.2 z3
          have f2 := far_bd (a := stT (I1 201) Y) ⟨by omega, by omega⟩ cl
          simp only [false_and, and_false, true_or, or_true, false_or, or_false, true_and, and_true, true_implies, false_implies, implies_true, not_true_eq_false, not_false_eq_true, and_self, List.length_cons, List.length_nil, mNoCut_, mCat_n, mCat_I, mCat_L, mCat_R, mIsL_n, mIsL_I, mIsL_R, mIsL_L, Nat.reduceAdd, Nat.reduceSub, Nat.reduceLeDiff, Nat.reduceLT, Nat.reduceEqDiff, Nat.zero_le, Int.reduceEq, Int.reduceLT, Int.reduceLE, Int.reduceNeg, Int.reduceAdd, if_true, if_false, reduceIte, reduceCtorEq, Bool.false_eq_true, ne_eq, qCmp_0, qCmp_1, qCmp_2, qCmp_3, qCmp_4, qCmp_5, ib_0, ib_1, ib_2, lb_0, lb_1, lb_2, dv_0, dv_1, wq_ic, wq_ld_i, wq_ld_a, wq_st_i, wq_iinc, wq_icmp, wq_if, wq_goto, wq_ret0, wq_ret1, wq_ret2, wq_ret3, wq_ret4, ldR0, ldI1, ldI2, wq_callV3_0, wq_callV4_0, stI3, mrg_m1_, stI4, mrg_0_, stI5, ldI5, mrg_9_, wq_callV2_0, ldI4, ldI3, wq_callS2_1, wqinc5, wq_callV1_0, mPut_s, mPut_I0, mPut_R0, mPut_L0, mPut_I1, mPut_R1, mPut_L1, mGo_n, sfxX11_chases_10, cutX11_chases_10, sfxX11_chases_29, cutX11_chases_29, sfxX11_chases_75, cutX11_chases_75, sfxX11_chases_79, cutX11_chases_79, sfxX11_chases_85, cutX11_chases_85, sfxX11_chases_92, cutX11_chases_92, sfxX11_chases_122, cutX11_chases_122, wq_cut, mGo_c, mMask_t, mMask_f, mMask_n, kX11_chases_122, kX11_chases_92, kX11_chases_85, kX11_chases_79, kX11_chases_75, kX11_chases_29, kX11_chases_10, kX11_chases_0, sk_200, al_200, SX11_chases_0, SX11_chases_1, SX11_chases_2, SX11_chases_3, SX11_chases_4, SX11_chases_5, shqRII_, shqRIII_, shqRI_, shqII_, shqR_, spX11_stepsOf, spX11_cellAt, spX11_standOf, spX11_far, spX11_puts, spX11_isLawful, mrg, mrl, mSet_ap, ncast, Option.some.injEq]
          (try simp only [mrg, mrl] at *) <;> repeat' (first | (with_reducible assumption) | (with_reducible apply And.intro) | intro _)
          all_goals first | omega | exact ⟨9 - (j + 1), by omega, hs0, j + 1, by rw [ns, if_pos (by omega)]; rfl, by omega, rfl⟩ | exact ⟨9 - (j + 1), by omega, hs0, j + 1, by rw [ns, if_neg (by omega)]; rfl, by omega, rfl⟩ | skip
    · have e9 : j = 9 := by omega
      have cd := cd e9
      have em := supp_mem I1 Y X
      have em2 := put_back (I1 201) Y X
      by_cases z3 : Y = -1
      · rw [if_pos z3] at cd
        rw [cd, rowM_self] at h
        clear cd em em2 ns
        simp only [false_and, and_false, true_or, or_true, false_or, or_false, true_and, and_true, true_implies, false_implies, implies_true, not_true_eq_false, not_false_eq_true, and_self, List.length_cons, List.length_nil, mNoCut_, mCat_n, mCat_I, mCat_L, mCat_R, mIsL_n, mIsL_I, mIsL_R, mIsL_L, Nat.reduceAdd, Nat.reduceSub, Nat.reduceLeDiff, Nat.reduceLT, Nat.reduceEqDiff, Nat.zero_le, Int.reduceEq, Int.reduceLT, Int.reduceLE, Int.reduceNeg, Int.reduceAdd, if_true, if_false, reduceIte, reduceCtorEq, Bool.false_eq_true, ne_eq, qCmp_0, qCmp_1, qCmp_2, qCmp_3, qCmp_4, qCmp_5, ib_0, ib_1, ib_2, lb_0, lb_1, lb_2, dv_0, dv_1, wq_ic, wq_ld_i, wq_ld_a, wq_st_i, wq_iinc, wq_icmp, wq_if, wq_goto, wq_ret0, wq_ret1, wq_ret2, wq_ret3, wq_ret4, ldR0, ldI1, ldI2, wq_callV3_0, wq_callV4_0, stI3, mrg_m1_, stI4, mrg_0_, stI5, ldI5, mrg_9_, wq_callV2_0, ldI4, ldI3, wq_callS2_1, wqinc5, wq_callV1_0, mPut_s, mPut_I0, mPut_R0, mPut_L0, mPut_I1, mPut_R1, mPut_L1, mGo_n, sfxX11_chases_10, cutX11_chases_10, sfxX11_chases_29, cutX11_chases_29, sfxX11_chases_75, cutX11_chases_75, sfxX11_chases_79, cutX11_chases_79, sfxX11_chases_85, cutX11_chases_85, sfxX11_chases_92, cutX11_chases_92, sfxX11_chases_122, cutX11_chases_122, wq_cut, mGo_c, mMask_t, mMask_f, mMask_n, kX11_chases_122, kX11_chases_92, kX11_chases_85, kX11_chases_79, kX11_chases_75, kX11_chases_29, kX11_chases_10, kX11_chases_0, sk_200, al_200, SX11_chases_0, SX11_chases_1, SX11_chases_2, SX11_chases_3, SX11_chases_4, SX11_chases_5, shqRII_, shqRIII_, shqRI_, shqII_, shqR_, spX11_stepsOf, spX11_cellAt, spX11_standOf, spX11_far, spX11_puts, spX11_isLawful, mrg, mrl, mSet_ap, ncast, Option.some.injEq]
        (try simp only [mrg, mrl] at *) <;> repeat' (first | (with_reducible assumption) | (with_reducible apply And.intro) | intro _)
        all_goals first | omega | exact h | skip
      · rw [if_neg z3] at cd
        have Hp := H.put (f := Y) (c := X) ⟨by omega, by omega⟩ ⟨by omega, by omega⟩
        have hA : judgeT (putT (I1 201) Y X) = -1 → Q (.inl none) (mSet I1 201 (550 + 5 * Y) X) := fun w => by
          rw [if_pos w] at cd
          rw [cd, ← rowM_put, rowM_self] at h
          exact h
        have hB : ¬ judgeT (putT (I1 201) Y X) = -1 → Q (.inl none) I1 := fun w => by
          rw [if_neg w] at cd
          rw [cd, rowM_self] at h
          exact h
        clear cd ns h
        simp only [false_and, and_false, true_or, or_true, false_or, or_false, true_and, and_true, true_implies, false_implies, implies_true, not_true_eq_false, not_false_eq_true, and_self, List.length_cons, List.length_nil, mNoCut_, mCat_n, mCat_I, mCat_L, mCat_R, mIsL_n, mIsL_I, mIsL_R, mIsL_L, Nat.reduceAdd, Nat.reduceSub, Nat.reduceLeDiff, Nat.reduceLT, Nat.reduceEqDiff, Nat.zero_le, Int.reduceEq, Int.reduceLT, Int.reduceLE, Int.reduceNeg, Int.reduceAdd, if_true, if_false, reduceIte, reduceCtorEq, Bool.false_eq_true, ne_eq, qCmp_0, qCmp_1, qCmp_2, qCmp_3, qCmp_4, qCmp_5, ib_0, ib_1, ib_2, lb_0, lb_1, lb_2, dv_0, dv_1, wq_ic, wq_ld_i, wq_ld_a, wq_st_i, wq_iinc, wq_icmp, wq_if, wq_goto, wq_ret0, wq_ret1, wq_ret2, wq_ret3, wq_ret4, ldR0, ldI1, ldI2, wq_callV3_0, wq_callV4_0, stI3, mrg_m1_, stI4, mrg_0_, stI5, ldI5, mrg_9_, wq_callV2_0, ldI4, ldI3, wq_callS2_1, wqinc5, wq_callV1_0, mPut_s, mPut_I0, mPut_R0, mPut_L0, mPut_I1, mPut_R1, mPut_L1, mGo_n, sfxX11_chases_10, cutX11_chases_10, sfxX11_chases_29, cutX11_chases_29, sfxX11_chases_75, cutX11_chases_75, sfxX11_chases_79, cutX11_chases_79, sfxX11_chases_85, cutX11_chases_85, sfxX11_chases_92, cutX11_chases_92, sfxX11_chases_122, cutX11_chases_122, wq_cut, mGo_c, mMask_t, mMask_f, mMask_n, kX11_chases_122, kX11_chases_92, kX11_chases_85, kX11_chases_79, kX11_chases_75, kX11_chases_29, kX11_chases_10, kX11_chases_0, sk_200, al_200, SX11_chases_0, SX11_chases_1, SX11_chases_2, SX11_chases_3, SX11_chases_4, SX11_chases_5, shqRII_, shqRIII_, shqRI_, shqII_, shqR_, spX11_stepsOf, spX11_cellAt, spX11_standOf, spX11_far, spX11_puts, spX11_isLawful, mrg, mrl, mSet_ap, ncast, Option.some.injEq, set_put, em, em2]
        (try simp only [mrg, mrl] at *) <;> repeat' (first | (with_reducible assumption) | (with_reducible apply And.intro) | intro _)
        all_goals first | omega | exact hA (by assumption) | exact hB (by assumption) | skip
  · show mWp _ _ _ _ _ _ kX11_chases_0 [some (mR (some 200)), some (mI b), some (mI hh), none, none, none] [] I
    have c0 : stepsT (I 201) b hh = 0 → rowM I (chaseT (I 201) b hh) = I := fun z => by
      unfold chaseT
      rw [if_pos (Or.inl z)]
      exact rowM_self I
    simp only [false_and, and_false, true_or, or_true, false_or, or_false, true_and, and_true, true_implies, false_implies, implies_true, not_true_eq_false, not_false_eq_true, and_self, List.length_cons, List.length_nil, mNoCut_, mCat_n, mCat_I, mCat_L, mCat_R, mIsL_n, mIsL_I, mIsL_R, mIsL_L, Nat.reduceAdd, Nat.reduceSub, Nat.reduceLeDiff, Nat.reduceLT, Nat.reduceEqDiff, Nat.zero_le, Int.reduceEq, Int.reduceLT, Int.reduceLE, Int.reduceNeg, Int.reduceAdd, if_true, if_false, reduceIte, reduceCtorEq, Bool.false_eq_true, ne_eq, qCmp_0, qCmp_1, qCmp_2, qCmp_3, qCmp_4, qCmp_5, ib_0, ib_1, ib_2, lb_0, lb_1, lb_2, dv_0, dv_1, wq_ic, wq_ld_i, wq_ld_a, wq_st_i, wq_iinc, wq_icmp, wq_if, wq_goto, wq_ret0, wq_ret1, wq_ret2, wq_ret3, wq_ret4, ldR0, ldI1, ldI2, wq_callV3_0, wq_callV4_0, stI3, mrg_m1_, stI4, mrg_0_, stI5, ldI5, mrg_9_, wq_callV2_0, ldI4, ldI3, wq_callS2_1, wqinc5, wq_callV1_0, mPut_s, mPut_I0, mPut_R0, mPut_L0, mPut_I1, mPut_R1, mPut_L1, mGo_n, sfxX11_chases_10, cutX11_chases_10, sfxX11_chases_29, cutX11_chases_29, sfxX11_chases_75, cutX11_chases_75, sfxX11_chases_79, cutX11_chases_79, sfxX11_chases_85, cutX11_chases_85, sfxX11_chases_92, cutX11_chases_92, sfxX11_chases_122, cutX11_chases_122, wq_cut, mGo_c, mMask_t, mMask_f, mMask_n, kX11_chases_122, kX11_chases_92, kX11_chases_85, kX11_chases_79, kX11_chases_75, kX11_chases_29, kX11_chases_10, kX11_chases_0, sk_200, al_200, SX11_chases_0, SX11_chases_1, SX11_chases_2, SX11_chases_3, SX11_chases_4, SX11_chases_5, shqRII_, shqRIII_, shqRI_, shqII_, shqR_, spX11_stepsOf, spX11_cellAt, spX11_standOf, spX11_far, spX11_puts, spX11_isLawful, mrg, mrl, mSet_ap, ncast, Option.some.injEq]
    (try simp only [mrg, mrl] at *) <;> repeat' (first | (with_reducible assumption) | (with_reducible apply And.intro) | intro _)
    all_goals first | omega | assumption | (rw [c0 (by omega)] at h; exact h) | exact ⟨9, by omega, 0, rfl, by omega, rfl⟩ | skip
theorem ctrX11_chases {l : Launch} (hst : l.stackTraces = false) (hT : mTxM l) : mCtr l calX11_chases spX11_chases :=
  mMet (T := TX11_chases) (S := SX11_chases) hst hT cutX11_chases (by decide) okX11_chases ⟨_, _, rfl, rfl⟩ trivial (fun t bs h => by rcases cutsX11_chases h with ⟨-, rfl⟩ <;> rfl) (fun a => match a with
    | 0 => ctrX11_stepsOf hst hT
    | 1 => ctrX11_cellAt hst hT
    | 2 => ctrX11_standOf hst hT
    | 3 => ctrX11_far hst hT
    | 4 => ctrX11_puts hst hT
    | 5 => ctrX11_isLawful hst hT
    | _ + 6 => mCtr_no) vcX11_chases

end SPM19
