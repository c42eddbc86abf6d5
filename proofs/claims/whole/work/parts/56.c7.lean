section SPC7
def repQ (I : mM) (q : Nat) (t : Int → Int) : Prop := (∀ f : Int, 0 ≤ f → f < 9 → I (q + 8) f = stT t f ∧ I (q + 9) f = pcT t f ∧ I (q + 10) f = hdT t f ∧ I (q + 11) f = prT t f ∧ I (q + 12) f = amT t f) ∧ (∀ i : Int, 0 ≤ i → i < 4 → keptP t i → ∀ f : Int, 0 ≤ f → f < 9 → I (q + 13) (9 * i + f) = keptS t i f) ∧ I q 6 = bitN t 4
def repD (I : mM) (d : Nat) (t : Int → Int) : Prop := I d 0 = t 6 ∧ I d 1 = t 7 ∧ I d 2 = t 8 ∧ (∀ k : Int, 0 ≤ k → k < 48 → I (d + 13) k = t (314 + 5 * k)) ∧ (∀ k : Int, 0 ≤ k → k < 4 → I (d + 14) k = t (9 + k))
def repS (I : mM) (b : Nat) (t : Int → Int) : Prop := repG I (b + 1) t ∧ repQ I (b + 2) t ∧ repD I (b + 3) t
/-- the class's state is the reference's row -/
def clsI (I : mM) : Prop := WFt (I 201) ∧ repG I 11 (I 201) ∧ repQ I 12 (I 201) ∧ repD I 13 (I 201)
def cPost (I I' : mM) (up lo : Int) : Prop := (∀ i, i ≠ 0 → ¬ ((3 ≤ i ∧ i ≤ 7) ∨ (120 ≤ i ∧ i ≤ 163)) → I' i = I i) ∧ I' 0 13 = up ∧ I' 0 14 = lo
theorem cPost.rfl (I : mM) : cPost I I (I 0 13) (I 0 14) := ⟨fun _ _ _ => Eq.refl _, Eq.refl _, Eq.refl _⟩
theorem cPost.fr {I I1 J : mM} {u l : Int} (h : cPost I I1 u l) {lo hi : Nat} (hl : 120 ≤ lo) (hh : hi ≤ 163) : cPost I (fr lo hi J I1) u l :=
  ⟨fun i h1 h2 => by rw [fr_ne (by omega)]; exact h.1 i h1 h2, by rw [fr_ne (by omega)]; exact h.2.1, by rw [fr_ne (by omega)]; exact h.2.2⟩
theorem cPost.frac {I I1 : mM} {u l : Int} (h : cPost I I1 u l) (x y : Int) : cPost I (mSet (mSet I1 0 13 x) 0 14 y) x y :=
  ⟨fun i h1 h2 => by rw [set_ne h1, set_ne h1]; exact h.1 i h1 h2, by rw [set_nq (by decide)]; exact set_eq, set_eq⟩
theorem cPost.arr {I I1 : mM} {u l : Int} (h : cPost I I1 u l) {a : Nat} (ha : 3 ≤ a ∧ a ≤ 7) (p v : Int) : cPost I (mSet I1 a p v) u l :=
  ⟨fun i h1 h2 => by rw [set_ne (by omega)]; exact h.1 i h1 h2, by rw [set_ne (by omega)]; exact h.2.1, by rw [set_ne (by omega)]; exact h.2.2⟩
theorem clsI.s20 {I : mM} (H : clsI I) : stR (I 201) (I 20) = I 201 :=
  (stR_cong _ (fun f f0 f1 => (H.2.2.1.1 f f0 f1).1)).trans (stR_self _)
theorem clsI.b20 {I : mM} (H : clsI I) : stB (I 20) := fun f f0 f1 => by
  have e : I 20 f = stT (I 201) f := (H.2.2.1.1 f f0 f1).1
  rw [e]
  exact H.1.st f f0 f1
theorem clsI.ctx {I J : mM} {b : Int} (H : clsI I) (hb : 0 ≤ b ∧ b < 6) (hJ : Laid J (I 201) b) : ctxU (fr 120 127 J I) (I 201) b := by
  refine ⟨H.1, hb, Laid_of (fun i hi => if_pos hi) hJ, fun f f0 f1 => ?_, fun k k0 k1 => ?_⟩
  · rw [fr_ne (by decide), fr_ne (by decide), fr_ne (by decide), fr_ne (by decide)]
    exact (H.2.2.1.1 f f0 f1).2
  · rw [fr_ne (by decide)]
    exact H.2.1.1 k k0 k1
def spX10_needBall : mSp := shI (fun _ b I Q => mrg b ∧ (ballP b → Q (.inl none) I) ∧ (¬ ballP b → Q (.inr (mEx 0)) I))
def SX10_needBall : Nat → mSp := fun a => match a with
  | _ => fun _ _ _ _ => False
set_option maxRecDepth 100000 in
set_option maxHeartbeats 1000000 in
theorem vcX10_needBall (fl : Nat → Bool) (avs : List mV) (I : mM) (Q : mO → mM → Prop) (hsp : spX10_needBall fl avs I Q) : mVC0 SX10_needBall fl Q kX10_needBall 1 avs I := by
  obtain ⟨b, rfl, h0⟩ := shI_inv hsp
  refine ⟨rfl, ?_⟩
  show mWp _ _ _ _ _ _ kX10_needBall_0 [some (mI b)] [] I
  obtain ⟨hb, h1, h2⟩ := h0
  simp only [false_and, and_false, true_or, or_true, false_or, or_false, true_and, and_true, true_implies, false_implies, implies_true, not_true_eq_false, not_false_eq_true, and_self, List.length_cons, List.length_nil, mNoCut_, mCat_n, mCat_I, mCat_L, mCat_R, mIsL_n, mIsL_I, mIsL_R, mIsL_L, Nat.reduceAdd, Nat.reduceSub, Nat.reduceLeDiff, Nat.reduceLT, Nat.reduceEqDiff, Nat.zero_le, Int.reduceEq, Int.reduceLT, Int.reduceLE, Int.reduceNeg, Int.reduceAdd, if_true, if_false, reduceIte, reduceCtorEq, Bool.false_eq_true, ne_eq, qCmp_0, qCmp_1, qCmp_2, qCmp_3, qCmp_4, qCmp_5, ib_0, ib_1, ib_2, lb_0, lb_1, lb_2, dv_0, dv_1, wq_ic, wq_ld_i, wq_icmp, wq_if, wq_ret0, wq_ret1, wq_ret2, wq_ret3, wq_ret4, wq_thr, ldI0, mrg_6_, mrg_0_, mGo_n, sfxX10_needBall_10, cutX10_needBall_10, sfxX10_needBall_21, cutX10_needBall_21, kX10_needBall_21, kX10_needBall_10, kX10_needBall_0, mrg, mrl, mSet_ap, ncast, Option.some.injEq]
  (try simp only [mrg, mrl] at *) <;> repeat' (first | (with_reducible assumption) | (with_reducible apply And.intro) | intro _)
  all_goals first | omega | exact h1 (by omega) | exact h2 (by omega) | skip
theorem ctrX10_needBall {l : Launch} (hst : l.stackTraces = false) (hT : mTxM l) : mCtr l calX10_needBall spX10_needBall :=
  mMet0 (T := TX10_needBall) (S := SX10_needBall) hst hT (by decide) okX10_needBall ⟨_, _, rfl, rfl⟩ (fun a => mCtr_no) vcX10_needBall

def spX10_needFielder : mSp := shI (fun _ f I Q => mrg f ∧ (fldP f → Q (.inl none) I) ∧ (¬ fldP f → Q (.inr (mEx 0)) I))
def SX10_needFielder : Nat → mSp := fun a => match a with
  | _ => fun _ _ _ _ => False
set_option maxRecDepth 100000 in
set_option maxHeartbeats 1000000 in
theorem vcX10_needFielder (fl : Nat → Bool) (avs : List mV) (I : mM) (Q : mO → mM → Prop) (hsp : spX10_needFielder fl avs I Q) : mVC0 SX10_needFielder fl Q kX10_needFielder 1 avs I := by
  obtain ⟨f, rfl, h0⟩ := shI_inv hsp
  refine ⟨rfl, ?_⟩
  show mWp _ _ _ _ _ _ kX10_needFielder_0 [some (mI f)] [] I
  obtain ⟨hb, h1, h2⟩ := h0
  simp only [false_and, and_false, true_or, or_true, false_or, or_false, true_and, and_true, true_implies, false_implies, implies_true, not_true_eq_false, not_false_eq_true, and_self, List.length_cons, List.length_nil, mNoCut_, mCat_n, mCat_I, mCat_L, mCat_R, mIsL_n, mIsL_I, mIsL_R, mIsL_L, Nat.reduceAdd, Nat.reduceSub, Nat.reduceLeDiff, Nat.reduceLT, Nat.reduceEqDiff, Nat.zero_le, Int.reduceEq, Int.reduceLT, Int.reduceLE, Int.reduceNeg, Int.reduceAdd, if_true, if_false, reduceIte, reduceCtorEq, Bool.false_eq_true, ne_eq, qCmp_0, qCmp_1, qCmp_2, qCmp_3, qCmp_4, qCmp_5, ib_0, ib_1, ib_2, lb_0, lb_1, lb_2, dv_0, dv_1, wq_ic, wq_ld_i, wq_icmp, wq_if, wq_ret0, wq_ret1, wq_ret2, wq_ret3, wq_ret4, wq_thr, ldI0, mrg_9_, mrg_0_, mGo_n, sfxX10_needFielder_10, cutX10_needFielder_10, sfxX10_needFielder_21, cutX10_needFielder_21, kX10_needFielder_21, kX10_needFielder_10, kX10_needFielder_0, mrg, mrl, mSet_ap, ncast, Option.some.injEq]
  (try simp only [mrg, mrl] at *) <;> repeat' (first | (with_reducible assumption) | (with_reducible apply And.intro) | intro _)
  all_goals first | omega | exact h1 (by omega) | exact h2 (by omega) | skip
theorem ctrX10_needFielder {l : Launch} (hst : l.stackTraces = false) (hT : mTxM l) : mCtr l calX10_needFielder spX10_needFielder :=
  mMet0 (T := TX10_needFielder) (S := SX10_needFielder) hst hT (by decide) okX10_needFielder ⟨_, _, rfl, rfl⟩ (fun a => mCtr_no) vcX10_needFielder

def spX10_needWay : mSp := shI (fun _ f I Q => mrg f ∧ (wayP f → Q (.inl none) I) ∧ (¬ wayP f → Q (.inr (mEx 0)) I))
def SX10_needWay : Nat → mSp := fun a => match a with
  | _ => fun _ _ _ _ => False
set_option maxRecDepth 100000 in
set_option maxHeartbeats 1000000 in
theorem vcX10_needWay (fl : Nat → Bool) (avs : List mV) (I : mM) (Q : mO → mM → Prop) (hsp : spX10_needWay fl avs I Q) : mVC0 SX10_needWay fl Q kX10_needWay 1 avs I := by
  obtain ⟨f, rfl, h0⟩ := shI_inv hsp
  refine ⟨rfl, ?_⟩
  show mWp _ _ _ _ _ _ kX10_needWay_0 [some (mI f)] [] I
  obtain ⟨hb, h1, h2⟩ := h0
  simp only [false_and, and_false, true_or, or_true, false_or, or_false, true_and, and_true, true_implies, false_implies, implies_true, not_true_eq_false, not_false_eq_true, and_self, List.length_cons, List.length_nil, mNoCut_, mCat_n, mCat_I, mCat_L, mCat_R, mIsL_n, mIsL_I, mIsL_R, mIsL_L, Nat.reduceAdd, Nat.reduceSub, Nat.reduceLeDiff, Nat.reduceLT, Nat.reduceEqDiff, Nat.zero_le, Int.reduceEq, Int.reduceLT, Int.reduceLE, Int.reduceNeg, Int.reduceAdd, if_true, if_false, reduceIte, reduceCtorEq, Bool.false_eq_true, ne_eq, qCmp_0, qCmp_1, qCmp_2, qCmp_3, qCmp_4, qCmp_5, ib_0, ib_1, ib_2, lb_0, lb_1, lb_2, dv_0, dv_1, wq_ic, wq_ld_i, wq_icmp, wq_if, wq_ret0, wq_ret1, wq_ret2, wq_ret3, wq_ret4, wq_thr, ldI0, mrg_4_, mrg_0_, mGo_n, sfxX10_needWay_9, cutX10_needWay_9, sfxX10_needWay_20, cutX10_needWay_20, kX10_needWay_20, kX10_needWay_9, kX10_needWay_0, mrg, mrl, mSet_ap, ncast, Option.some.injEq]
  (try simp only [mrg, mrl] at *) <;> repeat' (first | (with_reducible assumption) | (with_reducible apply And.intro) | intro _)
  all_goals first | omega | exact h1 (by omega) | exact h2 (by omega) | skip
theorem ctrX10_needWay {l : Launch} (hst : l.stackTraces = false) (hT : mTxM l) : mCtr l calX10_needWay spX10_needWay :=
  mMet0 (T := TX10_needWay) (S := SX10_needWay) hst hT (by decide) okX10_needWay ⟨_, _, rfl, rfl⟩ (fun a => mCtr_no) vcX10_needWay

def spX10_needImage : mSp := shI (fun _ f I Q => mrg f ∧ (0 ≤ f ∧ f ≤ 2 → Q (.inl none) I) ∧ (¬ (0 ≤ f ∧ f ≤ 2) → Q (.inr (mEx 0)) I))
def SX10_needImage : Nat → mSp := fun a => match a with
  | _ => fun _ _ _ _ => False
set_option maxRecDepth 100000 in
set_option maxHeartbeats 1000000 in
theorem vcX10_needImage (fl : Nat → Bool) (avs : List mV) (I : mM) (Q : mO → mM → Prop) (hsp : spX10_needImage fl avs I Q) : mVC0 SX10_needImage fl Q kX10_needImage 1 avs I := by
  obtain ⟨f, rfl, h0⟩ := shI_inv hsp
  refine ⟨rfl, ?_⟩
  show mWp _ _ _ _ _ _ kX10_needImage_0 [some (mI f)] [] I
  obtain ⟨hb, h1, h2⟩ := h0
  simp only [false_and, and_false, true_or, or_true, false_or, or_false, true_and, and_true, true_implies, false_implies, implies_true, not_true_eq_false, not_false_eq_true, and_self, List.length_cons, List.length_nil, mNoCut_, mCat_n, mCat_I, mCat_L, mCat_R, mIsL_n, mIsL_I, mIsL_R, mIsL_L, Nat.reduceAdd, Nat.reduceSub, Nat.reduceLeDiff, Nat.reduceLT, Nat.reduceEqDiff, Nat.zero_le, Int.reduceEq, Int.reduceLT, Int.reduceLE, Int.reduceNeg, Int.reduceAdd, if_true, if_false, reduceIte, reduceCtorEq, Bool.false_eq_true, ne_eq, qCmp_0, qCmp_1, qCmp_2, qCmp_3, qCmp_4, qCmp_5, ib_0, ib_1, ib_2, lb_0, lb_1, lb_2, dv_0, dv_1, wq_ic, wq_ld_i, wq_icmp, wq_if, wq_ret0, wq_ret1, wq_ret2, wq_ret3, wq_ret4, wq_thr, ldI0, mrg_3_, mrg_0_, mGo_n, sfxX10_needImage_9, cutX10_needImage_9, sfxX10_needImage_20, cutX10_needImage_20, kX10_needImage_20, kX10_needImage_9, kX10_needImage_0, mrg, mrl, mSet_ap, ncast, Option.some.injEq]
  (try simp only [mrg, mrl] at *) <;> repeat' (first | (with_reducible assumption) | (with_reducible apply And.intro) | intro _)
  all_goals first | omega | exact h1 (by omega) | exact h2 (by omega) | skip
theorem ctrX10_needImage {l : Launch} (hst : l.stackTraces = false) (hT : mTxM l) : mCtr l calX10_needImage spX10_needImage :=
  mMet0 (T := TX10_needImage) (S := SX10_needImage) hst hT (by decide) okX10_needImage ⟨_, _, rfl, rfl⟩ (fun a => mCtr_no) vcX10_needImage

def spX10_needNumber : mSp := shIII (fun _ v lo hi I Q => mrg v ∧ mrg lo ∧ mrg hi ∧ (lo ≤ v ∧ v ≤ hi → Q (.inl none) I) ∧ (¬ (lo ≤ v ∧ v ≤ hi) → Q (.inr (mEx 1)) I))
def SX10_needNumber : Nat → mSp := fun a => match a with
  | _ => fun _ _ _ _ => False
set_option maxRecDepth 100000 in
set_option maxHeartbeats 1000000 in
theorem vcX10_needNumber (fl : Nat → Bool) (avs : List mV) (I : mM) (Q : mO → mM → Prop) (hsp : spX10_needNumber fl avs I Q) : mVC0 SX10_needNumber fl Q kX10_needNumber 3 avs I := by
  obtain ⟨v, lo, hi, rfl, h0⟩ := shIII_inv hsp
  refine ⟨rfl, ?_⟩
  show mWp _ _ _ _ _ _ kX10_needNumber_0 [some (mI v), some (mI lo), some (mI hi)] [] I
  obtain ⟨hb, hl, hh1, h1, h2⟩ := h0
  simp only [false_and, and_false, true_or, or_true, false_or, or_false, true_and, and_true, true_implies, false_implies, implies_true, not_true_eq_false, not_false_eq_true, and_self, List.length_cons, List.length_nil, mNoCut_, mCat_n, mCat_I, mCat_L, mCat_R, mIsL_n, mIsL_I, mIsL_R, mIsL_L, Nat.reduceAdd, Nat.reduceSub, Nat.reduceLeDiff, Nat.reduceLT, Nat.reduceEqDiff, Nat.zero_le, Int.reduceEq, Int.reduceLT, Int.reduceLE, Int.reduceNeg, Int.reduceAdd, if_true, if_false, reduceIte, reduceCtorEq, Bool.false_eq_true, ne_eq, qCmp_0, qCmp_1, qCmp_2, qCmp_3, qCmp_4, qCmp_5, ib_0, ib_1, ib_2, lb_0, lb_1, lb_2, dv_0, dv_1, wq_ld_i, wq_icmp, wq_ret0, wq_ret1, wq_ret2, wq_ret3, wq_ret4, wq_thr, ldI0, ldI1, ldI2, mGo_n, sfxX10_needNumber_10, cutX10_needNumber_10, sfxX10_needNumber_21, cutX10_needNumber_21, kX10_needNumber_21, kX10_needNumber_10, kX10_needNumber_0, mrg, mrl, mSet_ap, ncast, Option.some.injEq]
  (try simp only [mrg, mrl] at *) <;> repeat' (first | (with_reducible assumption) | (with_reducible apply And.intro) | intro _)
  all_goals first | omega | exact h1 (by omega) | exact h2 (by omega) | skip
theorem ctrX10_needNumber {l : Launch} (hst : l.stackTraces = false) (hT : mTxM l) : mCtr l calX10_needNumber spX10_needNumber :=
  mMet0 (T := TX10_needNumber) (S := SX10_needNumber) hst hT (by decide) okX10_needNumber ⟨_, _, rfl, rfl⟩ (fun a => mCtr_no) vcX10_needNumber

def spX10_needHit : mSp := shRII (fun _ i b h I Q => i = some 0 ∧ clsI I ∧ mrg b ∧ mrg h ∧ (hitP (I 201) b h → Q (.inl none) I) ∧ (¬ hitP (I 201) b h → Q (.inr (mEx 0)) I))
def SX10_needHit : Nat → mSp := fun a => match a with
  | 0 => spX10_needBall
  | 1 => spX3_hitsOf
  | _ => fun _ _ _ _ => False
theorem SX10_needHit_0 : SX10_needHit 0 = spX10_needBall := Eq.trans rfl rfl
theorem SX10_needHit_1 : SX10_needHit 1 = spX3_hitsOf := Eq.trans rfl rfl
set_option maxRecDepth 100000 in
set_option maxHeartbeats 1000000 in
theorem vcX10_needHit (fl : Nat → Bool) (avs : List mV) (I : mM) (Q : mO → mM → Prop) (hsp : spX10_needHit fl avs I Q) : mVC0 SX10_needHit fl Q kX10_needHit 3 avs I := by
  obtain ⟨i, b, hh, rfl, h0⟩ := shRII_inv hsp
  refine ⟨rfl, ?_⟩
  show mWp _ _ _ _ _ _ kX10_needHit_0 [some (mR i), some (mI b), some (mI hh)] [] I
  obtain ⟨rfl, H, hb, hh1, h1, h2⟩ := h0
  have hn := fun z : ballP b => H.1.2.1 b z.1 z.2
  have e15 : ballP b → I 15 b = I 201 (13 + b) := fun z => H.2.1.2.2.1 b z.1 z.2
  simp only [false_and, and_false, true_or, or_true, false_or, or_false, true_and, and_true, true_implies, false_implies, implies_true, not_true_eq_false, not_false_eq_true, and_self, List.length_cons, List.length_nil, mNoCut_, mCat_n, mCat_I, mCat_L, mCat_R, mIsL_n, mIsL_I, mIsL_R, mIsL_L, Nat.reduceAdd, Nat.reduceSub, Nat.reduceLeDiff, Nat.reduceLT, Nat.reduceEqDiff, Nat.zero_le, Int.reduceEq, Int.reduceLT, Int.reduceLE, Int.reduceNeg, Int.reduceAdd, if_true, if_false, reduceIte, reduceCtorEq, Bool.false_eq_true, ne_eq, qCmp_0, qCmp_1, qCmp_2, qCmp_3, qCmp_4, qCmp_5, ib_0, ib_1, ib_2, lb_0, lb_1, lb_2, dv_0, dv_1, wq_ld_i, wq_ld_a, wq_icmp, wq_if, wq_get, mGet_0, mGet_1, mGet_2, mGet_3, wq_ret0, wq_ret1, wq_ret2, wq_ret3, wq_ret4, wq_thr, ldI1, wq_callS1_1, ldI2, ldR0, fk_10_0, fk_7_0, wq_callV2_0, mrg_0_, mGo_n, sfxX10_needHit_23, cutX10_needHit_23, sfxX10_needHit_34, cutX10_needHit_34, kX10_needHit_34, kX10_needHit_23, kX10_needHit_0, sk_0, al_0, rf_0_0, sk_10, al_10, rf_10_0, sk_11, al_11, sk_102, al_102, SX10_needHit_0, SX10_needHit_1, shqI_, shqRI_, spX10_needBall, spX3_hitsOf, mrg, mrl, mSet_ap, ncast, Option.some.injEq, Option.getD_some]
  (try simp only [mrg, mrl] at *) <;> repeat' (first | (with_reducible assumption) | (with_reducible apply And.intro) | intro _)
  all_goals first | omega | exact h1 (by omega) | exact h2 (by omega) | skip
theorem ctrX10_needHit {l : Launch} (hst : l.stackTraces = false) (hT : mTxM l) : mCtr l calX10_needHit spX10_needHit :=
  mMet0 (T := TX10_needHit) (S := SX10_needHit) hst hT (by decide) okX10_needHit ⟨_, _, rfl, rfl⟩ (fun a => match a with
    | 0 => ctrX10_needBall hst hT
    | 1 => ctrX3_hitsOf hst hT
    | _ + 2 => mCtr_no) vcX10_needHit

def spX10_needThere : mSp := shRI (fun _ i f I Q => i = some 0 ∧ clsI I ∧ (0 ≤ f ∧ f < 9) ∧ (stT (I 201) f ≠ -1 → Q (.inl none) I) ∧ (stT (I 201) f = -1 → Q (.inr (mEx 2)) I))
def SX10_needThere : Nat → mSp := fun a => match a with
  | _ => fun _ _ _ _ => False
set_option maxRecDepth 100000 in
set_option maxHeartbeats 1000000 in
theorem vcX10_needThere (fl : Nat → Bool) (avs : List mV) (I : mM) (Q : mO → mM → Prop) (hsp : spX10_needThere fl avs I Q) : mVC0 SX10_needThere fl Q kX10_needThere 2 avs I := by
  obtain ⟨i, f, rfl, h0⟩ := shRI_inv hsp
  refine ⟨rfl, ?_⟩
  show mWp _ _ _ _ _ _ kX10_needThere_0 [some (mR i), some (mI f)] [] I
  obtain ⟨rfl, H, hf, h1, h2⟩ := h0
  have e20 : I 20 f = stT (I 201) f := (H.2.2.1.1 f hf.1 hf.2).1
  have sb := H.1.st f hf.1 hf.2
  simp only [false_and, and_false, true_or, or_true, false_or, or_false, true_and, and_true, true_implies, false_implies, implies_true, not_true_eq_false, not_false_eq_true, and_self, List.length_cons, List.length_nil, mNoCut_, mCat_n, mCat_I, mCat_L, mCat_R, mIsL_n, mIsL_I, mIsL_R, mIsL_L, Nat.reduceAdd, Nat.reduceSub, Nat.reduceLeDiff, Nat.reduceLT, Nat.reduceEqDiff, Nat.zero_le, Int.reduceEq, Int.reduceLT, Int.reduceLE, Int.reduceNeg, Int.reduceAdd, if_true, if_false, reduceIte, reduceCtorEq, Bool.false_eq_true, ne_eq, qCmp_0, qCmp_1, qCmp_2, qCmp_3, qCmp_4, qCmp_5, ib_0, ib_1, ib_2, lb_0, lb_1, lb_2, dv_0, dv_1, wq_ic, wq_ld_i, wq_ld_a, wq_icmp, wq_get, mGet_0, mGet_1, mGet_2, mGet_3, wq_ald, wq_ret0, wq_ret1, wq_ret2, wq_ret3, wq_ret4, wq_thr, ldR0, fk_10_0, fk_7_1, fk_6_0, ldI1, mrg_m1_, mGo_n, sfxX10_needThere_27, cutX10_needThere_27, kX10_needThere_27, kX10_needThere_0, sk_0, al_0, rf_0_0, sk_10, al_10, sk_12, al_12, rf_12_0, sk_20, al_20, sn_20, rf_10_1, ald_n, ro0_n, al_ro, mrg, mrl, mSet_ap, ncast, Option.some.injEq, e20]
  (try simp only [mrg, mrl] at *) <;> repeat' (first | (with_reducible assumption) | (with_reducible apply And.intro) | intro _)
  all_goals first | omega | exact h1 (by omega) | exact h2 (by omega) | skip
theorem ctrX10_needThere {l : Launch} (hst : l.stackTraces = false) (hT : mTxM l) : mCtr l calX10_needThere spX10_needThere :=
  mMet0 (T := TX10_needThere) (S := SX10_needThere) hst hT (by decide) okX10_needThere ⟨_, _, rfl, rfl⟩ (fun a => mCtr_no) vcX10_needThere

theorem bitN_get {t : Int → Int} (H : WFt t) {i : Int} (hi : 0 ≤ i ∧ i < 4) : ib 3 (ib 7 (bitN t 4) i) 1 = t (595 + 10 * i) := by
  have key : ∀ a : Nat, a < 2 → ∀ b : Nat, b < 2 → ∀ c : Nat, c < 2 → ∀ d : Nat, d < 2 → ib 3 (ib 7 ((a : Int) + 2 * b + 4 * c + 8 * d) 0) 1 = a ∧ ib 3 (ib 7 ((a : Int) + 2 * b + 4 * c + 8 * d) 1) 1 = b ∧ ib 3 (ib 7 ((a : Int) + 2 * b + 4 * c + 8 * d) 2) 1 = c ∧ ib 3 (ib 7 ((a : Int) + 2 * b + 4 * c + 8 * d) 3) 1 = d := by decide +kernel
  have h0 := (H.2.2.2.2.2.2 0 (by omega) (by omega)).1
  have h1 := (H.2.2.2.2.2.2 1 (by omega) (by omega)).1
  have h2 := (H.2.2.2.2.2.2 2 (by omega) (by omega)).1
  have h3 := (H.2.2.2.2.2.2 3 (by omega) (by omega)).1
  have e : bitN t 4 = ((t (595 + 10 * 0)).toNat : Int) + 2 * ((t (595 + 10 * 1)).toNat : Int) + 4 * ((t (595 + 10 * 2)).toNat : Int) + 8 * ((t (595 + 10 * 3)).toNat : Int) := by
    have e2 : bitN t 4 = 0 + 2 ^ 0 * t (595 + 10 * ((0 : Nat) : Int)) + 2 ^ 1 * t (595 + 10 * ((1 : Nat) : Int)) + 2 ^ 2 * t (595 + 10 * ((2 : Nat) : Int)) + 2 ^ 3 * t (595 + 10 * ((3 : Nat) : Int)) := rfl
    rw [e2]
    simp only [show ((0 : Nat) : Int) = 0 from rfl, show ((1 : Nat) : Int) = 1 from rfl, show ((2 : Nat) : Int) = 2 from rfl, show ((3 : Nat) : Int) = 3 from rfl]
    omega
  have k := key _ (show (t (595 + 10 * 0)).toNat < 2 by omega) _ (show (t (595 + 10 * 1)).toNat < 2 by omega) _ (show (t (595 + 10 * 2)).toNat < 2 by omega) _ (show (t (595 + 10 * 3)).toNat < 2 by omega)
  rw [← e] at k
  have e4 : i = 0 ∨ i = 1 ∨ i = 2 ∨ i = 3 := by omega
  rcases e4 with rfl | rfl | rfl | rfl
  · rw [k.1]
    omega
  · rw [k.2.1]
    omega
  · rw [k.2.2.1]
    omega
  · rw [k.2.2.2]
    omega
def spX10_needKept : mSp := shRI (fun _ i w I Q => i = some 0 ∧ clsI I ∧ wayP w ∧ (keptP (I 201) w → Q (.inl none) I) ∧ (¬ keptP (I 201) w → Q (.inr (mEx 2)) I))
def SX10_needKept : Nat → mSp := fun a => match a with
  | _ => fun _ _ _ _ => False
set_option maxRecDepth 100000 in
set_option maxHeartbeats 1000000 in
theorem vcX10_needKept (fl : Nat → Bool) (avs : List mV) (I : mM) (Q : mO → mM → Prop) (hsp : spX10_needKept fl avs I Q) : mVC0 SX10_needKept fl Q kX10_needKept 2 avs I := by
  obtain ⟨i, w, rfl, h0⟩ := shRI_inv hsp
  refine ⟨rfl, ?_⟩
  show mWp _ _ _ _ _ _ kX10_needKept_0 [some (mR i), some (mI w)] [] I
  obtain ⟨rfl, H, hw, h1, h2⟩ := h0
  have e6 : I 12 6 = bitN (I 201) 4 := H.2.2.1.2.2
  have eb := bitN_get H.1 hw
  have hk := (H.1.2.2.2.2.2.2 w hw.1 hw.2).1
  simp only [false_and, and_false, true_or, or_true, false_or, or_false, true_and, and_true, true_implies, false_implies, implies_true, not_true_eq_false, not_false_eq_true, and_self, List.length_cons, List.length_nil, mNoCut_, mCat_n, mCat_I, mCat_L, mCat_R, mIsL_n, mIsL_I, mIsL_R, mIsL_L, Nat.reduceAdd, Nat.reduceSub, Nat.reduceLeDiff, Nat.reduceLT, Nat.reduceEqDiff, Nat.zero_le, Int.reduceEq, Int.reduceLT, Int.reduceLE, Int.reduceNeg, Int.reduceAdd, if_true, if_false, reduceIte, reduceCtorEq, Bool.false_eq_true, ne_eq, qCmp_0, qCmp_1, qCmp_2, qCmp_3, qCmp_4, qCmp_5, ib_0, ib_1, ib_2, lb_0, lb_1, lb_2, dv_0, dv_1, wq_ic, wq_ld_i, wq_ld_a, wq_ib, wq_if, wq_get, mGet_0, mGet_1, mGet_2, mGet_3, wq_ret0, wq_ret1, wq_ret2, wq_ret3, wq_ret4, wq_thr, ldR0, fk_10_0, fk_7_1, fk_6_6, ldI1, mrg_1_, mrg_0_, mGo_n, sfxX10_needKept_28, cutX10_needKept_28, kX10_needKept_28, kX10_needKept_0, sk_0, al_0, rf_0_0, sk_10, al_10, sk_12, al_12, rf_10_1, mrg, mrl, mSet_ap, ncast, Option.some.injEq, e6, eb]
  (try simp only [mrg, mrl] at *) <;> repeat' (first | (with_reducible assumption) | (with_reducible apply And.intro) | intro _)
  all_goals first | omega | exact h1 (by omega) | exact h2 (by omega) | skip
theorem ctrX10_needKept {l : Launch} (hst : l.stackTraces = false) (hT : mTxM l) : mCtr l calX10_needKept spX10_needKept :=
  mMet0 (T := TX10_needKept) (S := SX10_needKept) hst hT (by decide) okX10_needKept ⟨_, _, rfl, rfl⟩ (fun a => mCtr_no) vcX10_needKept

def spX10_lay : mSp := shRI (fun _ i b I Q => i = some 0 ∧ clsI I ∧ ballP b ∧ ∀ J, Laid J (I 201) b → Q (.inl none) (fr 120 127 J I))
def SX10_lay : Nat → mSp := fun a => match a with
  | 0 => spX0_lay
  | _ => fun _ _ _ _ => False
theorem SX10_lay_0 : SX10_lay 0 = spX0_lay := Eq.trans rfl rfl
set_option maxRecDepth 100000 in
set_option maxHeartbeats 1000000 in
theorem vcX10_lay (fl : Nat → Bool) (avs : List mV) (I : mM) (Q : mO → mM → Prop) (hsp : spX10_lay fl avs I Q) : mVC0 SX10_lay fl Q kX10_lay 2 avs I := by
  obtain ⟨i, b, rfl, h0⟩ := shRI_inv hsp
  refine ⟨rfl, ?_⟩
  show mWp _ _ _ _ _ _ kX10_lay_0 [some (mR i), some (mI b)] [] I
  obtain ⟨rfl, H, hb, h⟩ := h0
  have e0 : I 13 0 = I 201 6 := H.2.2.2.1
  have e1 : I 13 1 = I 201 7 := H.2.2.2.2.1
  simp only [false_and, and_false, true_or, or_true, false_or, or_false, true_and, and_true, true_implies, false_implies, implies_true, not_true_eq_false, not_false_eq_true, and_self, List.length_cons, List.length_nil, mNoCut_, mCat_n, mCat_I, mCat_L, mCat_R, mIsL_n, mIsL_I, mIsL_R, mIsL_L, Nat.reduceAdd, Nat.reduceSub, Nat.reduceLeDiff, Nat.reduceLT, Nat.reduceEqDiff, Nat.zero_le, Int.reduceEq, Int.reduceLT, Int.reduceLE, Int.reduceNeg, Int.reduceAdd, if_true, if_false, reduceIte, reduceCtorEq, Bool.false_eq_true, ne_eq, qCmp_0, qCmp_1, qCmp_2, qCmp_3, qCmp_4, qCmp_5, ib_0, ib_1, ib_2, lb_0, lb_1, lb_2, dv_0, dv_1, wq_ld_i, wq_ld_a, wq_get, mGet_0, mGet_1, mGet_2, mGet_3, wq_ret0, wq_ret1, wq_ret2, wq_ret3, wq_ret4, ldR0, fk_10_4, fk_10_0, fk_7_0, ldI1, fk_7_2, fk_1_0, fk_1_1, wq_callV5_0, kX10_lay_0, sk_13, al_13, sk_0, al_0, rf_0_4, sk_120, al_120, rf_0_0, sk_10, al_10, rf_10_0, sk_11, al_11, rf_10_2, SX10_lay_0, shqRRIII_, spX0_lay, mrg, mrl, mSet_ap, ncast, Option.some.injEq]
  exact ⟨I 201, H.1, hb, H.2.1, e0, fun _ => e1, h⟩
theorem ctrX10_lay {l : Launch} (hst : l.stackTraces = false) (hT : mTxM l) : mCtr l calX10_lay spX10_lay :=
  mMet0 (T := TX10_lay) (S := SX10_lay) hst hT (by decide) okX10_lay ⟨_, _, rfl, rfl⟩ (fun a => match a with
    | 0 => ctrX0_lay hst hT
    | _ + 1 => mCtr_no) vcX10_lay

def spX10_weighNow : mSp := shRII (fun _ i b h I Q => i = some 0 ∧ clsI I ∧ mrg b ∧ mrg h ∧ (¬ hitP (I 201) b h → Q (.inr (mEx 0)) I) ∧ (hitP (I 201) b h → ∀ J J2 : mM, Laid J (I 201) b → J2 130 3 = ctS (I 201) (I 20) b h → J2 130 4 = chS (I 201) (I 20) b h → J2 130 5 = woS (I 201) (I 20) b h (ctS (I 201) (I 20) b h) → J2 130 6 = spS (I 201) (I 20) b h (ctS (I 201) (I 20) b h) → J2 130 7 = rnS (I 201) (I 20) b h (ctS (I 201) (I 20) b h) → J2 130 8 = coS (I 201) (I 20) b h → Q (.inl none) (fr 130 130 J2 (fr 120 127 J I))))
def SX10_weighNow : Nat → mSp := fun a => match a with
  | 0 => spX10_needHit
  | 1 => spX10_lay
  | 2 => spX9_weigh
  | _ => fun _ _ _ _ => False
theorem SX10_weighNow_0 : SX10_weighNow 0 = spX10_needHit := Eq.trans rfl rfl
theorem SX10_weighNow_1 : SX10_weighNow 1 = spX10_lay := Eq.trans rfl rfl
theorem SX10_weighNow_2 : SX10_weighNow 2 = spX9_weigh := Eq.trans rfl rfl
set_option maxRecDepth 100000 in
set_option maxHeartbeats 1000000 in
theorem vcX10_weighNow (fl : Nat → Bool) (avs : List mV) (I : mM) (Q : mO → mM → Prop) (hsp : spX10_weighNow fl avs I Q) : mVC0 SX10_weighNow fl Q kX10_weighNow 3 avs I := by
  obtain ⟨i, b, hh, rfl, h0⟩ := shRII_inv hsp
  refine ⟨rfl, ?_⟩
  show mWp _ _ _ _ _ _ kX10_weighNow_0 [some (mR i), some (mI b), some (mI hh)] [] I
  obtain ⟨rfl, H, hb, hh1, h1, h2⟩ := h0
  simp only [false_and, and_false, true_or, or_true, false_or, or_false, true_and, and_true, true_implies, false_implies, implies_true, not_true_eq_false, not_false_eq_true, and_self, List.length_cons, List.length_nil, mNoCut_, mCat_n, mCat_I, mCat_L, mCat_R, mIsL_n, mIsL_I, mIsL_R, mIsL_L, Nat.reduceAdd, Nat.reduceSub, Nat.reduceLeDiff, Nat.reduceLT, Nat.reduceEqDiff, Nat.zero_le, Int.reduceEq, Int.reduceLT, Int.reduceLE, Int.reduceNeg, Int.reduceAdd, if_true, if_false, reduceIte, reduceCtorEq, Bool.false_eq_true, ne_eq, qCmp_0, qCmp_1, qCmp_2, qCmp_3, qCmp_4, qCmp_5, ib_0, ib_1, ib_2, lb_0, lb_1, lb_2, dv_0, dv_1, wq_ld_i, wq_ld_a, wq_get, mGet_0, mGet_1, mGet_2, mGet_3, wq_ret0, wq_ret1, wq_ret2, wq_ret3, wq_ret4, ldR0, ldI1, ldI2, wq_callV3_0, wq_callV2_0, fk_10_5, fk_10_0, fk_7_1, fk_6_0, kX10_weighNow_0, sk_0, al_0, rf_0_5, sk_130, al_130, rf_0_0, sk_10, al_10, sk_12, al_12, rf_12_0, sk_20, al_20, sn_20, rf_10_1, SX10_weighNow_0, SX10_weighNow_1, SX10_weighNow_2, shqRII_, shqRI_, shqRIR_, spX10_needHit, spX10_lay, spX9_weigh, mrg, mrl, mSet_ap, ncast, Option.some.injEq, Option.getD_some, fr_ne]
  refine ⟨H, hb, hh1, fun z => ⟨H, ⟨z.1, z.2.1⟩, fun J hJ => ⟨Or.inr (Or.inl rfl), H.b20, I 201, b, H.ctx ⟨z.1, z.2.1⟩ hJ, ⟨z.2.2.1, z.2.2.2⟩, fun J2 q3 q4 q5 q6 q7 q8 => h2 z J J2 hJ q3 q4 q5 q6 q7 q8⟩⟩, h1⟩
theorem ctrX10_weighNow {l : Launch} (hst : l.stackTraces = false) (hT : mTxM l) : mCtr l calX10_weighNow spX10_weighNow :=
  mMet0 (T := TX10_weighNow) (S := SX10_weighNow) hst hT (by decide) okX10_weighNow ⟨_, _, rfl, rfl⟩ (fun a => match a with
    | 0 => ctrX10_needHit hst hT
    | 1 => ctrX10_lay hst hT
    | 2 => ctrX9_weigh hst hT
    | _ + 3 => mCtr_no) vcX10_weighNow

theorem clsI.cat {I : mM} (H : clsI I) {b h : Int} (z : hitP (I 201) b h) : ctS (I 201) (I 20) b h = catcherT (stT (I 201)) (pcT (I 201)) (cellT (I 201) b h) (tickT (I 201) b h) (airT (I 201) b h) (stepsT (I 201) b h) ∧ chS (I 201) (I 20) b h = caughtT (I 201) b h ∧ woS (I 201) (I 20) b h (ctS (I 201) (I 20) b h) = stopperT (I 201) b h ∧ spS (I 201) (I 20) b h (ctS (I 201) (I 20) b h) = stopsT (I 201) b h ∧ rnS (I 201) (I 20) b h (ctS (I 201) (I 20) b h) = runsT (I 201) b h ∧ coS (I 201) (I 20) b h = costT (I 201) b h := by
  have hn := H.1.2.1 b z.1 z.2.1
  have hb : 0 ≤ b ∧ b < 6 := ⟨z.1, z.2.1⟩
  have hh : 0 ≤ h ∧ h < 8 := ⟨z.2.2.1, by have := z.2.2.2; omega⟩
  have e := H.s20
  have a1 := ctS_eq H.1 (I 20) hb hh
  have a2 := chS_eq H.1 (I 20) hb hh
  have a3 := stopperS_eq H.1 (I 20) hb hh
  have a4 := stopsS_eq H.1 (I 20) hb hh
  have a5 := runsS_eq H.1 (I 20) hb hh
  have a6 := coS_eq H.1 (I 20) hb hh
  rw [e] at a1 a2 a3 a4 a5 a6
  exact ⟨a1.symm, a2.symm, a3.symm, a4.symm, a5.symm, a6.symm⟩
end SPC7
