section SPC34
def sbT (x : Int) : Int := if x < 128 then x else x - 256
def tpC (I : mM) (B : Int → Int) (n : Int) : Prop := I 100 5 = n ∧ (0 ≤ n ∧ n ≤ 800) ∧ (∀ j : Int, 0 ≤ j → j < 800 → I 101 j = sbT (B j) ∧ 0 ≤ B j ∧ B j ≤ 255)
def tkC (I : mM) (B : Int → Int) (n a : Int) : Prop := I 100 6 = enT B n a ∧ I 100 8 = bgT B n a ∧ I 100 7 = tkT B n a ∧ (tkT B n a = 2 → I 100 9 = vlT B n a) ∧ mrg (I 100 9)
def frC (I' I : mM) : Prop := (∀ i, i ≠ 100 → I' i = I i) ∧ (∀ p : Int, ¬ (6 ≤ p ∧ p ≤ 9) → I' 100 p = I 100 p)
theorem frC.refl (I : mM) : frC I I := ⟨fun _ _ => rfl, fun _ _ => rfl⟩
theorem frC.set {I' I : mM} (h : frC I' I) {p : Int} (hp : 6 ≤ p ∧ p ≤ 9) (v : Int) : frC (mSet I' 100 p v) I := ⟨fun i hi => by rw [set_ne hi]; exact h.1 i hi, fun q hq => by rw [set_nq (by omega)]; exact h.2 q hq⟩
theorem sb_bd {x : Int} (h : 0 ≤ x ∧ x ≤ 255) : -128 ≤ sbT x ∧ sbT x ≤ 127 ∧ (letP (sbT x) ↔ letP x) ∧ (digP (sbT x) ↔ digP x) ∧ (blkP (sbT x) ↔ blkP x) ∧ (sbT x = 59 ↔ x = 59) ∧ (digP x → sbT x = x) := by
  unfold sbT
  split <;> refine ⟨by omega, by omega, ⟨fun h => by omega, fun h => by omega⟩, ⟨fun h => by omega, fun h => by omega⟩, ⟨fun h => by omega, fun h => by omega⟩, ⟨fun h => by omega, fun h => by omega⟩, fun h => by omega⟩
/-- the sort of a sign -/
def soT (c : Int) : Int := if letP c then 1 else if digP c then 2 else if c = 59 then 3 else 4
def spX5_signAt : mSp := shRI (fun _ i k I Q => i = some 100 ∧ (0 ≤ k ∧ k ≤ 900) ∧ mrg (I 100 5) ∧ (I 100 5 ≤ 800) ∧ (k < I 100 5 → Q (.inl (some (mI (I 101 k)))) I) ∧ (¬ k < I 100 5 → Q (.inl (some (mI 0))) I))
def SX5_signAt : Nat → mSp := fun a => match a with
  | _ => fun _ _ _ _ => False
set_option maxRecDepth 100000 in
set_option maxHeartbeats 1000000 in
theorem vcX5_signAt (fl : Nat → Bool) (avs : List mV) (I : mM) (Q : mO → mM → Prop) (hsp : spX5_signAt fl avs I Q) : mVC0 SX5_signAt fl Q kX5_signAt 2 avs I := by
  obtain ⟨i, k, rfl, h0⟩ := shRI_inv hsp
  refine ⟨rfl, ?_⟩
  show mWp _ _ _ _ _ _ kX5_signAt_0 [some (mR i), some (mI k)] [] I
  obtain ⟨rfl, hk, h5, h8, h1, h2⟩ := h0
  simp only [false_and, and_false, true_or, or_true, false_or, or_false, true_and, and_true, true_implies, false_implies, implies_true, not_true_eq_false, not_false_eq_true, and_self, List.length_cons, List.length_nil, mNoCut_, mCat_n, mCat_I, mCat_L, mCat_R, mIsL_n, mIsL_I, mIsL_R, mIsL_L, Nat.reduceAdd, Nat.reduceSub, Nat.reduceLeDiff, Nat.reduceLT, Nat.reduceEqDiff, Nat.zero_le, Int.reduceEq, Int.reduceLT, Int.reduceLE, Int.reduceNeg, Int.reduceAdd, if_true, if_false, reduceIte, reduceCtorEq, Bool.false_eq_true, ne_eq, qCmp_0, qCmp_1, qCmp_2, qCmp_3, qCmp_4, qCmp_5, ib_0, ib_1, ib_2, lb_0, lb_1, lb_2, dv_0, dv_1, wq_ic, wq_ld_i, wq_ld_a, wq_icmp, wq_if, wq_goto, wq_get, mGet_0, mGet_1, mGet_2, mGet_3, wq_ald, wq_ret0, wq_ret1, wq_ret2, wq_ret3, wq_ret4, ldI1, ldR0, fk_5_5, mrg_800_, fk_5_0, mrg_0_, mGo_n, sfxX5_signAt_28, cutX5_signAt_28, sfxX5_signAt_29, cutX5_signAt_29, kX5_signAt_29, kX5_signAt_28, kX5_signAt_0, sk_100, al_100, rf_100_0, sk_101, al_101, sn_101, ald_n, ro0_n, al_ro, mrg, mrl, mSet_ap, ncast, Option.some.injEq]
  (try simp only [mrg, mrl] at *) <;> repeat' (first | (with_reducible assumption) | (with_reducible apply And.intro) | intro _)
  all_goals first | omega | exact h1 (by omega) | exact h2 (by omega) | skip
theorem ctrX5_signAt {l : Launch} (hst : l.stackTraces = false) (hT : mTxM l) : mCtr l calX5_signAt spX5_signAt :=
  mMet0 (T := TX5_signAt) (S := SX5_signAt) hst hT (by decide) okX5_signAt ⟨_, _, rfl, rfl⟩ (fun a => mCtr_no) vcX5_signAt

def spX5_isBlank : mSp := shI (fun _ c I Q => mrg c ∧ (blkP c → Q (.inl (some (mI 1))) I) ∧ (¬ blkP c → Q (.inl (some (mI 0))) I))
def SX5_isBlank : Nat → mSp := fun a => match a with
  | _ => fun _ _ _ _ => False
set_option maxRecDepth 100000 in
set_option maxHeartbeats 1000000 in
theorem vcX5_isBlank (fl : Nat → Bool) (avs : List mV) (I : mM) (Q : mO → mM → Prop) (hsp : spX5_isBlank fl avs I Q) : mVC0 SX5_isBlank fl Q kX5_isBlank 1 avs I := by
  obtain ⟨c, rfl, h0⟩ := shI_inv hsp
  refine ⟨rfl, ?_⟩
  show mWp _ _ _ _ _ _ kX5_isBlank_0 [some (mI c)] [] I
  obtain ⟨hc, h1, h2⟩ := h0
  simp only [false_and, and_false, true_or, or_true, false_or, or_false, true_and, and_true, true_implies, false_implies, implies_true, not_true_eq_false, not_false_eq_true, and_self, List.length_cons, List.length_nil, mNoCut_, mCat_n, mCat_I, mCat_L, mCat_R, mIsL_n, mIsL_I, mIsL_R, mIsL_L, Nat.reduceAdd, Nat.reduceSub, Nat.reduceLeDiff, Nat.reduceLT, Nat.reduceEqDiff, Nat.zero_le, Int.reduceEq, Int.reduceLT, Int.reduceLE, Int.reduceNeg, Int.reduceAdd, if_true, if_false, reduceIte, reduceCtorEq, Bool.false_eq_true, ne_eq, qCmp_0, qCmp_1, qCmp_2, qCmp_3, qCmp_4, qCmp_5, ib_0, ib_1, ib_2, lb_0, lb_1, lb_2, dv_0, dv_1, wq_ic, wq_ld_i, wq_icmp, wq_goto, wq_ret0, wq_ret1, wq_ret2, wq_ret3, wq_ret4, ldI0, mrg_10_, mrg_32_, mrg_1_, mrg_0_, mGo_n, sfxX5_isBlank_12, cutX5_isBlank_12, sfxX5_isBlank_16, cutX5_isBlank_16, sfxX5_isBlank_17, cutX5_isBlank_17, kX5_isBlank_17, kX5_isBlank_16, kX5_isBlank_12, kX5_isBlank_0, mrg, mrl, mSet_ap, ncast, Option.some.injEq]
  (try simp only [mrg, mrl] at *) <;> repeat' (first | (with_reducible assumption) | (with_reducible apply And.intro) | intro _)
  all_goals first | omega | exact h1 (by omega) | exact h2 (by omega) | skip
theorem ctrX5_isBlank {l : Launch} (hst : l.stackTraces = false) (hT : mTxM l) : mCtr l calX5_isBlank spX5_isBlank :=
  mMet0 (T := TX5_isBlank) (S := SX5_isBlank) hst hT (by decide) okX5_isBlank ⟨_, _, rfl, rfl⟩ (fun a => mCtr_no) vcX5_isBlank

def spX5_sortOf : mSp := shI (fun _ c I Q => mrg c ∧ Q (.inl (some (mI (soT c)))) I)
def SX5_sortOf : Nat → mSp := fun a => match a with
  | _ => fun _ _ _ _ => False
set_option maxRecDepth 100000 in
set_option maxHeartbeats 1000000 in
theorem vcX5_sortOf (fl : Nat → Bool) (avs : List mV) (I : mM) (Q : mO → mM → Prop) (hsp : spX5_sortOf fl avs I Q) : mVC0 SX5_sortOf fl Q kX5_sortOf 1 avs I := by
  obtain ⟨c, rfl, h0⟩ := shI_inv hsp
  refine ⟨rfl, ?_⟩
  show mWp _ _ _ _ _ _ kX5_sortOf_0 [some (mI c)] [] I
  obtain ⟨hc, h⟩ := h0
  have e1 : letP c → soT c = 1 := fun w => if_pos w
  have e2 : ¬ letP c → digP c → soT c = 2 := fun w w2 => by unfold soT; rw [if_neg w, if_pos w2]
  have e3 : ¬ letP c → ¬ digP c → c = 59 → soT c = 3 := fun w w2 w3 => by unfold soT; rw [if_neg w, if_neg w2, if_pos w3]
  have e4 : ¬ letP c → ¬ digP c → c ≠ 59 → soT c = 4 := fun w w2 w3 => by unfold soT; rw [if_neg w, if_neg w2, if_neg w3]
  have q1 : ∀ _ : Unit, letP c → Q (.inl (some (mI 1))) I := fun _ w => by rw [e1 w] at h; exact h
  have q2 : ∀ _ : Unit, ¬ letP c → digP c → Q (.inl (some (mI 2))) I := fun _ w w2 => by rw [e2 w w2] at h; exact h
  have q3 : ∀ _ : Unit, ¬ letP c → ¬ digP c → c = 59 → Q (.inl (some (mI 3))) I := fun _ w w2 w3 => by rw [e3 w w2 w3] at h; exact h
  have q4 : ∀ _ : Unit, ¬ letP c → ¬ digP c → c ≠ 59 → Q (.inl (some (mI 4))) I := fun _ w w2 w3 => by rw [e4 w w2 w3] at h; exact h
  clear h e1 e2 e3 e4
  simp only [false_and, and_false, true_or, or_true, false_or, or_false, true_and, and_true, true_implies, false_implies, implies_true, not_true_eq_false, not_false_eq_true, and_self, List.length_cons, List.length_nil, mNoCut_, mCat_n, mCat_I, mCat_L, mCat_R, mIsL_n, mIsL_I, mIsL_R, mIsL_L, Nat.reduceAdd, Nat.reduceSub, Nat.reduceLeDiff, Nat.reduceLT, Nat.reduceEqDiff, Nat.zero_le, Int.reduceEq, Int.reduceLT, Int.reduceLE, Int.reduceNeg, Int.reduceAdd, if_true, if_false, reduceIte, reduceCtorEq, Bool.false_eq_true, ne_eq, qCmp_0, qCmp_1, qCmp_2, qCmp_3, qCmp_4, qCmp_5, ib_0, ib_1, ib_2, lb_0, lb_1, lb_2, dv_0, dv_1, wq_ic, wq_ld_i, wq_icmp, wq_goto, wq_ret0, wq_ret1, wq_ret2, wq_ret3, wq_ret4, ldI0, mrg_97_, mrg_122_, mrg_1_, mrg_48_, mrg_57_, mrg_2_, mrg_59_, mrg_3_, mrg_4_, mGo_n, sfxX5_sortOf_14, cutX5_sortOf_14, sfxX5_sortOf_28, cutX5_sortOf_28, sfxX5_sortOf_38, cutX5_sortOf_38, sfxX5_sortOf_39, cutX5_sortOf_39, kX5_sortOf_39, kX5_sortOf_38, kX5_sortOf_28, kX5_sortOf_14, kX5_sortOf_0, mrg, mrl, mSet_ap, ncast, Option.some.injEq]
  (try simp only [mrg, mrl] at *) <;> repeat' (first | (with_reducible assumption) | (with_reducible apply And.intro) | intro _)
  all_goals first | omega | exact q1 () (by omega) | exact q2 () (by omega) (by omega) | exact q3 () (by omega) (by omega) (by omega) | exact q4 () (by omega) (by omega) (by omega) | skip
theorem ctrX5_sortOf {l : Launch} (hst : l.stackTraces = false) (hT : mTxM l) : mCtr l calX5_sortOf spX5_sortOf :=
  mMet0 (T := TX5_sortOf) (S := SX5_sortOf) hst hT (by decide) okX5_sortOf ⟨_, _, rfl, rfl⟩ (fun a => mCtr_no) vcX5_sortOf

/-- where the scan of a token stands: behind x signs of it -/
def scP (I : mM) (B : Int → Int) (N s x go : Int) : Prop := I 100 6 = x ∧ I 100 8 = s ∧ (s ≤ x ∧ x ≤ N) ∧ (go = 0 ∨ go = 1) ∧
  ((N ≤ s ∧ x = s ∧ go = 0 ∧ I 100 7 = 0 ∧ I 100 9 = 0) ∨ (s < N ∧ ((letP (B s) ∧ I 100 7 = 1 ∧ I 100 9 = 0 ∧ scT letP B N x = scT letP B N s ∧ (go = 1 ↔ x < N ∧ letP (B x))) ∨ (digP (B s) ∧ I 100 7 = 2 ∧ I 100 9 = vaN B s (x - s).toNat ∧ scT digP B N x = scT digP B N s ∧ (∀ j : Int, s ≤ j → j < x → digP (B j)) ∧ (go = 1 ↔ x < N ∧ digP (B x))) ∨ (¬ letP (B s) ∧ ¬ digP (B s) ∧ I 100 7 = (if B s = 59 then 3 else 4) ∧ I 100 9 = 0 ∧ ((x = s ∧ go = 1) ∨ (x = s + 1 ∧ go = 0))))))
theorem so_1 {x : Int} (h : 0 ≤ x ∧ x ≤ 255) : (soT (sbT x) = 1 ↔ letP x) ∧ (soT (sbT x) = 2 ↔ digP x) ∧ soT (sbT x) = (if letP x then 1 else if digP x then 2 else if x = 59 then 3 else 4) := by
  obtain ⟨s1, s2, s3, s4, s5, s6, s7⟩ := sb_bd h
  have e : soT (sbT x) = (if letP x then 1 else if digP x then 2 else if x = 59 then 3 else 4) := by
    unfold soT
    by_cases y1 : letP x
    · rw [if_pos (s3.2 y1), if_pos y1]
    · rw [if_neg (fun w => y1 (s3.1 w)), if_neg y1]
      by_cases y2 : digP x
      · rw [if_pos (s4.2 y2), if_pos y2]
      · rw [if_neg (fun w => y2 (s4.1 w)), if_neg y2]
        by_cases y3 : x = 59
        · rw [if_pos (s6.2 y3), if_pos y3]
        · rw [if_neg (fun w => y3 (s6.1 w)), if_neg y3]
  refine ⟨?_, ?_, e⟩
  · rw [e]
    constructor
    · intro w
      split at w
      · assumption
      · split at w
        · omega
        · split at w <;> omega
    · intro w
      exact if_pos w
  · rw [e]
    constructor
    · intro w
      split at w
      · omega
      · split at w
        · assumption
        · split at w <;> omega
    · intro w
      rw [if_neg (by omega), if_pos w]
theorem scP.let {I : mM} {B : Int → Int} {N s x g : Int} (h6 : I 100 6 = x) (h8 : I 100 8 = s) (hx : s ≤ x ∧ x < N) (hs : letP (B s)) (h7 : I 100 7 = 1) (h9 : I 100 9 = 0) (he : scT letP B N x = scT letP B N s) (hl : letP (B x)) (hg : g = 0 ∨ g = 1) (hgo : g = 1 ↔ x + 1 < N ∧ letP (B (x + 1))) : scP (mSet I 100 6 (x + 1)) B N s (x + 1) g := by
  have ss := scT_s letP B hx.2
  rw [if_pos hl] at ss
  exact ⟨set_eq, by rw [set_nq (by decide)]; exact h8, ⟨by omega, by omega⟩, hg, Or.inr ⟨by omega, Or.inl ⟨hs, by rw [set_nq (by decide)]; exact h7, by rw [set_nq (by decide)]; exact h9, by rw [← he]; exact ss.symm, hgo⟩⟩⟩
theorem scP.dig {I : mM} {B : Int → Int} {N s x g : Int} (h6 : I 100 6 = x + 1) (h8 : I 100 8 = s) (hx : s ≤ x ∧ x < N) (hs : digP (B s)) (h7 : I 100 7 = 2) (h9 : I 100 9 = vaN B s ((x - s).toNat + 1)) (he : scT digP B N x = scT digP B N s) (hd : ∀ j : Int, s ≤ j → j < x → digP (B j)) (hl : digP (B x)) (hg : g = 0 ∨ g = 1) (hgo : g = 1 ↔ x + 1 < N ∧ digP (B (x + 1))) : scP I B N s (x + 1) g := by
  have ss := scT_s digP B hx.2
  rw [if_pos hl] at ss
  refine ⟨h6, h8, ⟨by omega, by omega⟩, hg, Or.inr ⟨by omega, Or.inr (Or.inl ⟨hs, h7, by rw [h9, show (x + 1 - s).toNat = (x - s).toNat + 1 by omega], by rw [← he]; exact ss.symm, fun j j0 j1 => ?_, hgo⟩)⟩⟩
  by_cases e : j = x
  · rw [e]; exact hl
  · exact hd j j0 (by omega)
def spX5_advance : mSp := shR (fun _ i I Q => i = some 100 ∧ ∃ B N a, tpC I B N ∧ I 100 6 = a ∧ (0 ≤ a ∧ a ≤ N) ∧ ∀ I' : mM, frC I' I → tkC I' B N a → Q (.inl none) I')
def SX5_advance : Nat → mSp := fun a => match a with
  | 0 => spX5_signAt
  | 1 => spX5_isBlank
  | 2 => spX5_sortOf
  | _ => fun _ _ _ _ => False
theorem SX5_advance_0 : SX5_advance 0 = spX5_signAt := Eq.trans rfl rfl
theorem SX5_advance_1 : SX5_advance 1 = spX5_isBlank := Eq.trans rfl rfl
theorem SX5_advance_2 : SX5_advance 2 = spX5_sortOf := Eq.trans rfl rfl
theorem cutsX5_advance {t : Nat} {bs : List Bool} (h : cutX5_advance t = some bs) : (t = 0 ∧ bs = [true, false]) ∨ (t = 98 ∧ bs = [true, true]) := by
  unfold cutX5_advance at h
  simp only [mLk] at h
  by_cases h0 : 0 = t
  · subst h0
    simp at h
    exact Or.inl ⟨rfl, h.symm⟩
  rw [if_neg h0] at h
  by_cases h1 : 98 = t
  · subst h1
    simp at h
    exact Or.inr (⟨rfl, h.symm⟩)
  rw [if_neg h1] at h
  cases h
set_option maxRecDepth 100000 in
set_option maxHeartbeats 1000000 in
theorem vcX5_advance (fl : Nat → Bool) (avs : List mV) (I : mM) (Q : mO → mM → Prop) (hsp : spX5_advance fl avs I Q) : mVC SX5_advance fl Q kX5_advance cutX5_advance 2 avs I := by
  obtain ⟨i, rfl, h0⟩ := shR_inv hsp
  obtain ⟨rfl, B, N, a, hT, ha, han, h⟩ := h0
  have t5 := hT.1
  have t8 := hT.2.1
  have tb := hT.2.2
  have bb := bg_bd B han.2
  refine ⟨rfl, (fun m pc lv st I1 => st = [] ∧ frC I1 I ∧ (if pc = 0 then lv = [some (mR (some 100)), none] ∧ ∃ x : Int, I1 100 6 = x ∧ (a ≤ x ∧ x ≤ N) ∧ m = (3000 - x).toNat ∧ bgT B N x = bgT B N a else ∃ x go : Int, lv = [some (mR (some 100)), some (mI go)] ∧ m = (1000 - x).toNat ∧ scP I1 B N (bgT B N a) x go)), ?_, ?_⟩
  · intro n t bs hbs lv st I1 hc
    rcases cutsX5_advance hbs with ⟨rfl, rfl⟩ | ⟨rfl, rfl⟩
    · skip
      rw [sfxX5_advance_0]
      obtain ⟨rfl, hF, rfl, x, hx, hxn, hm, hbg⟩ := hc
      have e5 := hF.2 5 (by decide)
      have e101 := hF.1 101 (by decide)
      rw [t5] at e5
      rcases Int.lt_or_le x N with z | z
      · have bx := tb x (by omega) (by omega)
        have ex : I1 101 x = sbT (B x) := by rw [e101]; exact bx.1
        have sb := sb_bd bx.2
        have so4 := (so_1 bx.2).2.2
        have sob : -2147483648 ≤ soT (sbT (B x)) ∧ soT (sbT (B x)) < 2147483648 := by
          rw [so4]
          repeat' split
          all_goals omega
        have ss := scT_s blkP B z
        by_cases y : blkP (B x)
        · rw [if_pos y] at ss
          have key : ∃ n', n' < n ∧ frC (mSet I1 100 6 (x + 1)) I ∧ ∃ x_1 : Int, x + 1 = x_1 ∧ (a ≤ x_1 ∧ x_1 ≤ N) ∧ n' = (3000 - x_1).toNat ∧ bgT B N x_1 = bgT B N a := ⟨(3000 - (x + 1)).toNat, by omega, hF.set (by decide) _, x + 1, rfl, by omega, rfl, by rw [← hbg]; exact ss.symm⟩
          clear h so4
          simp only [false_and, and_false, true_or, or_true, false_or, or_false, true_and, and_true, true_implies, false_implies, implies_true, not_true_eq_false, not_false_eq_true, and_self, List.length_cons, List.length_nil, mNoCut_, mCat_n, mCat_I, mCat_L, mCat_R, mIsL_n, mIsL_I, mIsL_R, mIsL_L, Nat.reduceAdd, Nat.reduceSub, Nat.reduceLeDiff, Nat.reduceLT, Nat.reduceEqDiff, Nat.zero_le, Int.reduceEq, Int.reduceLT, Int.reduceLE, Int.reduceNeg, Int.reduceAdd, if_true, if_false, reduceIte, reduceCtorEq, Bool.false_eq_true, ne_eq, qCmp_0, qCmp_1, qCmp_2, qCmp_3, qCmp_4, qCmp_5, ib_0, ib_1, ib_2, lb_0, lb_1, lb_2, dv_0, dv_1, wq_ic, wq_ld_i, wq_ld_a, wq_st_i, wq_ib, wq_icmp, wq_if, wq_goto, wq_get, mGet_0, mGet_1, mGet_2, mGet_3, wq_putI, wq_putL, wq_dupI, wq_dupR, dup_I, dup_R, wq_ret0, wq_ret1, wq_ret2, wq_ret3, wq_ret4, ldR0, fk_5_6, fk_5_5, wq_callV2_0, wq_callS1_1, mrg_1_, fk_5_8, mrg_0_, fk_5_7, fk_5_9, stI1, ldI1, mrg_2_, mrg_3_, mrg_10_, mrg_48_, mrg_4_, mPut_s, mPut_I0, mPut_R0, mPut_L0, mPut_I1, mPut_R1, mPut_L1, mGo_n, sfxX5_advance_0, cutX5_advance_0, sfxX5_advance_38, cutX5_advance_38, sfxX5_advance_72, cutX5_advance_72, sfxX5_advance_73, cutX5_advance_73, sfxX5_advance_96, cutX5_advance_96, sfxX5_advance_97, cutX5_advance_97, sfxX5_advance_98, cutX5_advance_98, sfxX5_advance_157, cutX5_advance_157, sfxX5_advance_183, cutX5_advance_183, sfxX5_advance_205, cutX5_advance_205, sfxX5_advance_206, cutX5_advance_206, sfxX5_advance_210, cutX5_advance_210, sfxX5_advance_236, cutX5_advance_236, wq_cut, mGo_c, mMask_t, mMask_f, mMask_n, kX5_advance_236, kX5_advance_210, kX5_advance_206, kX5_advance_205, kX5_advance_183, kX5_advance_157, kX5_advance_98, kX5_advance_97, kX5_advance_96, kX5_advance_73, kX5_advance_72, kX5_advance_38, kX5_advance_0, sk_100, al_100, ↓SX5_advance_0, ↓SX5_advance_1, ↓SX5_advance_2, ↓shqRI_, ↓shqI_, ↓spX5_signAt, ↓spX5_isBlank, ↓spX5_sortOf, mrg, mrl, mSet_ap, ncast, Option.some.injEq, hx, e5, ex]
          (try simp only [mrg, mrl] at *) <;> repeat' (first | (with_reducible assumption) | (with_reducible apply And.intro) | intro _)
          all_goals first | omega | exact key | skip
        · rw [if_neg y] at ss
          have hs : bgT B N a = x := by rw [← hbg]; exact ss
          have key : ∃ n', n' < n ∧ frC (mSet (mSet (mSet I1 100 8 x) 100 7 (soT (sbT (B x)))) 100 9 0) I ∧ ∃ x_1 go : Int, [some (mR (some 100)), some (mI 1)] = [some (mR (some 100)), some (mI go)] ∧ n' = (1000 - x_1).toNat ∧ scP (mSet (mSet (mSet I1 100 8 x) 100 7 (soT (sbT (B x)))) 100 9 0) B N (bgT B N a) x_1 go := by
            refine ⟨(1000 - x).toNat, by omega, ((hF.set (by decide) _).set (by decide) _).set (by decide) _, x, 1, rfl, rfl, ?_⟩
            rw [hs]
            refine ⟨by rw [set_nq (by decide), set_nq (by decide), set_nq (by decide)]; exact hx, by rw [set_nq (by decide), set_nq (by decide), set_eq], ⟨by omega, by omega⟩, Or.inr rfl, Or.inr ⟨z, ?_⟩⟩
            have e7 : mSet (mSet (mSet I1 100 8 x) 100 7 (soT (sbT (B x)))) 100 9 0 100 7 = soT (sbT (B x)) := by rw [set_nq (by decide), set_eq]
            by_cases l : letP (B x)
            · exact Or.inl ⟨l, by rw [e7, so4, if_pos l], set_eq, rfl, fun _ => ⟨z, l⟩, fun _ => rfl⟩
            · by_cases d : digP (B x)
              · exact Or.inr (Or.inl ⟨d, by rw [e7, so4, if_neg l, if_pos d], by rw [set_eq, show (x - x).toNat = 0 by omega]; rfl, rfl, fun j j0 j1 => by omega, fun _ => ⟨z, d⟩, fun _ => rfl⟩)
              · exact Or.inr (Or.inr ⟨l, d, by rw [e7, so4, if_neg l, if_neg d], set_eq, Or.inl ⟨rfl, rfl⟩⟩)
          clear h so4
          simp only [false_and, and_false, true_or, or_true, false_or, or_false, true_and, and_true, true_implies, false_implies, implies_true, not_true_eq_false, not_false_eq_true, and_self, List.length_cons, List.length_nil, mNoCut_, mCat_n, mCat_I, mCat_L, mCat_R, mIsL_n, mIsL_I, mIsL_R, mIsL_L, Nat.reduceAdd, Nat.reduceSub, Nat.reduceLeDiff, Nat.reduceLT, Nat.reduceEqDiff, Nat.zero_le, Int.reduceEq, Int.reduceLT, Int.reduceLE, Int.reduceNeg, Int.reduceAdd, if_true, if_false, reduceIte, reduceCtorEq, Bool.false_eq_true, ne_eq, qCmp_0, qCmp_1, qCmp_2, qCmp_3, qCmp_4, qCmp_5, ib_0, ib_1, ib_2, lb_0, lb_1, lb_2, dv_0, dv_1, wq_ic, wq_ld_i, wq_ld_a, wq_st_i, wq_ib, wq_icmp, wq_if, wq_goto, wq_get, mGet_0, mGet_1, mGet_2, mGet_3, wq_putI, wq_putL, wq_dupI, wq_dupR, dup_I, dup_R, wq_ret0, wq_ret1, wq_ret2, wq_ret3, wq_ret4, ldR0, fk_5_6, fk_5_5, wq_callV2_0, wq_callS1_1, mrg_1_, fk_5_8, mrg_0_, fk_5_7, fk_5_9, stI1, ldI1, mrg_2_, mrg_3_, mrg_10_, mrg_48_, mrg_4_, mPut_s, mPut_I0, mPut_R0, mPut_L0, mPut_I1, mPut_R1, mPut_L1, mGo_n, sfxX5_advance_0, cutX5_advance_0, sfxX5_advance_38, cutX5_advance_38, sfxX5_advance_72, cutX5_advance_72, sfxX5_advance_73, cutX5_advance_73, sfxX5_advance_96, cutX5_advance_96, sfxX5_advance_97, cutX5_advance_97, sfxX5_advance_98, cutX5_advance_98, sfxX5_advance_157, cutX5_advance_157, sfxX5_advance_183, cutX5_advance_183, sfxX5_advance_205, cutX5_advance_205, sfxX5_advance_206, cutX5_advance_206, sfxX5_advance_210, cutX5_advance_210, sfxX5_advance_236, cutX5_advance_236, wq_cut, mGo_c, mMask_t, mMask_f, mMask_n, kX5_advance_236, kX5_advance_210, kX5_advance_206, kX5_advance_205, kX5_advance_183, kX5_advance_157, kX5_advance_98, kX5_advance_97, kX5_advance_96, kX5_advance_73, kX5_advance_72, kX5_advance_38, kX5_advance_0, sk_100, al_100, ↓SX5_advance_0, ↓SX5_advance_1, ↓SX5_advance_2, ↓shqRI_, ↓shqI_, ↓spX5_signAt, ↓spX5_isBlank, ↓spX5_sortOf, mrg, mrl, mSet_ap, ncast, Option.some.injEq, hx, e5, ex]
          (try simp only [mrg, mrl] at *) <;> repeat' (first | (with_reducible assumption) | (with_reducible apply And.intro) | intro _)
          all_goals first | omega | exact key | skip
      · have ss := scT_e blkP B z
        have hs : bgT B N a = x := by rw [← hbg]; exact ss
        have key : ∃ n', n' < n ∧ frC (mSet (mSet (mSet I1 100 8 x) 100 7 0) 100 9 0) I ∧ ∃ x_1 go : Int, [some (mR (some 100)), some (mI 0)] = [some (mR (some 100)), some (mI go)] ∧ n' = (1000 - x_1).toNat ∧ scP (mSet (mSet (mSet I1 100 8 x) 100 7 0) 100 9 0) B N (bgT B N a) x_1 go := by
          refine ⟨(1000 - x).toNat, by omega, ((hF.set (by decide) _).set (by decide) _).set (by decide) _, x, 0, rfl, rfl, ?_⟩
          rw [hs]
          exact ⟨by rw [set_nq (by decide), set_nq (by decide), set_nq (by decide)]; exact hx, by rw [set_nq (by decide), set_nq (by decide), set_eq], ⟨by omega, by omega⟩, Or.inl rfl, Or.inl ⟨z, rfl, rfl, by rw [set_nq (by decide), set_eq], set_eq⟩⟩
        clear h
        simp only [false_and, and_false, true_or, or_true, false_or, or_false, true_and, and_true, true_implies, false_implies, implies_true, not_true_eq_false, not_false_eq_true, and_self, List.length_cons, List.length_nil, mNoCut_, mCat_n, mCat_I, mCat_L, mCat_R, mIsL_n, mIsL_I, mIsL_R, mIsL_L, Nat.reduceAdd, Nat.reduceSub, Nat.reduceLeDiff, Nat.reduceLT, Nat.reduceEqDiff, Nat.zero_le, Int.reduceEq, Int.reduceLT, Int.reduceLE, Int.reduceNeg, Int.reduceAdd, if_true, if_false, reduceIte, reduceCtorEq, Bool.false_eq_true, ne_eq, qCmp_0, qCmp_1, qCmp_2, qCmp_3, qCmp_4, qCmp_5, ib_0, ib_1, ib_2, lb_0, lb_1, lb_2, dv_0, dv_1, wq_ic, wq_ld_i, wq_ld_a, wq_st_i, wq_ib, wq_icmp, wq_if, wq_goto, wq_get, mGet_0, mGet_1, mGet_2, mGet_3, wq_putI, wq_putL, wq_dupI, wq_dupR, dup_I, dup_R, wq_ret0, wq_ret1, wq_ret2, wq_ret3, wq_ret4, ldR0, fk_5_6, fk_5_5, wq_callV2_0, wq_callS1_1, mrg_1_, fk_5_8, mrg_0_, fk_5_7, fk_5_9, stI1, ldI1, mrg_2_, mrg_3_, mrg_10_, mrg_48_, mrg_4_, mPut_s, mPut_I0, mPut_R0, mPut_L0, mPut_I1, mPut_R1, mPut_L1, mGo_n, sfxX5_advance_0, cutX5_advance_0, sfxX5_advance_38, cutX5_advance_38, sfxX5_advance_72, cutX5_advance_72, sfxX5_advance_73, cutX5_advance_73, sfxX5_advance_96, cutX5_advance_96, sfxX5_advance_97, cutX5_advance_97, sfxX5_advance_98, cutX5_advance_98, sfxX5_advance_157, cutX5_advance_157, sfxX5_advance_183, cutX5_advance_183, sfxX5_advance_205, cutX5_advance_205, sfxX5_advance_206, cutX5_advance_206, sfxX5_advance_210, cutX5_advance_210, sfxX5_advance_236, cutX5_advance_236, wq_cut, mGo_c, mMask_t, mMask_f, mMask_n, kX5_advance_236, kX5_advance_210, kX5_advance_206, kX5_advance_205, kX5_advance_183, kX5_advance_157, kX5_advance_98, kX5_advance_97, kX5_advance_96, kX5_advance_73, kX5_advance_72, kX5_advance_38, kX5_advance_0, sk_100, al_100, ↓SX5_advance_0, ↓SX5_advance_1, ↓SX5_advance_2, ↓shqRI_, ↓shqI_, ↓spX5_signAt, ↓spX5_isBlank, ↓spX5_sortOf, mrg, mrl, mSet_ap, ncast, Option.some.injEq, hx, e5]
        (try simp only [mrg, mrl] at *) <;> repeat' (first | (with_reducible assumption) | (with_reducible apply And.intro) | intro _)
        all_goals first | omega | exact key | skip
    · skip
      rw [sfxX5_advance_98]
      obtain ⟨rfl, hF, x, go, rfl, hm, hS⟩ := hc
      obtain ⟨k6, k8, hsx, hgo, hc⟩ := hS
      have e5 := hF.2 5 (by decide)
      have e101 := hF.1 101 (by decide)
      rw [t5] at e5
      obtain ⟨s, hs⟩ : ∃ s, s = bgT B N a := ⟨_, rfl⟩
      have fT : ∀ M : mM, frC M I → M 100 6 = enT B N a → M 100 8 = s → M 100 7 = tkT B N a → (tkT B N a = 2 → M 100 9 = vlT B N a) → mrg (M 100 9) → Q (.inl none) M := fun M f q6 q8 q7 q9 q10 => h M f ⟨q6, by rw [q8, hs], q7, q9, q10⟩
      clear h
      have nx : ∀ g : Int, scP (mSet I1 100 6 (x + 1)) B N s (x + 1) g → x < N → ∃ n', n' < n ∧ frC (mSet I1 100 6 (x + 1)) I ∧ ∃ x_1 go : Int, [some (mR (some 100)), some (mI g)] = [some (mR (some 100)), some (mI go)] ∧ n' = (1000 - x_1).toNat ∧ scP (mSet I1 100 6 (x + 1)) B N s x_1 go := fun g q y => ⟨(1000 - (x + 1)).toNat, by omega, hF.set (by decide) _, x + 1, g, rfl, rfl, q⟩
      have ee : enT B N a = if N ≤ s then s else if letP (B s) then scT letP B N s else if digP (B s) then scT digP B N s else s + 1 := by rw [hs]; rfl
      have et : tkT B N a = if N ≤ s then 0 else if letP (B s) then 1 else if digP (B s) then (if 3 < scT digP B N s - s then 4 else 2) else if B s = 59 then 3 else 4 := by rw [hs]; rfl
      have ev : vlT B N a = vaN B s (scT digP B N s - s).toNat := by rw [hs]; rfl
      rw [← hs] at k8 hsx hc bb ⊢
      clear hs
      rcases hc with ⟨y1, y2, y3, k7, k9⟩ | ⟨y0, ⟨yl, k7, k9, he, hg⟩ | ⟨yd, k7, k9, he, hd, hg⟩ | ⟨n1, n2, k7, k9, hg⟩⟩
      · subst y3
        rw [if_pos y1] at ee et
        have fin := fT I1 hF (by rw [k6, y2, ee]) k8 (by rw [k7, et]) (fun w => by omega) ⟨by omega, by omega⟩
        clear fT nx ev ee et
        simp only [false_and, and_false, true_or, or_true, false_or, or_false, true_and, and_true, true_implies, false_implies, implies_true, not_true_eq_false, not_false_eq_true, and_self, List.length_cons, List.length_nil, mNoCut_, mCat_n, mCat_I, mCat_L, mCat_R, mIsL_n, mIsL_I, mIsL_R, mIsL_L, Nat.reduceAdd, Nat.reduceSub, Nat.reduceLeDiff, Nat.reduceLT, Nat.reduceEqDiff, Nat.zero_le, Int.reduceEq, Int.reduceLT, Int.reduceLE, Int.reduceNeg, Int.reduceAdd, if_true, if_false, reduceIte, reduceCtorEq, Bool.false_eq_true, ne_eq, qCmp_0, qCmp_1, qCmp_2, qCmp_3, qCmp_4, qCmp_5, ib_0, ib_1, ib_2, lb_0, lb_1, lb_2, dv_0, dv_1, wq_ic, wq_ld_i, wq_ld_a, wq_st_i, wq_ib, wq_icmp, wq_if, wq_goto, wq_get, mGet_0, mGet_1, mGet_2, mGet_3, wq_putI, wq_putL, wq_dupI, wq_dupR, dup_I, dup_R, wq_ret0, wq_ret1, wq_ret2, wq_ret3, wq_ret4, ldR0, fk_5_6, fk_5_5, wq_callV2_0, wq_callS1_1, mrg_1_, fk_5_8, mrg_0_, fk_5_7, fk_5_9, stI1, ldI1, mrg_2_, mrg_3_, mrg_10_, mrg_48_, mrg_4_, mPut_s, mPut_I0, mPut_R0, mPut_L0, mPut_I1, mPut_R1, mPut_L1, mGo_n, sfxX5_advance_0, cutX5_advance_0, sfxX5_advance_38, cutX5_advance_38, sfxX5_advance_72, cutX5_advance_72, sfxX5_advance_73, cutX5_advance_73, sfxX5_advance_96, cutX5_advance_96, sfxX5_advance_97, cutX5_advance_97, sfxX5_advance_98, cutX5_advance_98, sfxX5_advance_157, cutX5_advance_157, sfxX5_advance_183, cutX5_advance_183, sfxX5_advance_205, cutX5_advance_205, sfxX5_advance_206, cutX5_advance_206, sfxX5_advance_210, cutX5_advance_210, sfxX5_advance_236, cutX5_advance_236, wq_cut, mGo_c, mMask_t, mMask_f, mMask_n, kX5_advance_236, kX5_advance_210, kX5_advance_206, kX5_advance_205, kX5_advance_183, kX5_advance_157, kX5_advance_98, kX5_advance_97, kX5_advance_96, kX5_advance_73, kX5_advance_72, kX5_advance_38, kX5_advance_0, sk_100, al_100, ↓SX5_advance_0, ↓SX5_advance_1, ↓SX5_advance_2, ↓shqRI_, ↓shqI_, ↓spX5_signAt, ↓spX5_isBlank, ↓spX5_sortOf, mrg, mrl, mSet_ap, ncast, Option.some.injEq, k6, k8, e5, k7]
        (try simp only [mrg, mrl] at *) <;> repeat' (first | (with_reducible assumption) | (with_reducible apply And.intro) | intro _)
        all_goals first | omega | exact fin | skip
      · rw [if_neg (by omega), if_pos yl] at ee et
        have fin : ∀ _ : Unit, (go = 0 ∨ N ≤ x) → Q (.inl none) I1 := fun _ w => by
          have sx : scT letP B N x = x := by
            rcases Int.lt_or_le x N with z | z
            · have ss := scT_s letP B z
              rw [if_neg (fun q => by have := hg.2 ⟨z, q⟩; omega)] at ss
              exact ss
            · exact scT_e letP B z
          exact fT I1 hF (by rw [k6, ee, ← he, sx]) k8 (by rw [k7, et]) (fun w => by omega) ⟨by omega, by omega⟩
        have stp : ∀ (_ : Unit) (g : Int), go = 1 → (g = 0 ∨ g = 1) → (g = 1 ↔ x + 1 < N ∧ letP (B (x + 1))) → ∃ n', n' < n ∧ frC (mSet I1 100 6 (x + 1)) I ∧ ∃ x_1 go : Int, [some (mR (some 100)), some (mI g)] = [some (mR (some 100)), some (mI go)] ∧ n' = (1000 - x_1).toNat ∧ scP (mSet I1 100 6 (x + 1)) B N s x_1 go := fun _ g w1 w2 w3 => nx g (scP.let k6 k8 ⟨hsx.1, (hg.1 w1).1⟩ yl k7 k9 he (hg.1 w1).2 w2 w3) (hg.1 w1).1
        have hg1 : go = 1 → x < N := fun w => (hg.1 w).1
        clear fT nx ev ee et hg
        rcases Int.lt_or_le (x + 1) N with z | z
        · have bx := tb (x + 1) (by omega) (by omega)
          have ex : I1 101 (x + 1) = sbT (B (x + 1)) := by rw [e101]; exact bx.1
          have sb := sb_bd bx.2
          have so := (so_1 bx.2).1
          have so4 := (so_1 bx.2).2.2
          have sob : -2147483648 ≤ soT (sbT (B (x + 1))) ∧ soT (sbT (B (x + 1))) < 2147483648 := by
            rw [so4]
            repeat' split
            all_goals omega
          clear so4
          by_cases yy : letP (B (x + 1))
          · have s1 := so.2 yy
            simp only [false_and, and_false, true_or, or_true, false_or, or_false, true_and, and_true, true_implies, false_implies, implies_true, not_true_eq_false, not_false_eq_true, and_self, List.length_cons, List.length_nil, mNoCut_, mCat_n, mCat_I, mCat_L, mCat_R, mIsL_n, mIsL_I, mIsL_R, mIsL_L, Nat.reduceAdd, Nat.reduceSub, Nat.reduceLeDiff, Nat.reduceLT, Nat.reduceEqDiff, Nat.zero_le, Int.reduceEq, Int.reduceLT, Int.reduceLE, Int.reduceNeg, Int.reduceAdd, if_true, if_false, reduceIte, reduceCtorEq, Bool.false_eq_true, ne_eq, qCmp_0, qCmp_1, qCmp_2, qCmp_3, qCmp_4, qCmp_5, ib_0, ib_1, ib_2, lb_0, lb_1, lb_2, dv_0, dv_1, wq_ic, wq_ld_i, wq_ld_a, wq_st_i, wq_ib, wq_icmp, wq_if, wq_goto, wq_get, mGet_0, mGet_1, mGet_2, mGet_3, wq_putI, wq_putL, wq_dupI, wq_dupR, dup_I, dup_R, wq_ret0, wq_ret1, wq_ret2, wq_ret3, wq_ret4, ldR0, fk_5_6, fk_5_5, wq_callV2_0, wq_callS1_1, mrg_1_, fk_5_8, mrg_0_, fk_5_7, fk_5_9, stI1, ldI1, mrg_2_, mrg_3_, mrg_10_, mrg_48_, mrg_4_, mPut_s, mPut_I0, mPut_R0, mPut_L0, mPut_I1, mPut_R1, mPut_L1, mGo_n, sfxX5_advance_0, cutX5_advance_0, sfxX5_advance_38, cutX5_advance_38, sfxX5_advance_72, cutX5_advance_72, sfxX5_advance_73, cutX5_advance_73, sfxX5_advance_96, cutX5_advance_96, sfxX5_advance_97, cutX5_advance_97, sfxX5_advance_98, cutX5_advance_98, sfxX5_advance_157, cutX5_advance_157, sfxX5_advance_183, cutX5_advance_183, sfxX5_advance_205, cutX5_advance_205, sfxX5_advance_206, cutX5_advance_206, sfxX5_advance_210, cutX5_advance_210, sfxX5_advance_236, cutX5_advance_236, wq_cut, mGo_c, mMask_t, mMask_f, mMask_n, kX5_advance_236, kX5_advance_210, kX5_advance_206, kX5_advance_205, kX5_advance_183, kX5_advance_157, kX5_advance_98, kX5_advance_97, kX5_advance_96, kX5_advance_73, kX5_advance_72, kX5_advance_38, kX5_advance_0, sk_100, al_100, ↓SX5_advance_0, ↓SX5_advance_1, ↓SX5_advance_2, ↓shqRI_, ↓shqI_, ↓spX5_signAt, ↓spX5_isBlank, ↓spX5_sortOf, mrg, mrl, mSet_ap, ncast, Option.some.injEq, k6, k8, e5, k7, ex, s1]
            (try simp only [mrg, mrl] at *) <;> repeat' (first | (with_reducible assumption) | (with_reducible apply And.intro) | intro _)
            all_goals first | omega | exact fin () (by omega) | exact stp () 1 (by omega) (by omega) ⟨fun _ => ⟨z, yy⟩, fun _ => rfl⟩ | skip
          · have s1 : ¬ soT (sbT (B (x + 1))) = 1 := fun w => yy (so.1 w)
            simp only [false_and, and_false, true_or, or_true, false_or, or_false, true_and, and_true, true_implies, false_implies, implies_true, not_true_eq_false, not_false_eq_true, and_self, List.length_cons, List.length_nil, mNoCut_, mCat_n, mCat_I, mCat_L, mCat_R, mIsL_n, mIsL_I, mIsL_R, mIsL_L, Nat.reduceAdd, Nat.reduceSub, Nat.reduceLeDiff, Nat.reduceLT, Nat.reduceEqDiff, Nat.zero_le, Int.reduceEq, Int.reduceLT, Int.reduceLE, Int.reduceNeg, Int.reduceAdd, if_true, if_false, reduceIte, reduceCtorEq, Bool.false_eq_true, ne_eq, qCmp_0, qCmp_1, qCmp_2, qCmp_3, qCmp_4, qCmp_5, ib_0, ib_1, ib_2, lb_0, lb_1, lb_2, dv_0, dv_1, wq_ic, wq_ld_i, wq_ld_a, wq_st_i, wq_ib, wq_icmp, wq_if, wq_goto, wq_get, mGet_0, mGet_1, mGet_2, mGet_3, wq_putI, wq_putL, wq_dupI, wq_dupR, dup_I, dup_R, wq_ret0, wq_ret1, wq_ret2, wq_ret3, wq_ret4, ldR0, fk_5_6, fk_5_5, wq_callV2_0, wq_callS1_1, mrg_1_, fk_5_8, mrg_0_, fk_5_7, fk_5_9, stI1, ldI1, mrg_2_, mrg_3_, mrg_10_, mrg_48_, mrg_4_, mPut_s, mPut_I0, mPut_R0, mPut_L0, mPut_I1, mPut_R1, mPut_L1, mGo_n, sfxX5_advance_0, cutX5_advance_0, sfxX5_advance_38, cutX5_advance_38, sfxX5_advance_72, cutX5_advance_72, sfxX5_advance_73, cutX5_advance_73, sfxX5_advance_96, cutX5_advance_96, sfxX5_advance_97, cutX5_advance_97, sfxX5_advance_98, cutX5_advance_98, sfxX5_advance_157, cutX5_advance_157, sfxX5_advance_183, cutX5_advance_183, sfxX5_advance_205, cutX5_advance_205, sfxX5_advance_206, cutX5_advance_206, sfxX5_advance_210, cutX5_advance_210, sfxX5_advance_236, cutX5_advance_236, wq_cut, mGo_c, mMask_t, mMask_f, mMask_n, kX5_advance_236, kX5_advance_210, kX5_advance_206, kX5_advance_205, kX5_advance_183, kX5_advance_157, kX5_advance_98, kX5_advance_97, kX5_advance_96, kX5_advance_73, kX5_advance_72, kX5_advance_38, kX5_advance_0, sk_100, al_100, ↓SX5_advance_0, ↓SX5_advance_1, ↓SX5_advance_2, ↓shqRI_, ↓shqI_, ↓spX5_signAt, ↓spX5_isBlank, ↓spX5_sortOf, mrg, mrl, mSet_ap, ncast, Option.some.injEq, k6, k8, e5, k7, ex, s1]
            (try simp only [mrg, mrl] at *) <;> repeat' (first | (with_reducible assumption) | (with_reducible apply And.intro) | intro _)
            all_goals first | omega | exact fin () (by omega) | exact stp () 0 (by omega) (by omega) ⟨fun w => by omega, fun w => absurd w.2 yy⟩ | skip
        · have s0 : soT 0 = 4 := by decide
          simp only [false_and, and_false, true_or, or_true, false_or, or_false, true_and, and_true, true_implies, false_implies, implies_true, not_true_eq_false, not_false_eq_true, and_self, List.length_cons, List.length_nil, mNoCut_, mCat_n, mCat_I, mCat_L, mCat_R, mIsL_n, mIsL_I, mIsL_R, mIsL_L, Nat.reduceAdd, Nat.reduceSub, Nat.reduceLeDiff, Nat.reduceLT, Nat.reduceEqDiff, Nat.zero_le, Int.reduceEq, Int.reduceLT, Int.reduceLE, Int.reduceNeg, Int.reduceAdd, if_true, if_false, reduceIte, reduceCtorEq, Bool.false_eq_true, ne_eq, qCmp_0, qCmp_1, qCmp_2, qCmp_3, qCmp_4, qCmp_5, ib_0, ib_1, ib_2, lb_0, lb_1, lb_2, dv_0, dv_1, wq_ic, wq_ld_i, wq_ld_a, wq_st_i, wq_ib, wq_icmp, wq_if, wq_goto, wq_get, mGet_0, mGet_1, mGet_2, mGet_3, wq_putI, wq_putL, wq_dupI, wq_dupR, dup_I, dup_R, wq_ret0, wq_ret1, wq_ret2, wq_ret3, wq_ret4, ldR0, fk_5_6, fk_5_5, wq_callV2_0, wq_callS1_1, mrg_1_, fk_5_8, mrg_0_, fk_5_7, fk_5_9, stI1, ldI1, mrg_2_, mrg_3_, mrg_10_, mrg_48_, mrg_4_, mPut_s, mPut_I0, mPut_R0, mPut_L0, mPut_I1, mPut_R1, mPut_L1, mGo_n, sfxX5_advance_0, cutX5_advance_0, sfxX5_advance_38, cutX5_advance_38, sfxX5_advance_72, cutX5_advance_72, sfxX5_advance_73, cutX5_advance_73, sfxX5_advance_96, cutX5_advance_96, sfxX5_advance_97, cutX5_advance_97, sfxX5_advance_98, cutX5_advance_98, sfxX5_advance_157, cutX5_advance_157, sfxX5_advance_183, cutX5_advance_183, sfxX5_advance_205, cutX5_advance_205, sfxX5_advance_206, cutX5_advance_206, sfxX5_advance_210, cutX5_advance_210, sfxX5_advance_236, cutX5_advance_236, wq_cut, mGo_c, mMask_t, mMask_f, mMask_n, kX5_advance_236, kX5_advance_210, kX5_advance_206, kX5_advance_205, kX5_advance_183, kX5_advance_157, kX5_advance_98, kX5_advance_97, kX5_advance_96, kX5_advance_73, kX5_advance_72, kX5_advance_38, kX5_advance_0, sk_100, al_100, ↓SX5_advance_0, ↓SX5_advance_1, ↓SX5_advance_2, ↓shqRI_, ↓shqI_, ↓spX5_signAt, ↓spX5_isBlank, ↓spX5_sortOf, mrg, mrl, mSet_ap, ncast, Option.some.injEq, k6, k8, e5, k7, s0]
          (try simp only [mrg, mrl] at *) <;> repeat' (first | (with_reducible assumption) | (with_reducible apply And.intro) | intro _)
          all_goals first | omega | exact fin () (by omega) | exact stp () 0 (by omega) (by omega) ⟨fun w => by omega, fun w => by omega⟩ | skip
      · have nl : ¬ letP (B s) := by omega
        rw [if_neg (by omega), if_neg nl, if_pos yd] at ee et
        have sx : (go = 0 ∨ N ≤ x) → scT digP B N x = x := fun w => by
          rcases Int.lt_or_le x N with z | z
          · have ss := scT_s digP B z
            rw [if_neg (fun q => by have := hg.2 ⟨z, q⟩; omega)] at ss
            exact ss
          · exact scT_e digP B z
        have vb := va_bd (B := B) (s := s) (x - s).toNat (fun j j0 j1 => hd j j0 (by omega))
        rw [← k9] at vb
        have fin2 : ∀ _ : Unit, (go = 0 ∨ N ≤ x) → x - s ≤ 3 → Q (.inl none) I1 := fun _ w w2 => by
          have e := sx w
          rw [← he, e] at ee et ev
          rw [if_neg (by omega)] at et
          exact fT I1 hF (by rw [k6, ee]) k8 (by rw [k7, et]) (fun _ => by rw [k9, ev]) ⟨by omega, by omega⟩
        have fin4 : ∀ _ : Unit, (go = 0 ∨ N ≤ x) → 3 < x - s → Q (.inl none) (mSet I1 100 7 4) := fun _ w w2 => by
          have e := sx w
          rw [← he, e] at ee et
          rw [if_pos w2] at et
          exact fT _ (hF.set (by decide) _) (by rw [set_nq (by decide), k6, ee]) (by rw [set_nq (by decide)]; exact k8) (by rw [set_eq, et]) (fun q => by omega) (by rw [set_nq (by decide)]; exact ⟨by omega, by omega⟩)
        have vs : vaN B s ((x - s).toNat + 1) = if (x - s).toNat < 3 then 10 * vaN B s (x - s).toNat + B (s + (x - s).toNat) - 48 else vaN B s (x - s).toNat := rfl
        rw [← k9, show s + ((x - s).toNat : Int) = x by omega] at vs
        have stA : ∀ (_ : Unit) (g : Int), go = 1 → x - s < 3 → (g = 0 ∨ g = 1) → (g = 1 ↔ x + 1 < N ∧ digP (B (x + 1))) → ∃ n', n' < n ∧ frC (mSet (mSet I1 100 9 (I1 100 9 * 10 + B x - 48)) 100 6 (x + 1)) I ∧ ∃ x_1 go : Int, [some (mR (some 100)), some (mI g)] = [some (mR (some 100)), some (mI go)] ∧ n' = (1000 - x_1).toNat ∧ scP (mSet (mSet I1 100 9 (I1 100 9 * 10 + B x - 48)) 100 6 (x + 1)) B N s x_1 go := fun _ g w1 w4 w2 w3 => by
          have q := hg.1 w1
          rw [if_pos (by omega)] at vs
          exact ⟨(1000 - (x + 1)).toNat, by omega, (hF.set (by decide) _).set (by decide) _, x + 1, g, rfl, rfl, scP.dig set_eq (by rw [set_nq (by decide), set_nq (by decide)]; exact k8) ⟨hsx.1, q.1⟩ yd (by rw [set_nq (by decide), set_nq (by decide)]; exact k7) (by rw [set_nq (by decide), set_eq, vs]; omega) he hd q.2 w2 w3⟩
        have stB : ∀ (_ : Unit) (g : Int), go = 1 → ¬ x - s < 3 → (g = 0 ∨ g = 1) → (g = 1 ↔ x + 1 < N ∧ digP (B (x + 1))) → ∃ n', n' < n ∧ frC (mSet I1 100 6 (x + 1)) I ∧ ∃ x_1 go : Int, [some (mR (some 100)), some (mI g)] = [some (mR (some 100)), some (mI go)] ∧ n' = (1000 - x_1).toNat ∧ scP (mSet I1 100 6 (x + 1)) B N s x_1 go := fun _ g w1 w4 w2 w3 => by
          have q := hg.1 w1
          rw [if_neg (by omega)] at vs
          exact ⟨(1000 - (x + 1)).toNat, by omega, hF.set (by decide) _, x + 1, g, rfl, rfl, scP.dig set_eq (by rw [set_nq (by decide)]; exact k8) ⟨hsx.1, q.1⟩ yd (by rw [set_nq (by decide)]; exact k7) (by rw [set_nq (by decide), vs]) he hd q.2 w2 w3⟩
        have hg1 : go = 1 → x < N ∧ digP (B x) := fun w => hg.1 w
        clear fT nx ev ee et hg vs sx hd he k9
        rcases hgo with rfl | rfl
        · have gin2 := fin2 () (Or.inl rfl)
          have gin4 := fin4 () (Or.inl rfl)
          clear stA stB hg1 fin2 fin4
          simp only [false_and, and_false, true_or, or_true, false_or, or_false, true_and, and_true, true_implies, false_implies, implies_true, not_true_eq_false, not_false_eq_true, and_self, List.length_cons, List.length_nil, mNoCut_, mCat_n, mCat_I, mCat_L, mCat_R, mIsL_n, mIsL_I, mIsL_R, mIsL_L, Nat.reduceAdd, Nat.reduceSub, Nat.reduceLeDiff, Nat.reduceLT, Nat.reduceEqDiff, Nat.zero_le, Int.reduceEq, Int.reduceLT, Int.reduceLE, Int.reduceNeg, Int.reduceAdd, if_true, if_false, reduceIte, reduceCtorEq, Bool.false_eq_true, ne_eq, qCmp_0, qCmp_1, qCmp_2, qCmp_3, qCmp_4, qCmp_5, ib_0, ib_1, ib_2, lb_0, lb_1, lb_2, dv_0, dv_1, wq_ic, wq_ld_i, wq_ld_a, wq_st_i, wq_ib, wq_icmp, wq_if, wq_goto, wq_get, mGet_0, mGet_1, mGet_2, mGet_3, wq_putI, wq_putL, wq_dupI, wq_dupR, dup_I, dup_R, wq_ret0, wq_ret1, wq_ret2, wq_ret3, wq_ret4, ldR0, fk_5_6, fk_5_5, wq_callV2_0, wq_callS1_1, mrg_1_, fk_5_8, mrg_0_, fk_5_7, fk_5_9, stI1, ldI1, mrg_2_, mrg_3_, mrg_10_, mrg_48_, mrg_4_, mPut_s, mPut_I0, mPut_R0, mPut_L0, mPut_I1, mPut_R1, mPut_L1, mGo_n, sfxX5_advance_0, cutX5_advance_0, sfxX5_advance_38, cutX5_advance_38, sfxX5_advance_72, cutX5_advance_72, sfxX5_advance_73, cutX5_advance_73, sfxX5_advance_96, cutX5_advance_96, sfxX5_advance_97, cutX5_advance_97, sfxX5_advance_98, cutX5_advance_98, sfxX5_advance_157, cutX5_advance_157, sfxX5_advance_183, cutX5_advance_183, sfxX5_advance_205, cutX5_advance_205, sfxX5_advance_206, cutX5_advance_206, sfxX5_advance_210, cutX5_advance_210, sfxX5_advance_236, cutX5_advance_236, wq_cut, mGo_c, mMask_t, mMask_f, mMask_n, kX5_advance_236, kX5_advance_210, kX5_advance_206, kX5_advance_205, kX5_advance_183, kX5_advance_157, kX5_advance_98, kX5_advance_97, kX5_advance_96, kX5_advance_73, kX5_advance_72, kX5_advance_38, kX5_advance_0, sk_100, al_100, ↓SX5_advance_0, ↓SX5_advance_1, ↓SX5_advance_2, ↓shqRI_, ↓shqI_, ↓spX5_signAt, ↓spX5_isBlank, ↓spX5_sortOf, mrg, mrl, mSet_ap, ncast, Option.some.injEq, k6, k8, e5, k7]
          (try simp only [mrg, mrl] at *) <;> repeat' (first | (with_reducible assumption) | (with_reducible apply And.intro) | intro _)
          all_goals first | omega | exact gin2 (by omega) | exact gin4 (by omega) | skip
        · obtain ⟨gx, gd⟩ := hg1 rfl
          have gin2 := fun w => fin2 () (Or.inr w)
          have gin4 := fun w => fin4 () (Or.inr w)
          have gtA := fun g => stA () g rfl
          have gtB := fun g => stB () g rfl
          clear hg1 fin2 fin4 stA stB
          have b0 := tb x (by omega) (by omega)
          have ex0 : I1 101 x = B x := by rw [e101, b0.1]; exact (sb_bd b0.2).2.2.2.2.2.2 gd
          rcases Int.lt_or_le (x + 1) N with z | z
          · have bx := tb (x + 1) (by omega) (by omega)
            have ex : I1 101 (x + 1) = sbT (B (x + 1)) := by rw [e101]; exact bx.1
            have sb := sb_bd bx.2
            have so := (so_1 bx.2).2.1
            have so4 := (so_1 bx.2).2.2
            have sob : -2147483648 ≤ soT (sbT (B (x + 1))) ∧ soT (sbT (B (x + 1))) < 2147483648 := by
              rw [so4]
              repeat' split
              all_goals omega
            clear so4
            by_cases yy : digP (B (x + 1))
            · have s1 := so.2 yy
              simp only [false_and, and_false, true_or, or_true, false_or, or_false, true_and, and_true, true_implies, false_implies, implies_true, not_true_eq_false, not_false_eq_true, and_self, List.length_cons, List.length_nil, mNoCut_, mCat_n, mCat_I, mCat_L, mCat_R, mIsL_n, mIsL_I, mIsL_R, mIsL_L, Nat.reduceAdd, Nat.reduceSub, Nat.reduceLeDiff, Nat.reduceLT, Nat.reduceEqDiff, Nat.zero_le, Int.reduceEq, Int.reduceLT, Int.reduceLE, Int.reduceNeg, Int.reduceAdd, if_true, if_false, reduceIte, reduceCtorEq, Bool.false_eq_true, ne_eq, qCmp_0, qCmp_1, qCmp_2, qCmp_3, qCmp_4, qCmp_5, ib_0, ib_1, ib_2, lb_0, lb_1, lb_2, dv_0, dv_1, wq_ic, wq_ld_i, wq_ld_a, wq_st_i, wq_ib, wq_icmp, wq_if, wq_goto, wq_get, mGet_0, mGet_1, mGet_2, mGet_3, wq_putI, wq_putL, wq_dupI, wq_dupR, dup_I, dup_R, wq_ret0, wq_ret1, wq_ret2, wq_ret3, wq_ret4, ldR0, fk_5_6, fk_5_5, wq_callV2_0, wq_callS1_1, mrg_1_, fk_5_8, mrg_0_, fk_5_7, fk_5_9, stI1, ldI1, mrg_2_, mrg_3_, mrg_10_, mrg_48_, mrg_4_, mPut_s, mPut_I0, mPut_R0, mPut_L0, mPut_I1, mPut_R1, mPut_L1, mGo_n, sfxX5_advance_0, cutX5_advance_0, sfxX5_advance_38, cutX5_advance_38, sfxX5_advance_72, cutX5_advance_72, sfxX5_advance_73, cutX5_advance_73, sfxX5_advance_96, cutX5_advance_96, sfxX5_advance_97, cutX5_advance_97, sfxX5_advance_98, cutX5_advance_98, sfxX5_advance_157, cutX5_advance_157, sfxX5_advance_183, cutX5_advance_183, sfxX5_advance_205, cutX5_advance_205, sfxX5_advance_206, cutX5_advance_206, sfxX5_advance_210, cutX5_advance_210, sfxX5_advance_236, cutX5_advance_236, wq_cut, mGo_c, mMask_t, mMask_f, mMask_n, kX5_advance_236, kX5_advance_210, kX5_advance_206, kX5_advance_205, kX5_advance_183, kX5_advance_157, kX5_advance_98, kX5_advance_97, kX5_advance_96, kX5_advance_73, kX5_advance_72, kX5_advance_38, kX5_advance_0, sk_100, al_100, ↓SX5_advance_0, ↓SX5_advance_1, ↓SX5_advance_2, ↓shqRI_, ↓shqI_, ↓spX5_signAt, ↓spX5_isBlank, ↓spX5_sortOf, mrg, mrl, mSet_ap, ncast, Option.some.injEq, k6, k8, e5, k7, ex, ex0, s1]
              (try simp only [mrg, mrl] at *) <;> repeat' (first | (with_reducible assumption) | (with_reducible apply And.intro) | intro _)
              all_goals first | omega | exact gin2 (by omega) (by omega) | exact gin4 (by omega) (by omega) | exact gtA 1 (by omega) (by omega) ⟨fun _ => ⟨z, yy⟩, fun _ => rfl⟩ | exact gtB 1 (by omega) (by omega) ⟨fun _ => ⟨z, yy⟩, fun _ => rfl⟩ | skip
            · have s1 : ¬ soT (sbT (B (x + 1))) = 2 := fun w => yy (so.1 w)
              simp only [false_and, and_false, true_or, or_true, false_or, or_false, true_and, and_true, true_implies, false_implies, implies_true, not_true_eq_false, not_false_eq_true, and_self, List.length_cons, List.length_nil, mNoCut_, mCat_n, mCat_I, mCat_L, mCat_R, mIsL_n, mIsL_I, mIsL_R, mIsL_L, Nat.reduceAdd, Nat.reduceSub, Nat.reduceLeDiff, Nat.reduceLT, Nat.reduceEqDiff, Nat.zero_le, Int.reduceEq, Int.reduceLT, Int.reduceLE, Int.reduceNeg, Int.reduceAdd, if_true, if_false, reduceIte, reduceCtorEq, Bool.false_eq_true, ne_eq, qCmp_0, qCmp_1, qCmp_2, qCmp_3, qCmp_4, qCmp_5, ib_0, ib_1, ib_2, lb_0, lb_1, lb_2, dv_0, dv_1, wq_ic, wq_ld_i, wq_ld_a, wq_st_i, wq_ib, wq_icmp, wq_if, wq_goto, wq_get, mGet_0, mGet_1, mGet_2, mGet_3, wq_putI, wq_putL, wq_dupI, wq_dupR, dup_I, dup_R, wq_ret0, wq_ret1, wq_ret2, wq_ret3, wq_ret4, ldR0, fk_5_6, fk_5_5, wq_callV2_0, wq_callS1_1, mrg_1_, fk_5_8, mrg_0_, fk_5_7, fk_5_9, stI1, ldI1, mrg_2_, mrg_3_, mrg_10_, mrg_48_, mrg_4_, mPut_s, mPut_I0, mPut_R0, mPut_L0, mPut_I1, mPut_R1, mPut_L1, mGo_n, sfxX5_advance_0, cutX5_advance_0, sfxX5_advance_38, cutX5_advance_38, sfxX5_advance_72, cutX5_advance_72, sfxX5_advance_73, cutX5_advance_73, sfxX5_advance_96, cutX5_advance_96, sfxX5_advance_97, cutX5_advance_97, sfxX5_advance_98, cutX5_advance_98, sfxX5_advance_157, cutX5_advance_157, sfxX5_advance_183, cutX5_advance_183, sfxX5_advance_205, cutX5_advance_205, sfxX5_advance_206, cutX5_advance_206, sfxX5_advance_210, cutX5_advance_210, sfxX5_advance_236, cutX5_advance_236, wq_cut, mGo_c, mMask_t, mMask_f, mMask_n, kX5_advance_236, kX5_advance_210, kX5_advance_206, kX5_advance_205, kX5_advance_183, kX5_advance_157, kX5_advance_98, kX5_advance_97, kX5_advance_96, kX5_advance_73, kX5_advance_72, kX5_advance_38, kX5_advance_0, sk_100, al_100, ↓SX5_advance_0, ↓SX5_advance_1, ↓SX5_advance_2, ↓shqRI_, ↓shqI_, ↓spX5_signAt, ↓spX5_isBlank, ↓spX5_sortOf, mrg, mrl, mSet_ap, ncast, Option.some.injEq, k6, k8, e5, k7, ex, ex0, s1]
              (try simp only [mrg, mrl] at *) <;> repeat' (first | (with_reducible assumption) | (with_reducible apply And.intro) | intro _)
              all_goals first | omega | exact gin2 (by omega) (by omega) | exact gin4 (by omega) (by omega) | exact gtA 0 (by omega) (by omega) ⟨fun w => by omega, fun w => absurd w.2 yy⟩ | exact gtB 0 (by omega) (by omega) ⟨fun w => by omega, fun w => absurd w.2 yy⟩ | skip
          · have s0 : soT 0 = 4 := by decide
            simp only [false_and, and_false, true_or, or_true, false_or, or_false, true_and, and_true, true_implies, false_implies, implies_true, not_true_eq_false, not_false_eq_true, and_self, List.length_cons, List.length_nil, mNoCut_, mCat_n, mCat_I, mCat_L, mCat_R, mIsL_n, mIsL_I, mIsL_R, mIsL_L, Nat.reduceAdd, Nat.reduceSub, Nat.reduceLeDiff, Nat.reduceLT, Nat.reduceEqDiff, Nat.zero_le, Int.reduceEq, Int.reduceLT, Int.reduceLE, Int.reduceNeg, Int.reduceAdd, if_true, if_false, reduceIte, reduceCtorEq, Bool.false_eq_true, ne_eq, qCmp_0, qCmp_1, qCmp_2, qCmp_3, qCmp_4, qCmp_5, ib_0, ib_1, ib_2, lb_0, lb_1, lb_2, dv_0, dv_1, wq_ic, wq_ld_i, wq_ld_a, wq_st_i, wq_ib, wq_icmp, wq_if, wq_goto, wq_get, mGet_0, mGet_1, mGet_2, mGet_3, wq_putI, wq_putL, wq_dupI, wq_dupR, dup_I, dup_R, wq_ret0, wq_ret1, wq_ret2, wq_ret3, wq_ret4, ldR0, fk_5_6, fk_5_5, wq_callV2_0, wq_callS1_1, mrg_1_, fk_5_8, mrg_0_, fk_5_7, fk_5_9, stI1, ldI1, mrg_2_, mrg_3_, mrg_10_, mrg_48_, mrg_4_, mPut_s, mPut_I0, mPut_R0, mPut_L0, mPut_I1, mPut_R1, mPut_L1, mGo_n, sfxX5_advance_0, cutX5_advance_0, sfxX5_advance_38, cutX5_advance_38, sfxX5_advance_72, cutX5_advance_72, sfxX5_advance_73, cutX5_advance_73, sfxX5_advance_96, cutX5_advance_96, sfxX5_advance_97, cutX5_advance_97, sfxX5_advance_98, cutX5_advance_98, sfxX5_advance_157, cutX5_advance_157, sfxX5_advance_183, cutX5_advance_183, sfxX5_advance_205, cutX5_advance_205, sfxX5_advance_206, cutX5_advance_206, sfxX5_advance_210, cutX5_advance_210, sfxX5_advance_236, cutX5_advance_236, wq_cut, mGo_c, mMask_t, mMask_f, mMask_n, kX5_advance_236, kX5_advance_210, kX5_advance_206, kX5_advance_205, kX5_advance_183, kX5_advance_157, kX5_advance_98, kX5_advance_97, kX5_advance_96, kX5_advance_73, kX5_advance_72, kX5_advance_38, kX5_advance_0, sk_100, al_100, ↓SX5_advance_0, ↓SX5_advance_1, ↓SX5_advance_2, ↓shqRI_, ↓shqI_, ↓spX5_signAt, ↓spX5_isBlank, ↓spX5_sortOf, mrg, mrl, mSet_ap, ncast, Option.some.injEq, k6, k8, e5, k7, ex0, s0]
            (try simp only [mrg, mrl] at *) <;> repeat' (first | (with_reducible assumption) | (with_reducible apply And.intro) | intro _)
            all_goals first | omega | exact gin2 (by omega) (by omega) | exact gin4 (by omega) (by omega) | exact gtA 0 (by omega) (by omega) ⟨fun w => by omega, fun w => by omega⟩ | exact gtB 0 (by omega) (by omega) ⟨fun w => by omega, fun w => by omega⟩ | skip
      · rw [if_neg (by omega), if_neg n1, if_neg n2] at ee et
        have fin : ∀ _ : Unit, x = s + 1 → Q (.inl none) I1 := fun _ w => fT I1 hF (by rw [k6, ee, w]) k8 (by rw [k7, et]) (fun w => by rw [et] at w; split at w <;> omega) ⟨by omega, by omega⟩
        have stp : ∀ _ : Unit, x = s → x < N → ∃ n', n' < n ∧ frC (mSet I1 100 6 (x + 1)) I ∧ ∃ x_1 go : Int, [some (mR (some 100)), some (mI 0)] = [some (mR (some 100)), some (mI go)] ∧ n' = (1000 - x_1).toNat ∧ scP (mSet I1 100 6 (x + 1)) B N s x_1 go := fun _ w z => nx 0 ⟨set_eq, by rw [set_nq (by decide)]; exact k8, ⟨by omega, by omega⟩, Or.inl rfl, Or.inr ⟨y0, Or.inr (Or.inr ⟨n1, n2, by rw [set_nq (by decide)]; exact k7, by rw [set_nq (by decide)]; exact k9, Or.inr ⟨by omega, rfl⟩⟩)⟩⟩ z
        have k7b : I1 100 7 = 3 ∨ I1 100 7 = 4 := by
          rw [k7]
          split
          · exact Or.inl rfl
          · exact Or.inr rfl
        clear fT nx ev ee et k7
        rcases k7b with k7 | k7
        · simp only [false_and, and_false, true_or, or_true, false_or, or_false, true_and, and_true, true_implies, false_implies, implies_true, not_true_eq_false, not_false_eq_true, and_self, List.length_cons, List.length_nil, mNoCut_, mCat_n, mCat_I, mCat_L, mCat_R, mIsL_n, mIsL_I, mIsL_R, mIsL_L, Nat.reduceAdd, Nat.reduceSub, Nat.reduceLeDiff, Nat.reduceLT, Nat.reduceEqDiff, Nat.zero_le, Int.reduceEq, Int.reduceLT, Int.reduceLE, Int.reduceNeg, Int.reduceAdd, if_true, if_false, reduceIte, reduceCtorEq, Bool.false_eq_true, ne_eq, qCmp_0, qCmp_1, qCmp_2, qCmp_3, qCmp_4, qCmp_5, ib_0, ib_1, ib_2, lb_0, lb_1, lb_2, dv_0, dv_1, wq_ic, wq_ld_i, wq_ld_a, wq_st_i, wq_ib, wq_icmp, wq_if, wq_goto, wq_get, mGet_0, mGet_1, mGet_2, mGet_3, wq_putI, wq_putL, wq_dupI, wq_dupR, dup_I, dup_R, wq_ret0, wq_ret1, wq_ret2, wq_ret3, wq_ret4, ldR0, fk_5_6, fk_5_5, wq_callV2_0, wq_callS1_1, mrg_1_, fk_5_8, mrg_0_, fk_5_7, fk_5_9, stI1, ldI1, mrg_2_, mrg_3_, mrg_10_, mrg_48_, mrg_4_, mPut_s, mPut_I0, mPut_R0, mPut_L0, mPut_I1, mPut_R1, mPut_L1, mGo_n, sfxX5_advance_0, cutX5_advance_0, sfxX5_advance_38, cutX5_advance_38, sfxX5_advance_72, cutX5_advance_72, sfxX5_advance_73, cutX5_advance_73, sfxX5_advance_96, cutX5_advance_96, sfxX5_advance_97, cutX5_advance_97, sfxX5_advance_98, cutX5_advance_98, sfxX5_advance_157, cutX5_advance_157, sfxX5_advance_183, cutX5_advance_183, sfxX5_advance_205, cutX5_advance_205, sfxX5_advance_206, cutX5_advance_206, sfxX5_advance_210, cutX5_advance_210, sfxX5_advance_236, cutX5_advance_236, wq_cut, mGo_c, mMask_t, mMask_f, mMask_n, kX5_advance_236, kX5_advance_210, kX5_advance_206, kX5_advance_205, kX5_advance_183, kX5_advance_157, kX5_advance_98, kX5_advance_97, kX5_advance_96, kX5_advance_73, kX5_advance_72, kX5_advance_38, kX5_advance_0, sk_100, al_100, ↓SX5_advance_0, ↓SX5_advance_1, ↓SX5_advance_2, ↓shqRI_, ↓shqI_, ↓spX5_signAt, ↓spX5_isBlank, ↓spX5_sortOf, mrg, mrl, mSet_ap, ncast, Option.some.injEq, k6, k8, e5, k7]
          (try simp only [mrg, mrl] at *) <;> repeat' (first | (with_reducible assumption) | (with_reducible apply And.intro) | intro _)
          all_goals first | omega | exact fin () (by omega) | exact stp () (by omega) (by omega) | skip
        · simp only [false_and, and_false, true_or, or_true, false_or, or_false, true_and, and_true, true_implies, false_implies, implies_true, not_true_eq_false, not_false_eq_true, and_self, List.length_cons, List.length_nil, mNoCut_, mCat_n, mCat_I, mCat_L, mCat_R, mIsL_n, mIsL_I, mIsL_R, mIsL_L, Nat.reduceAdd, Nat.reduceSub, Nat.reduceLeDiff, Nat.reduceLT, Nat.reduceEqDiff, Nat.zero_le, Int.reduceEq, Int.reduceLT, Int.reduceLE, Int.reduceNeg, Int.reduceAdd, if_true, if_false, reduceIte, reduceCtorEq, Bool.false_eq_true, ne_eq, qCmp_0, qCmp_1, qCmp_2, qCmp_3, qCmp_4, qCmp_5, ib_0, ib_1, ib_2, lb_0, lb_1, lb_2, dv_0, dv_1, wq_ic, wq_ld_i, wq_ld_a, wq_st_i, wq_ib, wq_icmp, wq_if, wq_goto, wq_get, mGet_0, mGet_1, mGet_2, mGet_3, wq_putI, wq_putL, wq_dupI, wq_dupR, dup_I, dup_R, wq_ret0, wq_ret1, wq_ret2, wq_ret3, wq_ret4, ldR0, fk_5_6, fk_5_5, wq_callV2_0, wq_callS1_1, mrg_1_, fk_5_8, mrg_0_, fk_5_7, fk_5_9, stI1, ldI1, mrg_2_, mrg_3_, mrg_10_, mrg_48_, mrg_4_, mPut_s, mPut_I0, mPut_R0, mPut_L0, mPut_I1, mPut_R1, mPut_L1, mGo_n, sfxX5_advance_0, cutX5_advance_0, sfxX5_advance_38, cutX5_advance_38, sfxX5_advance_72, cutX5_advance_72, sfxX5_advance_73, cutX5_advance_73, sfxX5_advance_96, cutX5_advance_96, sfxX5_advance_97, cutX5_advance_97, sfxX5_advance_98, cutX5_advance_98, sfxX5_advance_157, cutX5_advance_157, sfxX5_advance_183, cutX5_advance_183, sfxX5_advance_205, cutX5_advance_205, sfxX5_advance_206, cutX5_advance_206, sfxX5_advance_210, cutX5_advance_210, sfxX5_advance_236, cutX5_advance_236, wq_cut, mGo_c, mMask_t, mMask_f, mMask_n, kX5_advance_236, kX5_advance_210, kX5_advance_206, kX5_advance_205, kX5_advance_183, kX5_advance_157, kX5_advance_98, kX5_advance_97, kX5_advance_96, kX5_advance_73, kX5_advance_72, kX5_advance_38, kX5_advance_0, sk_100, al_100, ↓SX5_advance_0, ↓SX5_advance_1, ↓SX5_advance_2, ↓shqRI_, ↓shqI_, ↓spX5_signAt, ↓spX5_isBlank, ↓spX5_sortOf, mrg, mrl, mSet_ap, ncast, Option.some.injEq, k6, k8, e5, k7]
          (try simp only [mrg, mrl] at *) <;> repeat' (first | (with_reducible assumption) | (with_reducible apply And.intro) | intro _)
          all_goals first | omega | exact fin () (by omega) | exact stp () (by omega) (by omega) | skip
  · show mWp _ _ _ _ _ _ kX5_advance_0 [some (mR (some 100)), none] [] I
    obtain ⟨x, hx'⟩ : ∃ x, x = a := ⟨_, rfl⟩
    have hx : I 100 6 = x := by rw [hx', ha]
    have hxn : a ≤ x ∧ x ≤ N := by omega
    have hbg : bgT B N x = bgT B N a := by rw [hx']
    have hF := frC.refl I
    have ku : ∀ {X : Nat → Prop}, (∃ n', n' < 5000 ∧ X n') → ∃ n', X n' := fun h => h.elim (fun n' h => ⟨n', h.2⟩)
    have e5 := hF.2 5 (by decide)
    have e101 := hF.1 101 (by decide)
    rw [t5] at e5
    rcases Int.lt_or_le x N with z | z
    · have bx := tb x (by omega) (by omega)
      have ex : I 101 x = sbT (B x) := by rw [e101]; exact bx.1
      have sb := sb_bd bx.2
      have so4 := (so_1 bx.2).2.2
      have sob : -2147483648 ≤ soT (sbT (B x)) ∧ soT (sbT (B x)) < 2147483648 := by
        rw [so4]
        repeat' split
        all_goals omega
      have ss := scT_s blkP B z
      by_cases y : blkP (B x)
      · rw [if_pos y] at ss
        have key : ∃ n', n' < 5000 ∧ frC (mSet I 100 6 (x + 1)) I ∧ ∃ x_1 : Int, x + 1 = x_1 ∧ (a ≤ x_1 ∧ x_1 ≤ N) ∧ n' = (3000 - x_1).toNat ∧ bgT B N x_1 = bgT B N a := ⟨(3000 - (x + 1)).toNat, by omega, hF.set (by decide) _, x + 1, rfl, by omega, rfl, by rw [← hbg]; exact ss.symm⟩
        clear h so4
        simp only [false_and, and_false, true_or, or_true, false_or, or_false, true_and, and_true, true_implies, false_implies, implies_true, not_true_eq_false, not_false_eq_true, and_self, List.length_cons, List.length_nil, mNoCut_, mCat_n, mCat_I, mCat_L, mCat_R, mIsL_n, mIsL_I, mIsL_R, mIsL_L, Nat.reduceAdd, Nat.reduceSub, Nat.reduceLeDiff, Nat.reduceLT, Nat.reduceEqDiff, Nat.zero_le, Int.reduceEq, Int.reduceLT, Int.reduceLE, Int.reduceNeg, Int.reduceAdd, if_true, if_false, reduceIte, reduceCtorEq, Bool.false_eq_true, ne_eq, qCmp_0, qCmp_1, qCmp_2, qCmp_3, qCmp_4, qCmp_5, ib_0, ib_1, ib_2, lb_0, lb_1, lb_2, dv_0, dv_1, wq_ic, wq_ld_i, wq_ld_a, wq_st_i, wq_ib, wq_icmp, wq_if, wq_goto, wq_get, mGet_0, mGet_1, mGet_2, mGet_3, wq_putI, wq_putL, wq_dupI, wq_dupR, dup_I, dup_R, wq_ret0, wq_ret1, wq_ret2, wq_ret3, wq_ret4, ldR0, fk_5_6, fk_5_5, wq_callV2_0, wq_callS1_1, mrg_1_, fk_5_8, mrg_0_, fk_5_7, fk_5_9, stI1, ldI1, mrg_2_, mrg_3_, mrg_10_, mrg_48_, mrg_4_, mPut_s, mPut_I0, mPut_R0, mPut_L0, mPut_I1, mPut_R1, mPut_L1, mGo_n, sfxX5_advance_0, cutX5_advance_0, sfxX5_advance_38, cutX5_advance_38, sfxX5_advance_72, cutX5_advance_72, sfxX5_advance_73, cutX5_advance_73, sfxX5_advance_96, cutX5_advance_96, sfxX5_advance_97, cutX5_advance_97, sfxX5_advance_98, cutX5_advance_98, sfxX5_advance_157, cutX5_advance_157, sfxX5_advance_183, cutX5_advance_183, sfxX5_advance_205, cutX5_advance_205, sfxX5_advance_206, cutX5_advance_206, sfxX5_advance_210, cutX5_advance_210, sfxX5_advance_236, cutX5_advance_236, wq_cut, mGo_c, mMask_t, mMask_f, mMask_n, kX5_advance_236, kX5_advance_210, kX5_advance_206, kX5_advance_205, kX5_advance_183, kX5_advance_157, kX5_advance_98, kX5_advance_97, kX5_advance_96, kX5_advance_73, kX5_advance_72, kX5_advance_38, kX5_advance_0, sk_100, al_100, ↓SX5_advance_0, ↓SX5_advance_1, ↓SX5_advance_2, ↓shqRI_, ↓shqI_, ↓spX5_signAt, ↓spX5_isBlank, ↓spX5_sortOf, mrg, mrl, mSet_ap, ncast, Option.some.injEq, hx, e5, ex]
        (try simp only [mrg, mrl] at *) <;> repeat' (first | (with_reducible assumption) | (with_reducible apply And.intro) | intro _)
        all_goals first | omega | exact ku key | skip
      · rw [if_neg y] at ss
        have hs : bgT B N a = x := by rw [← hbg]; exact ss
        have key : ∃ n', n' < 5000 ∧ frC (mSet (mSet (mSet I 100 8 x) 100 7 (soT (sbT (B x)))) 100 9 0) I ∧ ∃ x_1 go : Int, [some (mR (some 100)), some (mI 1)] = [some (mR (some 100)), some (mI go)] ∧ n' = (1000 - x_1).toNat ∧ scP (mSet (mSet (mSet I 100 8 x) 100 7 (soT (sbT (B x)))) 100 9 0) B N (bgT B N a) x_1 go := by
          refine ⟨(1000 - x).toNat, by omega, ((hF.set (by decide) _).set (by decide) _).set (by decide) _, x, 1, rfl, rfl, ?_⟩
          rw [hs]
          refine ⟨by rw [set_nq (by decide), set_nq (by decide), set_nq (by decide)]; exact hx, by rw [set_nq (by decide), set_nq (by decide), set_eq], ⟨by omega, by omega⟩, Or.inr rfl, Or.inr ⟨z, ?_⟩⟩
          have e7 : mSet (mSet (mSet I 100 8 x) 100 7 (soT (sbT (B x)))) 100 9 0 100 7 = soT (sbT (B x)) := by rw [set_nq (by decide), set_eq]
          by_cases l : letP (B x)
          · exact Or.inl ⟨l, by rw [e7, so4, if_pos l], set_eq, rfl, fun _ => ⟨z, l⟩, fun _ => rfl⟩
          · by_cases d : digP (B x)
            · exact Or.inr (Or.inl ⟨d, by rw [e7, so4, if_neg l, if_pos d], by rw [set_eq, show (x - x).toNat = 0 by omega]; rfl, rfl, fun j j0 j1 => by omega, fun _ => ⟨z, d⟩, fun _ => rfl⟩)
            · exact Or.inr (Or.inr ⟨l, d, by rw [e7, so4, if_neg l, if_neg d], set_eq, Or.inl ⟨rfl, rfl⟩⟩)
        clear h so4
        simp only [false_and, and_false, true_or, or_true, false_or, or_false, true_and, and_true, true_implies, false_implies, implies_true, not_true_eq_false, not_false_eq_true, and_self, List.length_cons, List.length_nil, mNoCut_, mCat_n, mCat_I, mCat_L, mCat_R, mIsL_n, mIsL_I, mIsL_R, mIsL_L, Nat.reduceAdd, Nat.reduceSub, Nat.reduceLeDiff, Nat.reduceLT, Nat.reduceEqDiff, Nat.zero_le, Int.reduceEq, Int.reduceLT, Int.reduceLE, Int.reduceNeg, Int.reduceAdd, if_true, if_false, reduceIte, reduceCtorEq, Bool.false_eq_true, ne_eq, qCmp_0, qCmp_1, qCmp_2, qCmp_3, qCmp_4, qCmp_5, ib_0, ib_1, ib_2, lb_0, lb_1, lb_2, dv_0, dv_1, wq_ic, wq_ld_i, wq_ld_a, wq_st_i, wq_ib, wq_icmp, wq_if, wq_goto, wq_get, mGet_0, mGet_1, mGet_2, mGet_3, wq_putI, wq_putL, wq_dupI, wq_dupR, dup_I, dup_R, wq_ret0, wq_ret1, wq_ret2, wq_ret3, wq_ret4, ldR0, fk_5_6, fk_5_5, wq_callV2_0, wq_callS1_1, mrg_1_, fk_5_8, mrg_0_, fk_5_7, fk_5_9, stI1, ldI1, mrg_2_, mrg_3_, mrg_10_, mrg_48_, mrg_4_, mPut_s, mPut_I0, mPut_R0, mPut_L0, mPut_I1, mPut_R1, mPut_L1, mGo_n, sfxX5_advance_0, cutX5_advance_0, sfxX5_advance_38, cutX5_advance_38, sfxX5_advance_72, cutX5_advance_72, sfxX5_advance_73, cutX5_advance_73, sfxX5_advance_96, cutX5_advance_96, sfxX5_advance_97, cutX5_advance_97, sfxX5_advance_98, cutX5_advance_98, sfxX5_advance_157, cutX5_advance_157, sfxX5_advance_183, cutX5_advance_183, sfxX5_advance_205, cutX5_advance_205, sfxX5_advance_206, cutX5_advance_206, sfxX5_advance_210, cutX5_advance_210, sfxX5_advance_236, cutX5_advance_236, wq_cut, mGo_c, mMask_t, mMask_f, mMask_n, kX5_advance_236, kX5_advance_210, kX5_advance_206, kX5_advance_205, kX5_advance_183, kX5_advance_157, kX5_advance_98, kX5_advance_97, kX5_advance_96, kX5_advance_73, kX5_advance_72, kX5_advance_38, kX5_advance_0, sk_100, al_100, ↓SX5_advance_0, ↓SX5_advance_1, ↓SX5_advance_2, ↓shqRI_, ↓shqI_, ↓spX5_signAt, ↓spX5_isBlank, ↓spX5_sortOf, mrg, mrl, mSet_ap, ncast, Option.some.injEq, hx, e5, ex]
        (try simp only [mrg, mrl] at *) <;> repeat' (first | (with_reducible assumption) | (with_reducible apply And.intro) | intro _)
        all_goals first | omega | exact ku key | skip
    · have ss := scT_e blkP B z
      have hs : bgT B N a = x := by rw [← hbg]; exact ss
      have key : ∃ n', n' < 5000 ∧ frC (mSet (mSet (mSet I 100 8 x) 100 7 0) 100 9 0) I ∧ ∃ x_1 go : Int, [some (mR (some 100)), some (mI 0)] = [some (mR (some 100)), some (mI go)] ∧ n' = (1000 - x_1).toNat ∧ scP (mSet (mSet (mSet I 100 8 x) 100 7 0) 100 9 0) B N (bgT B N a) x_1 go := by
        refine ⟨(1000 - x).toNat, by omega, ((hF.set (by decide) _).set (by decide) _).set (by decide) _, x, 0, rfl, rfl, ?_⟩
        rw [hs]
        exact ⟨by rw [set_nq (by decide), set_nq (by decide), set_nq (by decide)]; exact hx, by rw [set_nq (by decide), set_nq (by decide), set_eq], ⟨by omega, by omega⟩, Or.inl rfl, Or.inl ⟨z, rfl, rfl, by rw [set_nq (by decide), set_eq], set_eq⟩⟩
      clear h
      simp only [false_and, and_false, true_or, or_true, false_or, or_false, true_and, and_true, true_implies, false_implies, implies_true, not_true_eq_false, not_false_eq_true, and_self, List.length_cons, List.length_nil, mNoCut_, mCat_n, mCat_I, mCat_L, mCat_R, mIsL_n, mIsL_I, mIsL_R, mIsL_L, Nat.reduceAdd, Nat.reduceSub, Nat.reduceLeDiff, Nat.reduceLT, Nat.reduceEqDiff, Nat.zero_le, Int.reduceEq, Int.reduceLT, Int.reduceLE, Int.reduceNeg, Int.reduceAdd, if_true, if_false, reduceIte, reduceCtorEq, Bool.false_eq_true, ne_eq, qCmp_0, qCmp_1, qCmp_2, qCmp_3, qCmp_4, qCmp_5, ib_0, ib_1, ib_2, lb_0, lb_1, lb_2, dv_0, dv_1, wq_ic, wq_ld_i, wq_ld_a, wq_st_i, wq_ib, wq_icmp, wq_if, wq_goto, wq_get, mGet_0, mGet_1, mGet_2, mGet_3, wq_putI, wq_putL, wq_dupI, wq_dupR, dup_I, dup_R, wq_ret0, wq_ret1, wq_ret2, wq_ret3, wq_ret4, ldR0, fk_5_6, fk_5_5, wq_callV2_0, wq_callS1_1, mrg_1_, fk_5_8, mrg_0_, fk_5_7, fk_5_9, stI1, ldI1, mrg_2_, mrg_3_, mrg_10_, mrg_48_, mrg_4_, mPut_s, mPut_I0, mPut_R0, mPut_L0, mPut_I1, mPut_R1, mPut_L1, mGo_n, sfxX5_advance_0, cutX5_advance_0, sfxX5_advance_38, cutX5_advance_38, sfxX5_advance_72, cutX5_advance_72, sfxX5_advance_73, cutX5_advance_73, sfxX5_advance_96, cutX5_advance_96, sfxX5_advance_97, cutX5_advance_97, sfxX5_advance_98, cutX5_advance_98, sfxX5_advance_157, cutX5_advance_157, sfxX5_advance_183, cutX5_advance_183, sfxX5_advance_205, cutX5_advance_205, sfxX5_advance_206, cutX5_advance_206, sfxX5_advance_210, cutX5_advance_210, sfxX5_advance_236, cutX5_advance_236, wq_cut, mGo_c, mMask_t, mMask_f, mMask_n, kX5_advance_236, kX5_advance_210, kX5_advance_206, kX5_advance_205, kX5_advance_183, kX5_advance_157, kX5_advance_98, kX5_advance_97, kX5_advance_96, kX5_advance_73, kX5_advance_72, kX5_advance_38, kX5_advance_0, sk_100, al_100, ↓SX5_advance_0, ↓SX5_advance_1, ↓SX5_advance_2, ↓shqRI_, ↓shqI_, ↓spX5_signAt, ↓spX5_isBlank, ↓spX5_sortOf, mrg, mrl, mSet_ap, ncast, Option.some.injEq, hx, e5]
      (try simp only [mrg, mrl] at *) <;> repeat' (first | (with_reducible assumption) | (with_reducible apply And.intro) | intro _)
      all_goals first | omega | exact ku key | skip
theorem ctrX5_advance {l : Launch} (hst : l.stackTraces = false) (hT : mTxM l) : mCtr l calX5_advance spX5_advance :=
  mMet (T := TX5_advance) (S := SX5_advance) hst hT cutX5_advance (by decide) okX5_advance ⟨_, _, rfl, rfl⟩ trivial (fun t bs h => by rcases cutsX5_advance h with ⟨-, rfl⟩ | ⟨-, rfl⟩ <;> rfl) (fun a => match a with
    | 0 => ctrX5_signAt hst hT
    | 1 => ctrX5_isBlank hst hT
    | 2 => ctrX5_sortOf hst hT
    | _ + 3 => mCtr_no) vcX5_advance

end SPC34
