section SPM24
abbrev blkP (c : Int) : Prop := c = 32 ∨ c = 10
abbrev letP (c : Int) : Prop := 97 ≤ c ∧ c ≤ 122
abbrev digP (c : Int) : Prop := 48 ≤ c ∧ c ≤ 57
def scN (P : Int → Prop) [DecidablePred P] (B : Int → Int) : Nat → Int → Int
  | 0, a => a
  | f + 1, a => if P (B a) then scN P B f (a + 1) else a
/-- the first place from a on, before n, whose sign isn't one of P -/
def scT (P : Int → Prop) [DecidablePred P] (B : Int → Int) (n a : Int) : Int := scN P B (n - a).toNat a
theorem scT_s (P : Int → Prop) [DecidablePred P] (B : Int → Int) {n a : Int} (h : a < n) : scT P B n a = if P (B a) then scT P B n (a + 1) else a := by
  unfold scT
  obtain ⟨f, hf⟩ : ∃ f : Nat, (n - a).toNat = f + 1 := ⟨(n - a).toNat - 1, by omega⟩
  rw [hf, show (n - (a + 1)).toNat = f by omega]
  rfl
theorem scT_e (P : Int → Prop) [DecidablePred P] (B : Int → Int) {n a : Int} (h : n ≤ a) : scT P B n a = a := by
  unfold scT
  rw [show (n - a).toNat = 0 by omega]
  rfl
theorem scN_bd (P : Int → Prop) [DecidablePred P] (B : Int → Int) : ∀ (f : Nat) (a : Int), a ≤ scN P B f a ∧ scN P B f a ≤ a + f
  | 0, a => by simp [scN]
  | f + 1, a => by
    have ih := scN_bd P B f (a + 1)
    simp only [scN]
    split <;> omega
theorem scT_bd (P : Int → Prop) [DecidablePred P] (B : Int → Int) {n a : Int} (h : a ≤ n) : a ≤ scT P B n a ∧ scT P B n a ≤ n := by
  have := scN_bd P B (n - a).toNat a
  unfold scT
  omega
theorem scN_all (P : Int → Prop) [DecidablePred P] (B : Int → Int) : ∀ (f : Nat) (a j : Int), a ≤ j → j < scN P B f a → P (B j)
  | 0, a, j, h1, h2 => by
    simp only [scN] at h2
    omega
  | f + 1, a, j, h1, h2 => by
    simp only [scN] at h2
    by_cases z : P (B a)
    · rw [if_pos z] at h2
      by_cases e : j = a
      · rw [e]; exact z
      · exact scN_all P B f (a + 1) j (by omega) h2
    · rw [if_neg z] at h2
      omega
def bgT (B : Int → Int) (n a : Int) : Int := scT blkP B n a
def tkT (B : Int → Int) (n a : Int) : Int := if n ≤ bgT B n a then 0 else if letP (B (bgT B n a)) then 1 else if digP (B (bgT B n a)) then (if 3 < scT digP B n (bgT B n a) - bgT B n a then 4 else 2) else if B (bgT B n a) = 59 then 3 else 4
def enT (B : Int → Int) (n a : Int) : Int := if n ≤ bgT B n a then bgT B n a else if letP (B (bgT B n a)) then scT letP B n (bgT B n a) else if digP (B (bgT B n a)) then scT digP B n (bgT B n a) else bgT B n a + 1
def vaN (B : Int → Int) (s : Int) : Nat → Int
  | 0 => 0
  | k + 1 => if k < 3 then 10 * vaN B s k + B (s + k) - 48 else vaN B s k
def vlT (B : Int → Int) (n a : Int) : Int := vaN B (bgT B n a) (scT digP B n (bgT B n a) - bgT B n a).toNat
theorem bg_bd (B : Int → Int) {n a : Int} (h : a ≤ n) : a ≤ bgT B n a ∧ bgT B n a ≤ n := scT_bd blkP B h
theorem en_bd (B : Int → Int) {n a : Int} (h : a ≤ n) : bgT B n a ≤ enT B n a ∧ enT B n a ≤ n ∧ (tkT B n a ≠ 0 → bgT B n a < enT B n a) := by
  have b := bg_bd B h
  unfold enT tkT
  by_cases z : n ≤ bgT B n a
  · rw [if_pos z, if_pos z]
    exact ⟨Int.le_refl _, b.2, fun w => absurd rfl w⟩
  · rw [if_neg z, if_neg z]
    by_cases z1 : letP (B (bgT B n a))
    · rw [if_pos z1]
      have s := scT_s letP B (show bgT B n a < n by omega)
      rw [if_pos z1] at s
      have s2 := scT_bd letP B (show bgT B n a + 1 ≤ n by omega)
      omega
    · rw [if_neg z1]
      by_cases z2 : digP (B (bgT B n a))
      · rw [if_pos z2]
        have s := scT_s digP B (show bgT B n a < n by omega)
        rw [if_pos z2] at s
        have s2 := scT_bd digP B (show bgT B n a + 1 ≤ n by omega)
        omega
      · rw [if_neg z2]
        omega
theorem va_bd {B : Int → Int} {s : Int} : ∀ k : Nat, (∀ j : Int, s ≤ j → j < s + k → digP (B j)) → 0 ≤ vaN B s k ∧ vaN B s k ≤ 999 ∧ (k = 0 → vaN B s k = 0) ∧ (k = 1 → vaN B s k ≤ 9) ∧ (k = 2 → vaN B s k ≤ 99)
  | 0, _ => by simp [vaN]
  | k + 1, h => by
    have ih := va_bd k (fun j j0 j1 => h j j0 (by omega))
    have hd := h (s + k) (by omega) (by omega)
    simp only [vaN]
    by_cases z : k < 3
    · rw [if_pos z]
      have : k = 0 ∨ k = 1 ∨ k = 2 := by omega
      rcases this with rfl | rfl | rfl
      · have := ih.2.2.1 rfl
        omega
      · have := ih.2.2.2.1 rfl
        omega
      · have := ih.2.2.2.2 rfl
        omega
    · rw [if_neg z]
      omega
theorem tk_bd (B : Int → Int) (n a : Int) : 0 ≤ tkT B n a ∧ tkT B n a ≤ 4 := by
  unfold tkT
  repeat' split
  all_goals omega
/-- the tape: n bytes B -/
def tpS (I : mM) (B : Int → Int) (n : Int) : Prop := I 200 7 = n ∧ (0 ≤ n ∧ n ≤ 800) ∧ (∀ j : Int, 0 ≤ j → j < 800 → I 204 j = B j ∧ 0 ≤ B j ∧ B j ≤ 255)
/-- the token that stands from a on is read -/
def tkS (I : mM) (B : Int → Int) (n a : Int) : Prop := I 200 8 = enT B n a ∧ I 200 9 = bgT B n a ∧ I 200 10 = tkT B n a ∧ (tkT B n a = 2 → I 200 11 = vlT B n a) ∧ mrg (I 200 11)
def frR (I' I : mM) : Prop := (∀ i, i ≠ 200 → I' i = I i) ∧ (∀ p : Int, ¬ (8 ≤ p ∧ p ≤ 11) → I' 200 p = I 200 p)
theorem frR.refl (I : mM) : frR I I := ⟨fun _ _ => rfl, fun _ _ => rfl⟩
theorem frR.set {I' I : mM} (h : frR I' I) {p : Int} (hp : 8 ≤ p ∧ p ≤ 11) (v : Int) : frR (mSet I' 200 p v) I := ⟨fun i hi => by rw [set_ne hi]; exact h.1 i hi, fun q hq => by rw [set_nq (by omega)]; exact h.2 q hq⟩
def spX11_see : mSp := shRI (fun _ i k I Q => i = some 200 ∧ (0 ≤ k ∧ k ≤ 800) ∧ mrg (I 200 7) ∧ (I 200 7 ≤ 800) ∧ (k < I 200 7 → Q (.inl (some (mI (I 204 k)))) I) ∧ (¬ k < I 200 7 → Q (.inl (some (mI 0))) I))
def SX11_see : Nat → mSp := fun a => match a with
  | _ => fun _ _ _ _ => False
set_option maxRecDepth 100000 in
set_option maxHeartbeats 1000000 in
theorem vcX11_see (fl : Nat → Bool) (avs : List mV) (I : mM) (Q : mO → mM → Prop) (hsp : spX11_see fl avs I Q) : mVC0 SX11_see fl Q kX11_see 2 avs I := by
  obtain ⟨i, k, rfl, h0⟩ := shRI_inv hsp
  refine ⟨rfl, ?_⟩
  show mWp _ _ _ _ _ _ kX11_see_0 [some (mR i), some (mI k)] [] I
  obtain ⟨rfl, hk, h7, h8, h1, h2⟩ := h0
  simp only [false_and, and_false, true_or, or_true, false_or, or_false, true_and, and_true, true_implies, false_implies, implies_true, not_true_eq_false, not_false_eq_true, and_self, List.length_cons, List.length_nil, mNoCut_, mCat_n, mCat_I, mCat_L, mCat_R, mIsL_n, mIsL_I, mIsL_R, mIsL_L, Nat.reduceAdd, Nat.reduceSub, Nat.reduceLeDiff, Nat.reduceLT, Nat.reduceEqDiff, Nat.zero_le, Int.reduceEq, Int.reduceLT, Int.reduceLE, Int.reduceNeg, Int.reduceAdd, if_true, if_false, reduceIte, reduceCtorEq, Bool.false_eq_true, ne_eq, qCmp_0, qCmp_1, qCmp_2, qCmp_3, qCmp_4, qCmp_5, ib_0, ib_1, ib_2, lb_0, lb_1, lb_2, dv_0, dv_1, wq_ic, wq_ld_i, wq_ld_a, wq_icmp, wq_goto, wq_get, mGet_0, mGet_1, mGet_2, mGet_3, wq_ald, wq_ret0, wq_ret1, wq_ret2, wq_ret3, wq_ret4, ldI1, ldR0, fk_11_7, fk_11_4, mrg_0_, mGo_n, sfxX11_see_17, cutX11_see_17, sfxX11_see_18, cutX11_see_18, kX11_see_18, kX11_see_17, kX11_see_0, sk_200, al_200, rf_200_4, sk_204, al_204, sn_204, ald_n, ro0_n, al_ro, mrg, mrl, mSet_ap, ncast, Option.some.injEq]
  (try simp only [mrg, mrl] at *) <;> repeat' (first | (with_reducible assumption) | (with_reducible apply And.intro) | intro _)
  all_goals first | omega | exact h1 (by omega) | exact h2 (by omega) | skip
theorem ctrX11_see {l : Launch} (hst : l.stackTraces = false) (hT : mTxM l) : mCtr l calX11_see spX11_see :=
  mMet0 (T := TX11_see) (S := SX11_see) hst hT (by decide) okX11_see ⟨_, _, rfl, rfl⟩ (fun a => mCtr_no) vcX11_see

def spX11_isLetter : mSp := shI (fun _ c I Q => mrg c ∧ (letP c → Q (.inl (some (mI 1))) I) ∧ (¬ letP c → Q (.inl (some (mI 0))) I))
def SX11_isLetter : Nat → mSp := fun a => match a with
  | _ => fun _ _ _ _ => False
set_option maxRecDepth 100000 in
set_option maxHeartbeats 1000000 in
theorem vcX11_isLetter (fl : Nat → Bool) (avs : List mV) (I : mM) (Q : mO → mM → Prop) (hsp : spX11_isLetter fl avs I Q) : mVC0 SX11_isLetter fl Q kX11_isLetter 1 avs I := by
  obtain ⟨c, rfl, h0⟩ := shI_inv hsp
  refine ⟨rfl, ?_⟩
  show mWp _ _ _ _ _ _ kX11_isLetter_0 [some (mI c)] [] I
  obtain ⟨hc, h1, h2⟩ := h0
  simp only [false_and, and_false, true_or, or_true, false_or, or_false, true_and, and_true, true_implies, false_implies, implies_true, not_true_eq_false, not_false_eq_true, and_self, List.length_cons, List.length_nil, mNoCut_, mCat_n, mCat_I, mCat_L, mCat_R, mIsL_n, mIsL_I, mIsL_R, mIsL_L, Nat.reduceAdd, Nat.reduceSub, Nat.reduceLeDiff, Nat.reduceLT, Nat.reduceEqDiff, Nat.zero_le, Int.reduceEq, Int.reduceLT, Int.reduceLE, Int.reduceNeg, Int.reduceAdd, if_true, if_false, reduceIte, reduceCtorEq, Bool.false_eq_true, ne_eq, qCmp_0, qCmp_1, qCmp_2, qCmp_3, qCmp_4, qCmp_5, ib_0, ib_1, ib_2, lb_0, lb_1, lb_2, dv_0, dv_1, wq_ic, wq_ld_i, wq_icmp, wq_goto, wq_ret0, wq_ret1, wq_ret2, wq_ret3, wq_ret4, ldI0, mrg_97_, mrg_122_, mrg_1_, mrg_0_, mGo_n, sfxX11_isLetter_16, cutX11_isLetter_16, sfxX11_isLetter_17, cutX11_isLetter_17, kX11_isLetter_17, kX11_isLetter_16, kX11_isLetter_0, mrg, mrl, mSet_ap, ncast, Option.some.injEq]
  (try simp only [mrg, mrl] at *) <;> repeat' (first | (with_reducible assumption) | (with_reducible apply And.intro) | intro _)
  all_goals first | omega | exact h1 (by omega) | exact h2 (by omega) | skip
theorem ctrX11_isLetter {l : Launch} (hst : l.stackTraces = false) (hT : mTxM l) : mCtr l calX11_isLetter spX11_isLetter :=
  mMet0 (T := TX11_isLetter) (S := SX11_isLetter) hst hT (by decide) okX11_isLetter ⟨_, _, rfl, rfl⟩ (fun a => mCtr_no) vcX11_isLetter

def spX11_isDigit : mSp := shI (fun _ c I Q => mrg c ∧ (digP c → Q (.inl (some (mI 1))) I) ∧ (¬ digP c → Q (.inl (some (mI 0))) I))
def SX11_isDigit : Nat → mSp := fun a => match a with
  | _ => fun _ _ _ _ => False
set_option maxRecDepth 100000 in
set_option maxHeartbeats 1000000 in
theorem vcX11_isDigit (fl : Nat → Bool) (avs : List mV) (I : mM) (Q : mO → mM → Prop) (hsp : spX11_isDigit fl avs I Q) : mVC0 SX11_isDigit fl Q kX11_isDigit 1 avs I := by
  obtain ⟨c, rfl, h0⟩ := shI_inv hsp
  refine ⟨rfl, ?_⟩
  show mWp _ _ _ _ _ _ kX11_isDigit_0 [some (mI c)] [] I
  obtain ⟨hc, h1, h2⟩ := h0
  simp only [false_and, and_false, true_or, or_true, false_or, or_false, true_and, and_true, true_implies, false_implies, implies_true, not_true_eq_false, not_false_eq_true, and_self, List.length_cons, List.length_nil, mNoCut_, mCat_n, mCat_I, mCat_L, mCat_R, mIsL_n, mIsL_I, mIsL_R, mIsL_L, Nat.reduceAdd, Nat.reduceSub, Nat.reduceLeDiff, Nat.reduceLT, Nat.reduceEqDiff, Nat.zero_le, Int.reduceEq, Int.reduceLT, Int.reduceLE, Int.reduceNeg, Int.reduceAdd, if_true, if_false, reduceIte, reduceCtorEq, Bool.false_eq_true, ne_eq, qCmp_0, qCmp_1, qCmp_2, qCmp_3, qCmp_4, qCmp_5, ib_0, ib_1, ib_2, lb_0, lb_1, lb_2, dv_0, dv_1, wq_ic, wq_ld_i, wq_icmp, wq_goto, wq_ret0, wq_ret1, wq_ret2, wq_ret3, wq_ret4, ldI0, mrg_48_, mrg_57_, mrg_1_, mrg_0_, mGo_n, sfxX11_isDigit_16, cutX11_isDigit_16, sfxX11_isDigit_17, cutX11_isDigit_17, kX11_isDigit_17, kX11_isDigit_16, kX11_isDigit_0, mrg, mrl, mSet_ap, ncast, Option.some.injEq]
  (try simp only [mrg, mrl] at *) <;> repeat' (first | (with_reducible assumption) | (with_reducible apply And.intro) | intro _)
  all_goals first | omega | exact h1 (by omega) | exact h2 (by omega) | skip
theorem ctrX11_isDigit {l : Launch} (hst : l.stackTraces = false) (hT : mTxM l) : mCtr l calX11_isDigit spX11_isDigit :=
  mMet0 (T := TX11_isDigit) (S := SX11_isDigit) hst hT (by decide) okX11_isDigit ⟨_, _, rfl, rfl⟩ (fun a => mCtr_no) vcX11_isDigit

def spX11_reads : mSp := shR (fun _ i I Q => i = some 200 ∧ ∃ B N a, tpS I B N ∧ I 200 8 = a ∧ (0 ≤ a ∧ a ≤ N) ∧ mrg (I 200 11) ∧ ∀ I' : mM, frR I' I → tkS I' B N a → Q (.inl none) I')
def SX11_reads : Nat → mSp := fun a => match a with
  | 0 => spX11_isLetter
  | 1 => spX11_see
  | 2 => spX11_isDigit
  | _ => fun _ _ _ _ => False
theorem SX11_reads_0 : SX11_reads 0 = spX11_isLetter := Eq.trans rfl rfl
theorem SX11_reads_1 : SX11_reads 1 = spX11_see := Eq.trans rfl rfl
theorem SX11_reads_2 : SX11_reads 2 = spX11_isDigit := Eq.trans rfl rfl
theorem cutsX11_reads {t : Nat} {bs : List Bool} (h : cutX11_reads t = some bs) : (t = 0 ∧ bs = [true, false]) ∨ (t = 94 ∧ bs = [true, false]) ∨ (t = 141 ∧ bs = [true, false]) := by
  unfold cutX11_reads at h
  simp only [mLk] at h
  by_cases h0 : 0 = t
  · subst h0
    simp at h
    exact Or.inl ⟨rfl, h.symm⟩
  rw [if_neg h0] at h
  by_cases h1 : 94 = t
  · subst h1
    simp at h
    exact Or.inr (Or.inl ⟨rfl, h.symm⟩)
  rw [if_neg h1] at h
  by_cases h2 : 141 = t
  · subst h2
    simp at h
    exact Or.inr (Or.inr (⟨rfl, h.symm⟩))
  rw [if_neg h2] at h
  cases h
set_option maxRecDepth 100000 in
set_option maxHeartbeats 1000000 in
theorem vcX11_reads (fl : Nat → Bool) (avs : List mV) (I : mM) (Q : mO → mM → Prop) (hsp : spX11_reads fl avs I Q) : mVC SX11_reads fl Q kX11_reads cutX11_reads 2 avs I := by
  obtain ⟨i, rfl, h0⟩ := shR_inv hsp
  obtain ⟨rfl, B, N, a, hT, ha, han, h11, h⟩ := h0
  have t7 := hT.1
  have t8 := hT.2.1
  have tb := hT.2.2
  have bb := bg_bd B han.2
  refine ⟨rfl, (fun m pc lv st I1 => st = [] ∧ lv = [some (mR (some 200)), none] ∧ frR I1 I ∧ mrg (I1 200 11) ∧ ∃ x : Int, I1 200 8 = x ∧ (a ≤ x ∧ x ≤ N) ∧ (if pc = 0 then m = (2000 - x).toNat ∧ bgT B N x = bgT B N a else (bgT B N a < N) ∧ I1 200 9 = bgT B N a ∧ bgT B N a ≤ x ∧ m = (1000 - x).toNat ∧ (if pc = 94 then letP (B (bgT B N a)) ∧ scT letP B N x = scT letP B N (bgT B N a) else digP (B (bgT B N a)) ∧ scT digP B N x = scT digP B N (bgT B N a) ∧ I1 200 11 = vaN B (bgT B N a) (x - bgT B N a).toNat ∧ (∀ j : Int, bgT B N a ≤ j → j < x → digP (B j))))), ?_, ?_⟩
  · intro n t bs hbs lv st I1 hc
    rcases cutsX11_reads hbs with ⟨rfl, rfl⟩ | ⟨rfl, rfl⟩ | ⟨rfl, rfl⟩
    · skip
      rw [sfxX11_reads_0]
      obtain ⟨rfl, rfl, hF, h11, x, hx, hxn, hm, hbg⟩ := hc
      have e204 := hF.1 204 (by decide)
      have e7 := hF.2 7 (by decide)
      rw [t7] at e7
      have g94 : ∀ _ : Unit, bgT B N a = x → x < N → letP (B x) → ∃ n', n' < n ∧ frR (mSet I1 200 9 x) I ∧ mrg (I1 200 11) ∧ ∃ x_1 : Int, x = x_1 ∧ (a ≤ x_1 ∧ x_1 ≤ N) ∧ bgT B N a < N ∧ x = bgT B N a ∧ bgT B N a ≤ x_1 ∧ n' = (1000 - x_1).toNat ∧ letP (B (bgT B N a)) ∧ scT letP B N x_1 = scT letP B N (bgT B N a) := fun _ hs z y => by
        refine ⟨(1000 - x).toNat, by omega, hF.set (by decide) _, h11, x, rfl, hxn, by omega, hs.symm, by omega, rfl, by rw [hs]; exact y, by rw [hs]⟩
      have g141 : ∀ _ : Unit, bgT B N a = x → x < N → digP (B x) → ∃ n', n' < n ∧ frR (mSet (mSet I1 200 9 x) 200 11 0) I ∧ ∃ x_1 : Int, x = x_1 ∧ (a ≤ x_1 ∧ x_1 ≤ N) ∧ bgT B N a < N ∧ x = bgT B N a ∧ bgT B N a ≤ x_1 ∧ n' = (1000 - x_1).toNat ∧ digP (B (bgT B N a)) ∧ scT digP B N x_1 = scT digP B N (bgT B N a) ∧ 0 = vaN B (bgT B N a) (x_1 - bgT B N a).toNat ∧ (∀ j : Int, bgT B N a ≤ j → j < x_1 → digP (B j)) := fun _ hs z y => by
        refine ⟨(1000 - x).toNat, by omega, (hF.set (by decide) _).set (by decide) _, x, rfl, hxn, by omega, hs.symm, by omega, rfl, by rw [hs]; exact y, by rw [hs], ?_, fun j j0 j1 => by omega⟩
        rw [hs, show (x - x).toNat = 0 by omega]
        rfl
      rcases Int.lt_or_le x N with z | z
      · have bx := tb x (by omega) (by omega)
        have ex : I1 204 x = B x := by rw [e204]; exact bx.1
        have ss := scT_s blkP B z
        by_cases y : blkP (B x)
        · rw [if_pos y] at ss
          have key : ∃ n', n' < n ∧ frR (mSet I1 200 8 (x + 1)) I ∧ mrg (I1 200 11) ∧ ∃ x_1 : Int, x + 1 = x_1 ∧ (a ≤ x_1 ∧ x_1 ≤ N) ∧ n' = (2000 - x_1).toNat ∧ bgT B N x_1 = bgT B N a := ⟨(2000 - (x + 1)).toNat, by omega, hF.set (by decide) _, h11, x + 1, rfl, by omega, rfl, by rw [← hbg]; exact ss.symm⟩
          clear h g94 g141
          simp only [false_and, and_false, true_or, or_true, false_or, or_false, true_and, and_true, true_implies, false_implies, implies_true, not_true_eq_false, not_false_eq_true, and_self, List.length_cons, List.length_nil, mNoCut_, mCat_n, mCat_I, mCat_L, mCat_R, mIsL_n, mIsL_I, mIsL_R, mIsL_L, Nat.reduceAdd, Nat.reduceSub, Nat.reduceLeDiff, Nat.reduceLT, Nat.reduceEqDiff, Nat.zero_le, Int.reduceEq, Int.reduceLT, Int.reduceLE, Int.reduceNeg, Int.reduceAdd, if_true, if_false, reduceIte, reduceCtorEq, Bool.false_eq_true, ne_eq, qCmp_0, qCmp_1, qCmp_2, qCmp_3, qCmp_4, qCmp_5, ib_0, ib_1, ib_2, lb_0, lb_1, lb_2, dv_0, dv_1, wq_ic, wq_ld_i, wq_ld_a, wq_st_i, wq_ib, wq_icmp, wq_if, wq_goto, wq_get, mGet_0, mGet_1, mGet_2, mGet_3, wq_putI, wq_putL, wq_ald, wq_dupI, wq_dupR, dup_I, dup_R, wq_ret0, wq_ret1, wq_ret2, wq_ret3, wq_ret4, ldR0, fk_11_8, fk_11_7, fk_11_4, mrg_32_, mrg_10_, mrg_1_, fk_11_9, mrg_0_, fk_11_10, stI1, ldI1, wq_callS1_1, wq_callV2_0, fk_11_11, mrg_3_, mrg_48_, mrg_4_, mrg_2_, mrg_59_, mPut_s, mPut_I0, mPut_R0, mPut_L0, mPut_I1, mPut_R1, mPut_L1, mGo_n, sfxX11_reads_0, cutX11_reads_0, sfxX11_reads_39, cutX11_reads_39, sfxX11_reads_52, cutX11_reads_52, sfxX11_reads_77, cutX11_reads_77, sfxX11_reads_94, cutX11_reads_94, sfxX11_reads_121, cutX11_reads_121, sfxX11_reads_129, cutX11_reads_129, sfxX11_reads_141, cutX11_reads_141, sfxX11_reads_192, cutX11_reads_192, sfxX11_reads_196, cutX11_reads_196, sfxX11_reads_212, cutX11_reads_212, sfxX11_reads_230, cutX11_reads_230, sfxX11_reads_231, cutX11_reads_231, sfxX11_reads_237, cutX11_reads_237, sfxX11_reads_248, cutX11_reads_248, sfxX11_reads_249, cutX11_reads_249, sfxX11_reads_262, cutX11_reads_262, wq_cut, mGo_c, mMask_t, mMask_f, mMask_n, kX11_reads_262, kX11_reads_249, kX11_reads_248, kX11_reads_237, kX11_reads_231, kX11_reads_230, kX11_reads_212, kX11_reads_196, kX11_reads_192, kX11_reads_141, kX11_reads_129, kX11_reads_121, kX11_reads_94, kX11_reads_77, kX11_reads_52, kX11_reads_39, kX11_reads_0, sk_200, al_200, rf_200_4, sk_204, al_204, sn_204, ald_n, ro0_n, al_ro, ↓SX11_reads_0, ↓SX11_reads_1, ↓SX11_reads_2, ↓shqI_, ↓shqRI_, ↓spX11_isLetter, ↓spX11_see, ↓spX11_isDigit, mrg, mrl, mSet_ap, ncast, Option.some.injEq, hx, e7, ex]
          (try simp only [mrg, mrl] at *) <;> repeat' (first | (with_reducible assumption) | (with_reducible apply And.intro) | intro _)
          all_goals first | omega | exact key | skip
        · rw [if_neg y] at ss
          have hs : bgT B N a = x := by rw [← hbg]; exact ss
          have q3 : ∀ _ : Unit, B x = 59 → tkS (mSet (mSet (mSet I1 200 9 x) 200 10 3) 200 8 (x + 1)) B N a := fun _ w => by
            have w1 : ¬ letP (B x) := by omega
            have w2 : ¬ digP (B x) := by omega
            unfold tkS tkT enT
            rw [hs, if_neg (by omega), if_neg w1, if_neg w2, if_neg (by omega), if_neg w1, if_neg w2, if_pos w]
            exact ⟨set_eq, by rw [set_nq (by decide), set_nq (by decide), set_eq], by rw [set_nq (by decide), set_eq], fun e => absurd e (by decide), by rw [set_nq (by decide), set_nq (by decide), set_nq (by decide)]; exact h11⟩
          have q4 : ∀ _ : Unit, B x ≠ 59 → ¬ letP (B x) → ¬ digP (B x) → tkS (mSet (mSet (mSet I1 200 9 x) 200 10 4) 200 8 (x + 1)) B N a := fun _ w w1 w2 => by
            unfold tkS tkT enT
            rw [hs, if_neg (by omega), if_neg w1, if_neg w2, if_neg (by omega), if_neg w1, if_neg w2, if_neg w]
            exact ⟨set_eq, by rw [set_nq (by decide), set_nq (by decide), set_eq], by rw [set_nq (by decide), set_eq], fun e => absurd e (by decide), by rw [set_nq (by decide), set_nq (by decide), set_nq (by decide)]; exact h11⟩
          have q3 := fun _ : Unit => fun w => h _ (((hF.set (p := 9) (by decide) _).set (p := 10) (by decide) _).set (p := 8) (by decide) _) (q3 () w)
          have q4 := fun _ : Unit => fun w w1 w2 => h _ (((hF.set (p := 9) (by decide) _).set (p := 10) (by decide) _).set (p := 8) (by decide) _) (q4 () w w1 w2)
          clear h
          simp only [false_and, and_false, true_or, or_true, false_or, or_false, true_and, and_true, true_implies, false_implies, implies_true, not_true_eq_false, not_false_eq_true, and_self, List.length_cons, List.length_nil, mNoCut_, mCat_n, mCat_I, mCat_L, mCat_R, mIsL_n, mIsL_I, mIsL_R, mIsL_L, Nat.reduceAdd, Nat.reduceSub, Nat.reduceLeDiff, Nat.reduceLT, Nat.reduceEqDiff, Nat.zero_le, Int.reduceEq, Int.reduceLT, Int.reduceLE, Int.reduceNeg, Int.reduceAdd, if_true, if_false, reduceIte, reduceCtorEq, Bool.false_eq_true, ne_eq, qCmp_0, qCmp_1, qCmp_2, qCmp_3, qCmp_4, qCmp_5, ib_0, ib_1, ib_2, lb_0, lb_1, lb_2, dv_0, dv_1, wq_ic, wq_ld_i, wq_ld_a, wq_st_i, wq_ib, wq_icmp, wq_if, wq_goto, wq_get, mGet_0, mGet_1, mGet_2, mGet_3, wq_putI, wq_putL, wq_ald, wq_dupI, wq_dupR, dup_I, dup_R, wq_ret0, wq_ret1, wq_ret2, wq_ret3, wq_ret4, ldR0, fk_11_8, fk_11_7, fk_11_4, mrg_32_, mrg_10_, mrg_1_, fk_11_9, mrg_0_, fk_11_10, stI1, ldI1, wq_callS1_1, wq_callV2_0, fk_11_11, mrg_3_, mrg_48_, mrg_4_, mrg_2_, mrg_59_, mPut_s, mPut_I0, mPut_R0, mPut_L0, mPut_I1, mPut_R1, mPut_L1, mGo_n, sfxX11_reads_0, cutX11_reads_0, sfxX11_reads_39, cutX11_reads_39, sfxX11_reads_52, cutX11_reads_52, sfxX11_reads_77, cutX11_reads_77, sfxX11_reads_94, cutX11_reads_94, sfxX11_reads_121, cutX11_reads_121, sfxX11_reads_129, cutX11_reads_129, sfxX11_reads_141, cutX11_reads_141, sfxX11_reads_192, cutX11_reads_192, sfxX11_reads_196, cutX11_reads_196, sfxX11_reads_212, cutX11_reads_212, sfxX11_reads_230, cutX11_reads_230, sfxX11_reads_231, cutX11_reads_231, sfxX11_reads_237, cutX11_reads_237, sfxX11_reads_248, cutX11_reads_248, sfxX11_reads_249, cutX11_reads_249, sfxX11_reads_262, cutX11_reads_262, wq_cut, mGo_c, mMask_t, mMask_f, mMask_n, kX11_reads_262, kX11_reads_249, kX11_reads_248, kX11_reads_237, kX11_reads_231, kX11_reads_230, kX11_reads_212, kX11_reads_196, kX11_reads_192, kX11_reads_141, kX11_reads_129, kX11_reads_121, kX11_reads_94, kX11_reads_77, kX11_reads_52, kX11_reads_39, kX11_reads_0, sk_200, al_200, rf_200_4, sk_204, al_204, sn_204, ald_n, ro0_n, al_ro, ↓SX11_reads_0, ↓SX11_reads_1, ↓SX11_reads_2, ↓shqI_, ↓shqRI_, ↓spX11_isLetter, ↓spX11_see, ↓spX11_isDigit, mrg, mrl, mSet_ap, ncast, Option.some.injEq, hx, e7, ex]
          (try simp only [mrg, mrl] at *) <;> repeat' (first | (with_reducible assumption) | (with_reducible apply And.intro) | intro _)
          all_goals first | omega | exact (g94 () hs z (by assumption)) | exact (g141 () hs z (by assumption)) | exact q3 () (by omega) | exact q4 () (by omega) (by assumption) (by assumption) | skip
      · have ss := scT_e blkP B z
        have hs : bgT B N a = x := by rw [← hbg]; exact ss
        have q0 : tkS (mSet (mSet I1 200 9 x) 200 10 0) B N a := by
          unfold tkS tkT enT
          rw [hs, if_pos z, if_pos z]
          exact ⟨by rw [set_nq (by decide), set_nq (by decide)]; exact hx, by rw [set_nq (by decide), set_eq], set_eq, fun e => absurd e (by decide), by rw [set_nq (by decide), set_nq (by decide)]; exact h11⟩
        have q0 := h _ ((hF.set (p := 9) (by decide) _).set (p := 10) (by decide) _) q0
        clear h g94 g141
        simp only [false_and, and_false, true_or, or_true, false_or, or_false, true_and, and_true, true_implies, false_implies, implies_true, not_true_eq_false, not_false_eq_true, and_self, List.length_cons, List.length_nil, mNoCut_, mCat_n, mCat_I, mCat_L, mCat_R, mIsL_n, mIsL_I, mIsL_R, mIsL_L, Nat.reduceAdd, Nat.reduceSub, Nat.reduceLeDiff, Nat.reduceLT, Nat.reduceEqDiff, Nat.zero_le, Int.reduceEq, Int.reduceLT, Int.reduceLE, Int.reduceNeg, Int.reduceAdd, if_true, if_false, reduceIte, reduceCtorEq, Bool.false_eq_true, ne_eq, qCmp_0, qCmp_1, qCmp_2, qCmp_3, qCmp_4, qCmp_5, ib_0, ib_1, ib_2, lb_0, lb_1, lb_2, dv_0, dv_1, wq_ic, wq_ld_i, wq_ld_a, wq_st_i, wq_ib, wq_icmp, wq_if, wq_goto, wq_get, mGet_0, mGet_1, mGet_2, mGet_3, wq_putI, wq_putL, wq_ald, wq_dupI, wq_dupR, dup_I, dup_R, wq_ret0, wq_ret1, wq_ret2, wq_ret3, wq_ret4, ldR0, fk_11_8, fk_11_7, fk_11_4, mrg_32_, mrg_10_, mrg_1_, fk_11_9, mrg_0_, fk_11_10, stI1, ldI1, wq_callS1_1, wq_callV2_0, fk_11_11, mrg_3_, mrg_48_, mrg_4_, mrg_2_, mrg_59_, mPut_s, mPut_I0, mPut_R0, mPut_L0, mPut_I1, mPut_R1, mPut_L1, mGo_n, sfxX11_reads_0, cutX11_reads_0, sfxX11_reads_39, cutX11_reads_39, sfxX11_reads_52, cutX11_reads_52, sfxX11_reads_77, cutX11_reads_77, sfxX11_reads_94, cutX11_reads_94, sfxX11_reads_121, cutX11_reads_121, sfxX11_reads_129, cutX11_reads_129, sfxX11_reads_141, cutX11_reads_141, sfxX11_reads_192, cutX11_reads_192, sfxX11_reads_196, cutX11_reads_196, sfxX11_reads_212, cutX11_reads_212, sfxX11_reads_230, cutX11_reads_230, sfxX11_reads_231, cutX11_reads_231, sfxX11_reads_237, cutX11_reads_237, sfxX11_reads_248, cutX11_reads_248, sfxX11_reads_249, cutX11_reads_249, sfxX11_reads_262, cutX11_reads_262, wq_cut, mGo_c, mMask_t, mMask_f, mMask_n, kX11_reads_262, kX11_reads_249, kX11_reads_248, kX11_reads_237, kX11_reads_231, kX11_reads_230, kX11_reads_212, kX11_reads_196, kX11_reads_192, kX11_reads_141, kX11_reads_129, kX11_reads_121, kX11_reads_94, kX11_reads_77, kX11_reads_52, kX11_reads_39, kX11_reads_0, sk_200, al_200, rf_200_4, sk_204, al_204, sn_204, ald_n, ro0_n, al_ro, ↓SX11_reads_0, ↓SX11_reads_1, ↓SX11_reads_2, ↓shqI_, ↓shqRI_, ↓spX11_isLetter, ↓spX11_see, ↓spX11_isDigit, mrg, mrl, mSet_ap, ncast, Option.some.injEq, hx, e7]
        (try simp only [mrg, mrl] at *) <;> repeat' (first | (with_reducible assumption) | (with_reducible apply And.intro) | intro _)
        all_goals first | omega | exact q0 | skip
    · skip
      rw [sfxX11_reads_94]
      obtain ⟨rfl, rfl, hF, h11, x, hx, hxn, hb1, h9, hb2, hm, hl, he⟩ := hc
      have e204 := hF.1 204 (by decide)
      have e7 := hF.2 7 (by decide)
      rw [t7] at e7
      have fin : ∀ _ : Unit, scT letP B N x = x → tkS (mSet I1 200 10 1) B N a := fun _ w => by
        unfold tkS tkT enT
        rw [if_neg (by omega), if_pos hl, if_neg (by omega), if_pos hl, ← he, w]
        exact ⟨by rw [set_nq (by decide)]; exact hx, by rw [set_nq (by decide)]; exact h9, set_eq, fun e => absurd e (by decide), by rw [set_nq (by decide)]; exact h11⟩
      have fin := fun _ : Unit => fun w => h _ (hF.set (p := 10) (by decide) _) (fin () w)
      clear h
      rcases Int.lt_or_le x N with z | z
      · have bx := tb x (by omega) (by omega)
        have ex : I1 204 x = B x := by rw [e204]; exact bx.1
        have ss := scT_s letP B z
        by_cases y : letP (B x)
        · rw [if_pos y] at ss
          have key : ∃ n', n' < n ∧ frR (mSet I1 200 8 (x + 1)) I ∧ mrg (I1 200 11) ∧ ∃ x_1 : Int, x + 1 = x_1 ∧ (a ≤ x_1 ∧ x_1 ≤ N) ∧ bgT B N a < N ∧ I1 200 9 = bgT B N a ∧ bgT B N a ≤ x_1 ∧ n' = (1000 - x_1).toNat ∧ letP (B (bgT B N a)) ∧ scT letP B N x_1 = scT letP B N (bgT B N a) := ⟨(1000 - (x + 1)).toNat, by omega, hF.set (by decide) _, h11, x + 1, rfl, by omega, hb1, h9, by omega, rfl, hl, by rw [← he]; exact ss.symm⟩
          clear fin
          simp only [false_and, and_false, true_or, or_true, false_or, or_false, true_and, and_true, true_implies, false_implies, implies_true, not_true_eq_false, not_false_eq_true, and_self, List.length_cons, List.length_nil, mNoCut_, mCat_n, mCat_I, mCat_L, mCat_R, mIsL_n, mIsL_I, mIsL_R, mIsL_L, Nat.reduceAdd, Nat.reduceSub, Nat.reduceLeDiff, Nat.reduceLT, Nat.reduceEqDiff, Nat.zero_le, Int.reduceEq, Int.reduceLT, Int.reduceLE, Int.reduceNeg, Int.reduceAdd, if_true, if_false, reduceIte, reduceCtorEq, Bool.false_eq_true, ne_eq, qCmp_0, qCmp_1, qCmp_2, qCmp_3, qCmp_4, qCmp_5, ib_0, ib_1, ib_2, lb_0, lb_1, lb_2, dv_0, dv_1, wq_ic, wq_ld_i, wq_ld_a, wq_st_i, wq_ib, wq_icmp, wq_if, wq_goto, wq_get, mGet_0, mGet_1, mGet_2, mGet_3, wq_putI, wq_putL, wq_ald, wq_dupI, wq_dupR, dup_I, dup_R, wq_ret0, wq_ret1, wq_ret2, wq_ret3, wq_ret4, ldR0, fk_11_8, fk_11_7, fk_11_4, mrg_32_, mrg_10_, mrg_1_, fk_11_9, mrg_0_, fk_11_10, stI1, ldI1, wq_callS1_1, wq_callV2_0, fk_11_11, mrg_3_, mrg_48_, mrg_4_, mrg_2_, mrg_59_, mPut_s, mPut_I0, mPut_R0, mPut_L0, mPut_I1, mPut_R1, mPut_L1, mGo_n, sfxX11_reads_0, cutX11_reads_0, sfxX11_reads_39, cutX11_reads_39, sfxX11_reads_52, cutX11_reads_52, sfxX11_reads_77, cutX11_reads_77, sfxX11_reads_94, cutX11_reads_94, sfxX11_reads_121, cutX11_reads_121, sfxX11_reads_129, cutX11_reads_129, sfxX11_reads_141, cutX11_reads_141, sfxX11_reads_192, cutX11_reads_192, sfxX11_reads_196, cutX11_reads_196, sfxX11_reads_212, cutX11_reads_212, sfxX11_reads_230, cutX11_reads_230, sfxX11_reads_231, cutX11_reads_231, sfxX11_reads_237, cutX11_reads_237, sfxX11_reads_248, cutX11_reads_248, sfxX11_reads_249, cutX11_reads_249, sfxX11_reads_262, cutX11_reads_262, wq_cut, mGo_c, mMask_t, mMask_f, mMask_n, kX11_reads_262, kX11_reads_249, kX11_reads_248, kX11_reads_237, kX11_reads_231, kX11_reads_230, kX11_reads_212, kX11_reads_196, kX11_reads_192, kX11_reads_141, kX11_reads_129, kX11_reads_121, kX11_reads_94, kX11_reads_77, kX11_reads_52, kX11_reads_39, kX11_reads_0, sk_200, al_200, rf_200_4, sk_204, al_204, sn_204, ald_n, ro0_n, al_ro, ↓SX11_reads_0, ↓SX11_reads_1, ↓SX11_reads_2, ↓shqI_, ↓shqRI_, ↓spX11_isLetter, ↓spX11_see, ↓spX11_isDigit, mrg, mrl, mSet_ap, ncast, Option.some.injEq, hx, e7, ex]
          (try simp only [mrg, mrl] at *) <;> repeat' (first | (with_reducible assumption) | (with_reducible apply And.intro) | intro _)
          all_goals first | omega | exact key | skip
        · rw [if_neg y] at ss
          have fin := fin () ss
          simp only [false_and, and_false, true_or, or_true, false_or, or_false, true_and, and_true, true_implies, false_implies, implies_true, not_true_eq_false, not_false_eq_true, and_self, List.length_cons, List.length_nil, mNoCut_, mCat_n, mCat_I, mCat_L, mCat_R, mIsL_n, mIsL_I, mIsL_R, mIsL_L, Nat.reduceAdd, Nat.reduceSub, Nat.reduceLeDiff, Nat.reduceLT, Nat.reduceEqDiff, Nat.zero_le, Int.reduceEq, Int.reduceLT, Int.reduceLE, Int.reduceNeg, Int.reduceAdd, if_true, if_false, reduceIte, reduceCtorEq, Bool.false_eq_true, ne_eq, qCmp_0, qCmp_1, qCmp_2, qCmp_3, qCmp_4, qCmp_5, ib_0, ib_1, ib_2, lb_0, lb_1, lb_2, dv_0, dv_1, wq_ic, wq_ld_i, wq_ld_a, wq_st_i, wq_ib, wq_icmp, wq_if, wq_goto, wq_get, mGet_0, mGet_1, mGet_2, mGet_3, wq_putI, wq_putL, wq_ald, wq_dupI, wq_dupR, dup_I, dup_R, wq_ret0, wq_ret1, wq_ret2, wq_ret3, wq_ret4, ldR0, fk_11_8, fk_11_7, fk_11_4, mrg_32_, mrg_10_, mrg_1_, fk_11_9, mrg_0_, fk_11_10, stI1, ldI1, wq_callS1_1, wq_callV2_0, fk_11_11, mrg_3_, mrg_48_, mrg_4_, mrg_2_, mrg_59_, mPut_s, mPut_I0, mPut_R0, mPut_L0, mPut_I1, mPut_R1, mPut_L1, mGo_n, sfxX11_reads_0, cutX11_reads_0, sfxX11_reads_39, cutX11_reads_39, sfxX11_reads_52, cutX11_reads_52, sfxX11_reads_77, cutX11_reads_77, sfxX11_reads_94, cutX11_reads_94, sfxX11_reads_121, cutX11_reads_121, sfxX11_reads_129, cutX11_reads_129, sfxX11_reads_141, cutX11_reads_141, sfxX11_reads_192, cutX11_reads_192, sfxX11_reads_196, cutX11_reads_196, sfxX11_reads_212, cutX11_reads_212, sfxX11_reads_230, cutX11_reads_230, sfxX11_reads_231, cutX11_reads_231, sfxX11_reads_237, cutX11_reads_237, sfxX11_reads_248, cutX11_reads_248, sfxX11_reads_249, cutX11_reads_249, sfxX11_reads_262, cutX11_reads_262, wq_cut, mGo_c, mMask_t, mMask_f, mMask_n, kX11_reads_262, kX11_reads_249, kX11_reads_248, kX11_reads_237, kX11_reads_231, kX11_reads_230, kX11_reads_212, kX11_reads_196, kX11_reads_192, kX11_reads_141, kX11_reads_129, kX11_reads_121, kX11_reads_94, kX11_reads_77, kX11_reads_52, kX11_reads_39, kX11_reads_0, sk_200, al_200, rf_200_4, sk_204, al_204, sn_204, ald_n, ro0_n, al_ro, ↓SX11_reads_0, ↓SX11_reads_1, ↓SX11_reads_2, ↓shqI_, ↓shqRI_, ↓spX11_isLetter, ↓spX11_see, ↓spX11_isDigit, mrg, mrl, mSet_ap, ncast, Option.some.injEq, hx, e7, ex]
          (try simp only [mrg, mrl] at *) <;> repeat' (first | (with_reducible assumption) | (with_reducible apply And.intro) | intro _)
          all_goals first | omega | exact fin | skip
      · have fin := fin () (scT_e letP B z)
        simp only [false_and, and_false, true_or, or_true, false_or, or_false, true_and, and_true, true_implies, false_implies, implies_true, not_true_eq_false, not_false_eq_true, and_self, List.length_cons, List.length_nil, mNoCut_, mCat_n, mCat_I, mCat_L, mCat_R, mIsL_n, mIsL_I, mIsL_R, mIsL_L, Nat.reduceAdd, Nat.reduceSub, Nat.reduceLeDiff, Nat.reduceLT, Nat.reduceEqDiff, Nat.zero_le, Int.reduceEq, Int.reduceLT, Int.reduceLE, Int.reduceNeg, Int.reduceAdd, if_true, if_false, reduceIte, reduceCtorEq, Bool.false_eq_true, ne_eq, qCmp_0, qCmp_1, qCmp_2, qCmp_3, qCmp_4, qCmp_5, ib_0, ib_1, ib_2, lb_0, lb_1, lb_2, dv_0, dv_1, wq_ic, wq_ld_i, wq_ld_a, wq_st_i, wq_ib, wq_icmp, wq_if, wq_goto, wq_get, mGet_0, mGet_1, mGet_2, mGet_3, wq_putI, wq_putL, wq_ald, wq_dupI, wq_dupR, dup_I, dup_R, wq_ret0, wq_ret1, wq_ret2, wq_ret3, wq_ret4, ldR0, fk_11_8, fk_11_7, fk_11_4, mrg_32_, mrg_10_, mrg_1_, fk_11_9, mrg_0_, fk_11_10, stI1, ldI1, wq_callS1_1, wq_callV2_0, fk_11_11, mrg_3_, mrg_48_, mrg_4_, mrg_2_, mrg_59_, mPut_s, mPut_I0, mPut_R0, mPut_L0, mPut_I1, mPut_R1, mPut_L1, mGo_n, sfxX11_reads_0, cutX11_reads_0, sfxX11_reads_39, cutX11_reads_39, sfxX11_reads_52, cutX11_reads_52, sfxX11_reads_77, cutX11_reads_77, sfxX11_reads_94, cutX11_reads_94, sfxX11_reads_121, cutX11_reads_121, sfxX11_reads_129, cutX11_reads_129, sfxX11_reads_141, cutX11_reads_141, sfxX11_reads_192, cutX11_reads_192, sfxX11_reads_196, cutX11_reads_196, sfxX11_reads_212, cutX11_reads_212, sfxX11_reads_230, cutX11_reads_230, sfxX11_reads_231, cutX11_reads_231, sfxX11_reads_237, cutX11_reads_237, sfxX11_reads_248, cutX11_reads_248, sfxX11_reads_249, cutX11_reads_249, sfxX11_reads_262, cutX11_reads_262, wq_cut, mGo_c, mMask_t, mMask_f, mMask_n, kX11_reads_262, kX11_reads_249, kX11_reads_248, kX11_reads_237, kX11_reads_231, kX11_reads_230, kX11_reads_212, kX11_reads_196, kX11_reads_192, kX11_reads_141, kX11_reads_129, kX11_reads_121, kX11_reads_94, kX11_reads_77, kX11_reads_52, kX11_reads_39, kX11_reads_0, sk_200, al_200, rf_200_4, sk_204, al_204, sn_204, ald_n, ro0_n, al_ro, ↓SX11_reads_0, ↓SX11_reads_1, ↓SX11_reads_2, ↓shqI_, ↓shqRI_, ↓spX11_isLetter, ↓spX11_see, ↓spX11_isDigit, mrg, mrl, mSet_ap, ncast, Option.some.injEq, hx, e7]
        (try simp only [mrg, mrl] at *) <;> repeat' (first | (with_reducible assumption) | (with_reducible apply And.intro) | intro _)
        all_goals first | omega | exact fin | skip
    · skip
      rw [sfxX11_reads_141]
      obtain ⟨rfl, rfl, hF, h11, x, hx, hxn, hb1, h9, hb2, hm, hl, he, hv, hd⟩ := hc
      have e204 := hF.1 204 (by decide)
      have e7 := hF.2 7 (by decide)
      rw [t7] at e7
      have nl : ¬ letP (B (bgT B N a)) := by omega
      have fin : ∀ _ : Unit, scT digP B N x = x → ∀ v : Int, v = (if 3 < x - bgT B N a then 4 else 2) → tkS (mSet I1 200 10 v) B N a := fun _ w v hv' => by
        unfold tkS tkT enT vlT
        rw [if_neg (by omega), if_neg nl, if_pos hl, if_neg (by omega), if_neg nl, if_pos hl, ← he, w, ← hv']
        exact ⟨by rw [set_nq (by decide)]; exact hx, by rw [set_nq (by decide)]; exact h9, set_eq, fun _ => by rw [set_nq (by decide)]; exact hv, by rw [set_nq (by decide)]; exact h11⟩
      have fin := fun _ : Unit => fun w v hv' => h _ (hF.set (p := 10) (by decide) _) (fin () w v hv')
      clear h
      have vb := va_bd (B := B) (s := bgT B N a) (x - bgT B N a).toNat (fun j j0 j1 => hd j j0 (by omega))
      rw [← hv] at vb
      rcases Int.lt_or_le x N with z | z
      · have bx := tb x (by omega) (by omega)
        have ex : I1 204 x = B x := by rw [e204]; exact bx.1
        have ss := scT_s digP B z
        by_cases y : digP (B x)
        · rw [if_pos y] at ss
          have vs : vaN B (bgT B N a) ((x - bgT B N a).toNat + 1) = if (x - bgT B N a).toNat < 3 then 10 * vaN B (bgT B N a) (x - bgT B N a).toNat + B (bgT B N a + (x - bgT B N a).toNat) - 48 else vaN B (bgT B N a) (x - bgT B N a).toNat := rfl
          rw [← hv, show bgT B N a + ((x - bgT B N a).toNat : Int) = x by omega] at vs
          have key : ∀ v : Int, v = vaN B (bgT B N a) ((x - bgT B N a).toNat + 1) → mrg v → ∃ n', n' < n ∧ frR (mSet (mSet I1 200 11 v) 200 8 (x + 1)) I ∧ mrg v ∧ ∃ x_1 : Int, x + 1 = x_1 ∧ (a ≤ x_1 ∧ x_1 ≤ N) ∧ bgT B N a < N ∧ bgT B N a ≤ x_1 ∧ n' = (1000 - x_1).toNat ∧ digP (B (bgT B N a)) ∧ scT digP B N x_1 = scT digP B N (bgT B N a) ∧ v = vaN B (bgT B N a) (x_1 - bgT B N a).toNat ∧ (∀ j : Int, bgT B N a ≤ j → j < x_1 → digP (B j)) := fun v hv' rv => by
            refine ⟨(1000 - (x + 1)).toNat, by omega, (hF.set (by decide) _).set (by decide) _, rv, x + 1, rfl, by omega, hb1, by omega, rfl, hl, by rw [← he]; exact ss.symm, by rw [hv', show (x + 1 - bgT B N a).toNat = (x - bgT B N a).toNat + 1 by omega], fun j j0 j1 => ?_⟩
            by_cases e : j = x
            · rw [e]; exact y
            · exact hd j j0 (by omega)
          clear fin hd
          by_cases k3 : x - bgT B N a < 3
          · rw [if_pos (by omega)] at vs
            have k := key _ vs.symm ⟨by omega, by omega⟩
            clear key hv vs
            simp only [false_and, and_false, true_or, or_true, false_or, or_false, true_and, and_true, true_implies, false_implies, implies_true, not_true_eq_false, not_false_eq_true, and_self, List.length_cons, List.length_nil, mNoCut_, mCat_n, mCat_I, mCat_L, mCat_R, mIsL_n, mIsL_I, mIsL_R, mIsL_L, Nat.reduceAdd, Nat.reduceSub, Nat.reduceLeDiff, Nat.reduceLT, Nat.reduceEqDiff, Nat.zero_le, Int.reduceEq, Int.reduceLT, Int.reduceLE, Int.reduceNeg, Int.reduceAdd, if_true, if_false, reduceIte, reduceCtorEq, Bool.false_eq_true, ne_eq, qCmp_0, qCmp_1, qCmp_2, qCmp_3, qCmp_4, qCmp_5, ib_0, ib_1, ib_2, lb_0, lb_1, lb_2, dv_0, dv_1, wq_ic, wq_ld_i, wq_ld_a, wq_st_i, wq_ib, wq_icmp, wq_if, wq_goto, wq_get, mGet_0, mGet_1, mGet_2, mGet_3, wq_putI, wq_putL, wq_ald, wq_dupI, wq_dupR, dup_I, dup_R, wq_ret0, wq_ret1, wq_ret2, wq_ret3, wq_ret4, ldR0, fk_11_8, fk_11_7, fk_11_4, mrg_32_, mrg_10_, mrg_1_, fk_11_9, mrg_0_, fk_11_10, stI1, ldI1, wq_callS1_1, wq_callV2_0, fk_11_11, mrg_3_, mrg_48_, mrg_4_, mrg_2_, mrg_59_, mPut_s, mPut_I0, mPut_R0, mPut_L0, mPut_I1, mPut_R1, mPut_L1, mGo_n, sfxX11_reads_0, cutX11_reads_0, sfxX11_reads_39, cutX11_reads_39, sfxX11_reads_52, cutX11_reads_52, sfxX11_reads_77, cutX11_reads_77, sfxX11_reads_94, cutX11_reads_94, sfxX11_reads_121, cutX11_reads_121, sfxX11_reads_129, cutX11_reads_129, sfxX11_reads_141, cutX11_reads_141, sfxX11_reads_192, cutX11_reads_192, sfxX11_reads_196, cutX11_reads_196, sfxX11_reads_212, cutX11_reads_212, sfxX11_reads_230, cutX11_reads_230, sfxX11_reads_231, cutX11_reads_231, sfxX11_reads_237, cutX11_reads_237, sfxX11_reads_248, cutX11_reads_248, sfxX11_reads_249, cutX11_reads_249, sfxX11_reads_262, cutX11_reads_262, wq_cut, mGo_c, mMask_t, mMask_f, mMask_n, kX11_reads_262, kX11_reads_249, kX11_reads_248, kX11_reads_237, kX11_reads_231, kX11_reads_230, kX11_reads_212, kX11_reads_196, kX11_reads_192, kX11_reads_141, kX11_reads_129, kX11_reads_121, kX11_reads_94, kX11_reads_77, kX11_reads_52, kX11_reads_39, kX11_reads_0, sk_200, al_200, rf_200_4, sk_204, al_204, sn_204, ald_n, ro0_n, al_ro, ↓SX11_reads_0, ↓SX11_reads_1, ↓SX11_reads_2, ↓shqI_, ↓shqRI_, ↓spX11_isLetter, ↓spX11_see, ↓spX11_isDigit, mrg, mrl, mSet_ap, ncast, Option.some.injEq, hx, e7, ex, h9]
            (try simp only [mrg, mrl] at *) <;> repeat' (first | (with_reducible assumption) | (with_reducible apply And.intro) | intro _)
            all_goals first | omega | exact k | skip
          · rw [if_neg (by omega)] at vs
            have k := key _ vs.symm ⟨by omega, by omega⟩
            clear key hv vs
            simp only [false_and, and_false, true_or, or_true, false_or, or_false, true_and, and_true, true_implies, false_implies, implies_true, not_true_eq_false, not_false_eq_true, and_self, List.length_cons, List.length_nil, mNoCut_, mCat_n, mCat_I, mCat_L, mCat_R, mIsL_n, mIsL_I, mIsL_R, mIsL_L, Nat.reduceAdd, Nat.reduceSub, Nat.reduceLeDiff, Nat.reduceLT, Nat.reduceEqDiff, Nat.zero_le, Int.reduceEq, Int.reduceLT, Int.reduceLE, Int.reduceNeg, Int.reduceAdd, if_true, if_false, reduceIte, reduceCtorEq, Bool.false_eq_true, ne_eq, qCmp_0, qCmp_1, qCmp_2, qCmp_3, qCmp_4, qCmp_5, ib_0, ib_1, ib_2, lb_0, lb_1, lb_2, dv_0, dv_1, wq_ic, wq_ld_i, wq_ld_a, wq_st_i, wq_ib, wq_icmp, wq_if, wq_goto, wq_get, mGet_0, mGet_1, mGet_2, mGet_3, wq_putI, wq_putL, wq_ald, wq_dupI, wq_dupR, dup_I, dup_R, wq_ret0, wq_ret1, wq_ret2, wq_ret3, wq_ret4, ldR0, fk_11_8, fk_11_7, fk_11_4, mrg_32_, mrg_10_, mrg_1_, fk_11_9, mrg_0_, fk_11_10, stI1, ldI1, wq_callS1_1, wq_callV2_0, fk_11_11, mrg_3_, mrg_48_, mrg_4_, mrg_2_, mrg_59_, mPut_s, mPut_I0, mPut_R0, mPut_L0, mPut_I1, mPut_R1, mPut_L1, mGo_n, sfxX11_reads_0, cutX11_reads_0, sfxX11_reads_39, cutX11_reads_39, sfxX11_reads_52, cutX11_reads_52, sfxX11_reads_77, cutX11_reads_77, sfxX11_reads_94, cutX11_reads_94, sfxX11_reads_121, cutX11_reads_121, sfxX11_reads_129, cutX11_reads_129, sfxX11_reads_141, cutX11_reads_141, sfxX11_reads_192, cutX11_reads_192, sfxX11_reads_196, cutX11_reads_196, sfxX11_reads_212, cutX11_reads_212, sfxX11_reads_230, cutX11_reads_230, sfxX11_reads_231, cutX11_reads_231, sfxX11_reads_237, cutX11_reads_237, sfxX11_reads_248, cutX11_reads_248, sfxX11_reads_249, cutX11_reads_249, sfxX11_reads_262, cutX11_reads_262, wq_cut, mGo_c, mMask_t, mMask_f, mMask_n, kX11_reads_262, kX11_reads_249, kX11_reads_248, kX11_reads_237, kX11_reads_231, kX11_reads_230, kX11_reads_212, kX11_reads_196, kX11_reads_192, kX11_reads_141, kX11_reads_129, kX11_reads_121, kX11_reads_94, kX11_reads_77, kX11_reads_52, kX11_reads_39, kX11_reads_0, sk_200, al_200, rf_200_4, sk_204, al_204, sn_204, ald_n, ro0_n, al_ro, ↓SX11_reads_0, ↓SX11_reads_1, ↓SX11_reads_2, ↓shqI_, ↓shqRI_, ↓spX11_isLetter, ↓spX11_see, ↓spX11_isDigit, mrg, mrl, mSet_ap, ncast, Option.some.injEq, hx, e7, ex, h9]
            (try simp only [mrg, mrl] at *) <;> repeat' (first | (with_reducible assumption) | (with_reducible apply And.intro) | intro _)
            all_goals first | omega | exact k | skip
        · rw [if_neg y] at ss
          have f4 := fun w => fin () ss 4 (if_pos w).symm
          have f2 := fun w => fin () ss 2 (if_neg w).symm
          clear fin hd
          simp only [false_and, and_false, true_or, or_true, false_or, or_false, true_and, and_true, true_implies, false_implies, implies_true, not_true_eq_false, not_false_eq_true, and_self, List.length_cons, List.length_nil, mNoCut_, mCat_n, mCat_I, mCat_L, mCat_R, mIsL_n, mIsL_I, mIsL_R, mIsL_L, Nat.reduceAdd, Nat.reduceSub, Nat.reduceLeDiff, Nat.reduceLT, Nat.reduceEqDiff, Nat.zero_le, Int.reduceEq, Int.reduceLT, Int.reduceLE, Int.reduceNeg, Int.reduceAdd, if_true, if_false, reduceIte, reduceCtorEq, Bool.false_eq_true, ne_eq, qCmp_0, qCmp_1, qCmp_2, qCmp_3, qCmp_4, qCmp_5, ib_0, ib_1, ib_2, lb_0, lb_1, lb_2, dv_0, dv_1, wq_ic, wq_ld_i, wq_ld_a, wq_st_i, wq_ib, wq_icmp, wq_if, wq_goto, wq_get, mGet_0, mGet_1, mGet_2, mGet_3, wq_putI, wq_putL, wq_ald, wq_dupI, wq_dupR, dup_I, dup_R, wq_ret0, wq_ret1, wq_ret2, wq_ret3, wq_ret4, ldR0, fk_11_8, fk_11_7, fk_11_4, mrg_32_, mrg_10_, mrg_1_, fk_11_9, mrg_0_, fk_11_10, stI1, ldI1, wq_callS1_1, wq_callV2_0, fk_11_11, mrg_3_, mrg_48_, mrg_4_, mrg_2_, mrg_59_, mPut_s, mPut_I0, mPut_R0, mPut_L0, mPut_I1, mPut_R1, mPut_L1, mGo_n, sfxX11_reads_0, cutX11_reads_0, sfxX11_reads_39, cutX11_reads_39, sfxX11_reads_52, cutX11_reads_52, sfxX11_reads_77, cutX11_reads_77, sfxX11_reads_94, cutX11_reads_94, sfxX11_reads_121, cutX11_reads_121, sfxX11_reads_129, cutX11_reads_129, sfxX11_reads_141, cutX11_reads_141, sfxX11_reads_192, cutX11_reads_192, sfxX11_reads_196, cutX11_reads_196, sfxX11_reads_212, cutX11_reads_212, sfxX11_reads_230, cutX11_reads_230, sfxX11_reads_231, cutX11_reads_231, sfxX11_reads_237, cutX11_reads_237, sfxX11_reads_248, cutX11_reads_248, sfxX11_reads_249, cutX11_reads_249, sfxX11_reads_262, cutX11_reads_262, wq_cut, mGo_c, mMask_t, mMask_f, mMask_n, kX11_reads_262, kX11_reads_249, kX11_reads_248, kX11_reads_237, kX11_reads_231, kX11_reads_230, kX11_reads_212, kX11_reads_196, kX11_reads_192, kX11_reads_141, kX11_reads_129, kX11_reads_121, kX11_reads_94, kX11_reads_77, kX11_reads_52, kX11_reads_39, kX11_reads_0, sk_200, al_200, rf_200_4, sk_204, al_204, sn_204, ald_n, ro0_n, al_ro, ↓SX11_reads_0, ↓SX11_reads_1, ↓SX11_reads_2, ↓shqI_, ↓shqRI_, ↓spX11_isLetter, ↓spX11_see, ↓spX11_isDigit, mrg, mrl, mSet_ap, ncast, Option.some.injEq, hx, e7, ex, h9]
          (try simp only [mrg, mrl] at *) <;> repeat' (first | (with_reducible assumption) | (with_reducible apply And.intro) | intro _)
          all_goals first | omega | exact f4 (by omega) | exact f2 (by omega) | skip
      · have ss := scT_e digP B z
        have f4 := fun w => fin () ss 4 (if_pos w).symm
        have f2 := fun w => fin () ss 2 (if_neg w).symm
        clear fin hd
        simp only [false_and, and_false, true_or, or_true, false_or, or_false, true_and, and_true, true_implies, false_implies, implies_true, not_true_eq_false, not_false_eq_true, and_self, List.length_cons, List.length_nil, mNoCut_, mCat_n, mCat_I, mCat_L, mCat_R, mIsL_n, mIsL_I, mIsL_R, mIsL_L, Nat.reduceAdd, Nat.reduceSub, Nat.reduceLeDiff, Nat.reduceLT, Nat.reduceEqDiff, Nat.zero_le, Int.reduceEq, Int.reduceLT, Int.reduceLE, Int.reduceNeg, Int.reduceAdd, if_true, if_false, reduceIte, reduceCtorEq, Bool.false_eq_true, ne_eq, qCmp_0, qCmp_1, qCmp_2, qCmp_3, qCmp_4, qCmp_5, ib_0, ib_1, ib_2, lb_0, lb_1, lb_2, dv_0, dv_1, wq_ic, wq_ld_i, wq_ld_a, wq_st_i, wq_ib, wq_icmp, wq_if, wq_goto, wq_get, mGet_0, mGet_1, mGet_2, mGet_3, wq_putI, wq_putL, wq_ald, wq_dupI, wq_dupR, dup_I, dup_R, wq_ret0, wq_ret1, wq_ret2, wq_ret3, wq_ret4, ldR0, fk_11_8, fk_11_7, fk_11_4, mrg_32_, mrg_10_, mrg_1_, fk_11_9, mrg_0_, fk_11_10, stI1, ldI1, wq_callS1_1, wq_callV2_0, fk_11_11, mrg_3_, mrg_48_, mrg_4_, mrg_2_, mrg_59_, mPut_s, mPut_I0, mPut_R0, mPut_L0, mPut_I1, mPut_R1, mPut_L1, mGo_n, sfxX11_reads_0, cutX11_reads_0, sfxX11_reads_39, cutX11_reads_39, sfxX11_reads_52, cutX11_reads_52, sfxX11_reads_77, cutX11_reads_77, sfxX11_reads_94, cutX11_reads_94, sfxX11_reads_121, cutX11_reads_121, sfxX11_reads_129, cutX11_reads_129, sfxX11_reads_141, cutX11_reads_141, sfxX11_reads_192, cutX11_reads_192, sfxX11_reads_196, cutX11_reads_196, sfxX11_reads_212, cutX11_reads_212, sfxX11_reads_230, cutX11_reads_230, sfxX11_reads_231, cutX11_reads_231, sfxX11_reads_237, cutX11_reads_237, sfxX11_reads_248, cutX11_reads_248, sfxX11_reads_249, cutX11_reads_249, sfxX11_reads_262, cutX11_reads_262, wq_cut, mGo_c, mMask_t, mMask_f, mMask_n, kX11_reads_262, kX11_reads_249, kX11_reads_248, kX11_reads_237, kX11_reads_231, kX11_reads_230, kX11_reads_212, kX11_reads_196, kX11_reads_192, kX11_reads_141, kX11_reads_129, kX11_reads_121, kX11_reads_94, kX11_reads_77, kX11_reads_52, kX11_reads_39, kX11_reads_0, sk_200, al_200, rf_200_4, sk_204, al_204, sn_204, ald_n, ro0_n, al_ro, ↓SX11_reads_0, ↓SX11_reads_1, ↓SX11_reads_2, ↓shqI_, ↓shqRI_, ↓spX11_isLetter, ↓spX11_see, ↓spX11_isDigit, mrg, mrl, mSet_ap, ncast, Option.some.injEq, hx, e7, h9]
        (try simp only [mrg, mrl] at *) <;> repeat' (first | (with_reducible assumption) | (with_reducible apply And.intro) | intro _)
        all_goals first | omega | exact f4 (by omega) | exact f2 (by omega) | skip
  · show mWp _ _ _ _ _ _ kX11_reads_0 [some (mR (some 200)), none] [] I
    obtain ⟨x, hx'⟩ : ∃ x, x = a := ⟨_, rfl⟩
    have hx : I 200 8 = x := by rw [hx', ha]
    have hxn : a ≤ x ∧ x ≤ N := by omega
    have hbg : bgT B N x = bgT B N a := by rw [hx']
    have hF := frR.refl I
    have ku : ∀ {X : Nat → Prop}, (∃ n', n' < 5000 ∧ X n') → ∃ n', X n' := fun h => h.elim (fun n' h => ⟨n', h.2⟩)
    have e204 := hF.1 204 (by decide)
    have e7 := hF.2 7 (by decide)
    rw [t7] at e7
    have g94 : ∀ _ : Unit, bgT B N a = x → x < N → letP (B x) → ∃ n', n' < 5000 ∧ frR (mSet I 200 9 x) I ∧ mrg (I 200 11) ∧ ∃ x_1 : Int, x = x_1 ∧ (a ≤ x_1 ∧ x_1 ≤ N) ∧ bgT B N a < N ∧ x = bgT B N a ∧ bgT B N a ≤ x_1 ∧ n' = (1000 - x_1).toNat ∧ letP (B (bgT B N a)) ∧ scT letP B N x_1 = scT letP B N (bgT B N a) := fun _ hs z y => by
      refine ⟨(1000 - x).toNat, by omega, hF.set (by decide) _, h11, x, rfl, hxn, by omega, hs.symm, by omega, rfl, by rw [hs]; exact y, by rw [hs]⟩
    have g141 : ∀ _ : Unit, bgT B N a = x → x < N → digP (B x) → ∃ n', n' < 5000 ∧ frR (mSet (mSet I 200 9 x) 200 11 0) I ∧ ∃ x_1 : Int, x = x_1 ∧ (a ≤ x_1 ∧ x_1 ≤ N) ∧ bgT B N a < N ∧ x = bgT B N a ∧ bgT B N a ≤ x_1 ∧ n' = (1000 - x_1).toNat ∧ digP (B (bgT B N a)) ∧ scT digP B N x_1 = scT digP B N (bgT B N a) ∧ 0 = vaN B (bgT B N a) (x_1 - bgT B N a).toNat ∧ (∀ j : Int, bgT B N a ≤ j → j < x_1 → digP (B j)) := fun _ hs z y => by
      refine ⟨(1000 - x).toNat, by omega, (hF.set (by decide) _).set (by decide) _, x, rfl, hxn, by omega, hs.symm, by omega, rfl, by rw [hs]; exact y, by rw [hs], ?_, fun j j0 j1 => by omega⟩
      rw [hs, show (x - x).toNat = 0 by omega]
      rfl
    rcases Int.lt_or_le x N with z | z
    · have bx := tb x (by omega) (by omega)
      have ex : I 204 x = B x := by rw [e204]; exact bx.1
      have ss := scT_s blkP B z
      by_cases y : blkP (B x)
      · rw [if_pos y] at ss
        have key : ∃ n', n' < 5000 ∧ frR (mSet I 200 8 (x + 1)) I ∧ mrg (I 200 11) ∧ ∃ x_1 : Int, x + 1 = x_1 ∧ (a ≤ x_1 ∧ x_1 ≤ N) ∧ n' = (2000 - x_1).toNat ∧ bgT B N x_1 = bgT B N a := ⟨(2000 - (x + 1)).toNat, by omega, hF.set (by decide) _, h11, x + 1, rfl, by omega, rfl, by rw [← hbg]; exact ss.symm⟩
        clear h g94 g141
        simp only [false_and, and_false, true_or, or_true, false_or, or_false, true_and, and_true, true_implies, false_implies, implies_true, not_true_eq_false, not_false_eq_true, and_self, List.length_cons, List.length_nil, mNoCut_, mCat_n, mCat_I, mCat_L, mCat_R, mIsL_n, mIsL_I, mIsL_R, mIsL_L, Nat.reduceAdd, Nat.reduceSub, Nat.reduceLeDiff, Nat.reduceLT, Nat.reduceEqDiff, Nat.zero_le, Int.reduceEq, Int.reduceLT, Int.reduceLE, Int.reduceNeg, Int.reduceAdd, if_true, if_false, reduceIte, reduceCtorEq, Bool.false_eq_true, ne_eq, qCmp_0, qCmp_1, qCmp_2, qCmp_3, qCmp_4, qCmp_5, ib_0, ib_1, ib_2, lb_0, lb_1, lb_2, dv_0, dv_1, wq_ic, wq_ld_i, wq_ld_a, wq_st_i, wq_ib, wq_icmp, wq_if, wq_goto, wq_get, mGet_0, mGet_1, mGet_2, mGet_3, wq_putI, wq_putL, wq_ald, wq_dupI, wq_dupR, dup_I, dup_R, wq_ret0, wq_ret1, wq_ret2, wq_ret3, wq_ret4, ldR0, fk_11_8, fk_11_7, fk_11_4, mrg_32_, mrg_10_, mrg_1_, fk_11_9, mrg_0_, fk_11_10, stI1, ldI1, wq_callS1_1, wq_callV2_0, fk_11_11, mrg_3_, mrg_48_, mrg_4_, mrg_2_, mrg_59_, mPut_s, mPut_I0, mPut_R0, mPut_L0, mPut_I1, mPut_R1, mPut_L1, mGo_n, sfxX11_reads_0, cutX11_reads_0, sfxX11_reads_39, cutX11_reads_39, sfxX11_reads_52, cutX11_reads_52, sfxX11_reads_77, cutX11_reads_77, sfxX11_reads_94, cutX11_reads_94, sfxX11_reads_121, cutX11_reads_121, sfxX11_reads_129, cutX11_reads_129, sfxX11_reads_141, cutX11_reads_141, sfxX11_reads_192, cutX11_reads_192, sfxX11_reads_196, cutX11_reads_196, sfxX11_reads_212, cutX11_reads_212, sfxX11_reads_230, cutX11_reads_230, sfxX11_reads_231, cutX11_reads_231, sfxX11_reads_237, cutX11_reads_237, sfxX11_reads_248, cutX11_reads_248, sfxX11_reads_249, cutX11_reads_249, sfxX11_reads_262, cutX11_reads_262, wq_cut, mGo_c, mMask_t, mMask_f, mMask_n, kX11_reads_262, kX11_reads_249, kX11_reads_248, kX11_reads_237, kX11_reads_231, kX11_reads_230, kX11_reads_212, kX11_reads_196, kX11_reads_192, kX11_reads_141, kX11_reads_129, kX11_reads_121, kX11_reads_94, kX11_reads_77, kX11_reads_52, kX11_reads_39, kX11_reads_0, sk_200, al_200, rf_200_4, sk_204, al_204, sn_204, ald_n, ro0_n, al_ro, ↓SX11_reads_0, ↓SX11_reads_1, ↓SX11_reads_2, ↓shqI_, ↓shqRI_, ↓spX11_isLetter, ↓spX11_see, ↓spX11_isDigit, mrg, mrl, mSet_ap, ncast, Option.some.injEq, hx, e7, ex]
        (try simp only [mrg, mrl] at *) <;> repeat' (first | (with_reducible assumption) | (with_reducible apply And.intro) | intro _)
        all_goals first | omega | exact ku key | skip
      · rw [if_neg y] at ss
        have hs : bgT B N a = x := by rw [← hbg]; exact ss
        have q3 : ∀ _ : Unit, B x = 59 → tkS (mSet (mSet (mSet I 200 9 x) 200 10 3) 200 8 (x + 1)) B N a := fun _ w => by
          have w1 : ¬ letP (B x) := by omega
          have w2 : ¬ digP (B x) := by omega
          unfold tkS tkT enT
          rw [hs, if_neg (by omega), if_neg w1, if_neg w2, if_neg (by omega), if_neg w1, if_neg w2, if_pos w]
          exact ⟨set_eq, by rw [set_nq (by decide), set_nq (by decide), set_eq], by rw [set_nq (by decide), set_eq], fun e => absurd e (by decide), by rw [set_nq (by decide), set_nq (by decide), set_nq (by decide)]; exact h11⟩
        have q4 : ∀ _ : Unit, B x ≠ 59 → ¬ letP (B x) → ¬ digP (B x) → tkS (mSet (mSet (mSet I 200 9 x) 200 10 4) 200 8 (x + 1)) B N a := fun _ w w1 w2 => by
          unfold tkS tkT enT
          rw [hs, if_neg (by omega), if_neg w1, if_neg w2, if_neg (by omega), if_neg w1, if_neg w2, if_neg w]
          exact ⟨set_eq, by rw [set_nq (by decide), set_nq (by decide), set_eq], by rw [set_nq (by decide), set_eq], fun e => absurd e (by decide), by rw [set_nq (by decide), set_nq (by decide), set_nq (by decide)]; exact h11⟩
        have q3 := fun _ : Unit => fun w => h _ (((hF.set (p := 9) (by decide) _).set (p := 10) (by decide) _).set (p := 8) (by decide) _) (q3 () w)
        have q4 := fun _ : Unit => fun w w1 w2 => h _ (((hF.set (p := 9) (by decide) _).set (p := 10) (by decide) _).set (p := 8) (by decide) _) (q4 () w w1 w2)
        clear h
        simp only [false_and, and_false, true_or, or_true, false_or, or_false, true_and, and_true, true_implies, false_implies, implies_true, not_true_eq_false, not_false_eq_true, and_self, List.length_cons, List.length_nil, mNoCut_, mCat_n, mCat_I, mCat_L, mCat_R, mIsL_n, mIsL_I, mIsL_R, mIsL_L, Nat.reduceAdd, Nat.reduceSub, Nat.reduceLeDiff, Nat.reduceLT, Nat.reduceEqDiff, Nat.zero_le, Int.reduceEq, Int.reduceLT, Int.reduceLE, Int.reduceNeg, Int.reduceAdd, if_true, if_false, reduceIte, reduceCtorEq, Bool.false_eq_true, ne_eq, qCmp_0, qCmp_1, qCmp_2, qCmp_3, qCmp_4, qCmp_5, ib_0, ib_1, ib_2, lb_0, lb_1, lb_2, dv_0, dv_1, wq_ic, wq_ld_i, wq_ld_a, wq_st_i, wq_ib, wq_icmp, wq_if, wq_goto, wq_get, mGet_0, mGet_1, mGet_2, mGet_3, wq_putI, wq_putL, wq_ald, wq_dupI, wq_dupR, dup_I, dup_R, wq_ret0, wq_ret1, wq_ret2, wq_ret3, wq_ret4, ldR0, fk_11_8, fk_11_7, fk_11_4, mrg_32_, mrg_10_, mrg_1_, fk_11_9, mrg_0_, fk_11_10, stI1, ldI1, wq_callS1_1, wq_callV2_0, fk_11_11, mrg_3_, mrg_48_, mrg_4_, mrg_2_, mrg_59_, mPut_s, mPut_I0, mPut_R0, mPut_L0, mPut_I1, mPut_R1, mPut_L1, mGo_n, sfxX11_reads_0, cutX11_reads_0, sfxX11_reads_39, cutX11_reads_39, sfxX11_reads_52, cutX11_reads_52, sfxX11_reads_77, cutX11_reads_77, sfxX11_reads_94, cutX11_reads_94, sfxX11_reads_121, cutX11_reads_121, sfxX11_reads_129, cutX11_reads_129, sfxX11_reads_141, cutX11_reads_141, sfxX11_reads_192, cutX11_reads_192, sfxX11_reads_196, cutX11_reads_196, sfxX11_reads_212, cutX11_reads_212, sfxX11_reads_230, cutX11_reads_230, sfxX11_reads_231, cutX11_reads_231, sfxX11_reads_237, cutX11_reads_237, sfxX11_reads_248, cutX11_reads_248, sfxX11_reads_249, cutX11_reads_249, sfxX11_reads_262, cutX11_reads_262, wq_cut, mGo_c, mMask_t, mMask_f, mMask_n, kX11_reads_262, kX11_reads_249, kX11_reads_248, kX11_reads_237, kX11_reads_231, kX11_reads_230, kX11_reads_212, kX11_reads_196, kX11_reads_192, kX11_reads_141, kX11_reads_129, kX11_reads_121, kX11_reads_94, kX11_reads_77, kX11_reads_52, kX11_reads_39, kX11_reads_0, sk_200, al_200, rf_200_4, sk_204, al_204, sn_204, ald_n, ro0_n, al_ro, ↓SX11_reads_0, ↓SX11_reads_1, ↓SX11_reads_2, ↓shqI_, ↓shqRI_, ↓spX11_isLetter, ↓spX11_see, ↓spX11_isDigit, mrg, mrl, mSet_ap, ncast, Option.some.injEq, hx, e7, ex]
        (try simp only [mrg, mrl] at *) <;> repeat' (first | (with_reducible assumption) | (with_reducible apply And.intro) | intro _)
        all_goals first | omega | exact ku (g94 () hs z (by assumption)) | exact ku (g141 () hs z (by assumption)) | exact q3 () (by omega) | exact q4 () (by omega) (by assumption) (by assumption) | skip
    · have ss := scT_e blkP B z
      have hs : bgT B N a = x := by rw [← hbg]; exact ss
      have q0 : tkS (mSet (mSet I 200 9 x) 200 10 0) B N a := by
        unfold tkS tkT enT
        rw [hs, if_pos z, if_pos z]
        exact ⟨by rw [set_nq (by decide), set_nq (by decide)]; exact hx, by rw [set_nq (by decide), set_eq], set_eq, fun e => absurd e (by decide), by rw [set_nq (by decide), set_nq (by decide)]; exact h11⟩
      have q0 := h _ ((hF.set (p := 9) (by decide) _).set (p := 10) (by decide) _) q0
      clear h g94 g141
      simp only [false_and, and_false, true_or, or_true, false_or, or_false, true_and, and_true, true_implies, false_implies, implies_true, not_true_eq_false, not_false_eq_true, and_self, List.length_cons, List.length_nil, mNoCut_, mCat_n, mCat_I, mCat_L, mCat_R, mIsL_n, mIsL_I, mIsL_R, mIsL_L, Nat.reduceAdd, Nat.reduceSub, Nat.reduceLeDiff, Nat.reduceLT, Nat.reduceEqDiff, Nat.zero_le, Int.reduceEq, Int.reduceLT, Int.reduceLE, Int.reduceNeg, Int.reduceAdd, if_true, if_false, reduceIte, reduceCtorEq, Bool.false_eq_true, ne_eq, qCmp_0, qCmp_1, qCmp_2, qCmp_3, qCmp_4, qCmp_5, ib_0, ib_1, ib_2, lb_0, lb_1, lb_2, dv_0, dv_1, wq_ic, wq_ld_i, wq_ld_a, wq_st_i, wq_ib, wq_icmp, wq_if, wq_goto, wq_get, mGet_0, mGet_1, mGet_2, mGet_3, wq_putI, wq_putL, wq_ald, wq_dupI, wq_dupR, dup_I, dup_R, wq_ret0, wq_ret1, wq_ret2, wq_ret3, wq_ret4, ldR0, fk_11_8, fk_11_7, fk_11_4, mrg_32_, mrg_10_, mrg_1_, fk_11_9, mrg_0_, fk_11_10, stI1, ldI1, wq_callS1_1, wq_callV2_0, fk_11_11, mrg_3_, mrg_48_, mrg_4_, mrg_2_, mrg_59_, mPut_s, mPut_I0, mPut_R0, mPut_L0, mPut_I1, mPut_R1, mPut_L1, mGo_n, sfxX11_reads_0, cutX11_reads_0, sfxX11_reads_39, cutX11_reads_39, sfxX11_reads_52, cutX11_reads_52, sfxX11_reads_77, cutX11_reads_77, sfxX11_reads_94, cutX11_reads_94, sfxX11_reads_121, cutX11_reads_121, sfxX11_reads_129, cutX11_reads_129, sfxX11_reads_141, cutX11_reads_141, sfxX11_reads_192, cutX11_reads_192, sfxX11_reads_196, cutX11_reads_196, sfxX11_reads_212, cutX11_reads_212, sfxX11_reads_230, cutX11_reads_230, sfxX11_reads_231, cutX11_reads_231, sfxX11_reads_237, cutX11_reads_237, sfxX11_reads_248, cutX11_reads_248, sfxX11_reads_249, cutX11_reads_249, sfxX11_reads_262, cutX11_reads_262, wq_cut, mGo_c, mMask_t, mMask_f, mMask_n, kX11_reads_262, kX11_reads_249, kX11_reads_248, kX11_reads_237, kX11_reads_231, kX11_reads_230, kX11_reads_212, kX11_reads_196, kX11_reads_192, kX11_reads_141, kX11_reads_129, kX11_reads_121, kX11_reads_94, kX11_reads_77, kX11_reads_52, kX11_reads_39, kX11_reads_0, sk_200, al_200, rf_200_4, sk_204, al_204, sn_204, ald_n, ro0_n, al_ro, ↓SX11_reads_0, ↓SX11_reads_1, ↓SX11_reads_2, ↓shqI_, ↓shqRI_, ↓spX11_isLetter, ↓spX11_see, ↓spX11_isDigit, mrg, mrl, mSet_ap, ncast, Option.some.injEq, hx, e7]
      (try simp only [mrg, mrl] at *) <;> repeat' (first | (with_reducible assumption) | (with_reducible apply And.intro) | intro _)
      all_goals first | omega | exact q0 | skip
theorem ctrX11_reads {l : Launch} (hst : l.stackTraces = false) (hT : mTxM l) : mCtr l calX11_reads spX11_reads :=
  mMet (T := TX11_reads) (S := SX11_reads) hst hT cutX11_reads (by decide) okX11_reads ⟨_, _, rfl, rfl⟩ trivial (fun t bs h => by rcases cutsX11_reads h with ⟨-, rfl⟩ | ⟨-, rfl⟩ | ⟨-, rfl⟩ <;> rfl) (fun a => match a with
    | 0 => ctrX11_isLetter hst hT
    | 1 => ctrX11_see hst hT
    | 2 => ctrX11_isDigit hst hT
    | _ + 3 => mCtr_no) vcX11_reads

def spX11_blames : mSp := shRI (fun _ i k I Q => i = some 200 ∧ mrg (I 200 12) ∧ mrg (I 200 10) ∧ (I 200 12 ≠ 0 → Q (.inl none) I) ∧ (I 200 12 = 0 → Q (.inl none) (mSet (mSet I 200 12 (if I 200 10 = 4 then 1 else k)) 200 13 (I 200 9))))
def SX11_blames : Nat → mSp := fun a => match a with
  | _ => fun _ _ _ _ => False
set_option maxRecDepth 100000 in
set_option maxHeartbeats 1000000 in
theorem vcX11_blames (fl : Nat → Bool) (avs : List mV) (I : mM) (Q : mO → mM → Prop) (hsp : spX11_blames fl avs I Q) : mVC0 SX11_blames fl Q kX11_blames 2 avs I := by
  obtain ⟨i, k, rfl, h0⟩ := shRI_inv hsp
  refine ⟨rfl, ?_⟩
  show mWp _ _ _ _ _ _ kX11_blames_0 [some (mR i), some (mI k)] [] I
  obtain ⟨rfl, h12, h10, h1, h2⟩ := h0
  by_cases z : I 200 10 = 4
  · rw [if_pos z] at h2
    simp only [false_and, and_false, true_or, or_true, false_or, or_false, true_and, and_true, true_implies, false_implies, implies_true, not_true_eq_false, not_false_eq_true, and_self, List.length_cons, List.length_nil, mNoCut_, mCat_n, mCat_I, mCat_L, mCat_R, mIsL_n, mIsL_I, mIsL_R, mIsL_L, Nat.reduceAdd, Nat.reduceSub, Nat.reduceLeDiff, Nat.reduceLT, Nat.reduceEqDiff, Nat.zero_le, Int.reduceEq, Int.reduceLT, Int.reduceLE, Int.reduceNeg, Int.reduceAdd, if_true, if_false, reduceIte, reduceCtorEq, Bool.false_eq_true, ne_eq, qCmp_0, qCmp_1, qCmp_2, qCmp_3, qCmp_4, qCmp_5, ib_0, ib_1, ib_2, lb_0, lb_1, lb_2, dv_0, dv_1, wq_ic, wq_ld_i, wq_ld_a, wq_icmp, wq_if, wq_goto, wq_get, mGet_0, mGet_1, mGet_2, mGet_3, wq_putI, wq_putL, wq_ret0, wq_ret1, wq_ret2, wq_ret3, wq_ret4, ldR0, fk_11_12, fk_11_10, mrg_4_, mrg_1_, ldI1, fk_11_9, fk_11_13, mrg_0_, mGo_n, sfxX11_blames_8, cutX11_blames_8, sfxX11_blames_21, cutX11_blames_21, sfxX11_blames_22, cutX11_blames_22, kX11_blames_22, kX11_blames_21, kX11_blames_8, kX11_blames_0, sk_200, al_200, mrg, mrl, mSet_ap, ncast, Option.some.injEq, z]
    (try simp only [mrg, mrl] at *) <;> repeat' (first | (with_reducible assumption) | (with_reducible apply And.intro) | intro _)
    all_goals first | omega | exact h1 (by assumption) | exact h2 (by omega) | skip
  · rw [if_neg z] at h2
    simp only [false_and, and_false, true_or, or_true, false_or, or_false, true_and, and_true, true_implies, false_implies, implies_true, not_true_eq_false, not_false_eq_true, and_self, List.length_cons, List.length_nil, mNoCut_, mCat_n, mCat_I, mCat_L, mCat_R, mIsL_n, mIsL_I, mIsL_R, mIsL_L, Nat.reduceAdd, Nat.reduceSub, Nat.reduceLeDiff, Nat.reduceLT, Nat.reduceEqDiff, Nat.zero_le, Int.reduceEq, Int.reduceLT, Int.reduceLE, Int.reduceNeg, Int.reduceAdd, if_true, if_false, reduceIte, reduceCtorEq, Bool.false_eq_true, ne_eq, qCmp_0, qCmp_1, qCmp_2, qCmp_3, qCmp_4, qCmp_5, ib_0, ib_1, ib_2, lb_0, lb_1, lb_2, dv_0, dv_1, wq_ic, wq_ld_i, wq_ld_a, wq_icmp, wq_if, wq_goto, wq_get, mGet_0, mGet_1, mGet_2, mGet_3, wq_putI, wq_putL, wq_ret0, wq_ret1, wq_ret2, wq_ret3, wq_ret4, ldR0, fk_11_12, fk_11_10, mrg_4_, mrg_1_, ldI1, fk_11_9, fk_11_13, mrg_0_, mGo_n, sfxX11_blames_8, cutX11_blames_8, sfxX11_blames_21, cutX11_blames_21, sfxX11_blames_22, cutX11_blames_22, kX11_blames_22, kX11_blames_21, kX11_blames_8, kX11_blames_0, sk_200, al_200, mrg, mrl, mSet_ap, ncast, Option.some.injEq, z]
    (try simp only [mrg, mrl] at *) <;> repeat' (first | (with_reducible assumption) | (with_reducible apply And.intro) | intro _)
    all_goals first | omega | exact h1 (by assumption) | exact h2 (by omega) | skip
theorem ctrX11_blames {l : Launch} (hst : l.stackTraces = false) (hT : mTxM l) : mCtr l calX11_blames spX11_blames :=
  mMet0 (T := TX11_blames) (S := SX11_blames) hst hT (by decide) okX11_blames ⟨_, _, rfl, rfl⟩ (fun a => mCtr_no) vcX11_blames

/-- the word W (a text of the program's) stands from a on -/
def isW (B : Int → Int) (n : Int) (w : Nat) (a : Int) : Prop := tkT B n a = 1 ∧ enT B n a - bgT B n a = mTxLen w ∧ ∀ k : Int, 0 ≤ k → k < mTxLen w → B (bgT B n a + k) = mTxCh w k
theorem tx_all : mTx.all (fun l => l.all (fun c => decide (0 ≤ c ∧ c ≤ 127))) = true := by decide +kernel
theorem txc_bd (w : Nat) (k : Int) : 0 ≤ mTxCh w k ∧ mTxCh w k ≤ 127 := by
  unfold mTxCh
  have h1 : ∀ c ∈ mTx.getD w [], 0 ≤ c ∧ c ≤ 127 := fun c hc => by
    have h := tx_all
    rw [List.all_eq_true] at h
    rcases Nat.lt_or_ge w mTx.length with z | z
    · rw [List.getD_eq_getElem?_getD, List.getElem?_eq_getElem z] at hc
      have := h _ (List.getElem_mem z)
      rw [List.all_eq_true] at this
      exact of_decide_eq_true (this c hc)
    · rw [List.getD_eq_getElem?_getD, List.getElem?_eq_none z] at hc
      exact absurd hc (by simp)
  rcases Nat.lt_or_ge k.toNat (mTx.getD w []).length with z | z
  · rw [List.getD_eq_getElem?_getD (l := mTx.getD w []), List.getElem?_eq_getElem z]
    exact h1 _ (List.getElem_mem z)
  · rw [List.getD_eq_getElem?_getD (l := mTx.getD w []), List.getElem?_eq_none z]
    decide
def spX11_isWord : mSp := shRR (fun _ i w I Q => i = some 200 ∧ ∃ W : Nat, w = some (250 + W) ∧ W < mTx.length ∧ mTxLen W ≤ 10 ∧ ∃ B n a, tpS I B n ∧ tkS I B n a ∧ (0 ≤ a ∧ a ≤ n) ∧ mrg (I 200 12) ∧ (I 200 12 = 0 ∧ isW B n W a → Q (.inl (some (mI 1))) I) ∧ (¬ (I 200 12 = 0 ∧ isW B n W a) → Q (.inl (some (mI 0))) I))
def SX11_isWord : Nat → mSp := fun a => match a with
  | _ => fun _ _ _ _ => False
theorem cutsX11_isWord {t : Nat} {bs : List Bool} (h : cutX11_isWord t = some bs) : (t = 39 ∧ bs = [true, true, true, true]) := by
  unfold cutX11_isWord at h
  simp only [mLk] at h
  by_cases h0 : 39 = t
  · subst h0
    simp at h
    exact ⟨rfl, h.symm⟩
  rw [if_neg h0] at h
  cases h
set_option maxRecDepth 100000 in
set_option maxHeartbeats 1000000 in
theorem vcX11_isWord (fl : Nat → Bool) (avs : List mV) (I : mM) (Q : mO → mM → Prop) (hsp : spX11_isWord fl avs I Q) : mVC SX11_isWord fl Q kX11_isWord cutX11_isWord 4 avs I := by
  obtain ⟨i, w, rfl, h0⟩ := shRR_inv hsp
  obtain ⟨rfl, W, rfl, hW, hL, B, N, a, hT, hK, han, h12, h1, h2⟩ := h0
  have hWr : 250 ≤ 250 + W ∧ 250 + W < 250 + mTx.length := by omega
  have hWs : 250 + W - 250 = W := by omega
  have eb := en_bd B han.2
  have bb := bg_bd B han.2
  have tkb := tk_bd B N a
  obtain ⟨k8, k9, k10, k11, k12⟩ := hK
  have t2 := hT.2.1
  refine ⟨rfl, (fun m pc lv st I1 => st = [] ∧ I1 = I ∧ ∃ (k : Nat) (r : Int), lv = [some (mR (some 200)), some (mR (some (250 + W))), some (mI r), some (mI k)] ∧ k ≤ mTxLen W ∧ m = mTxLen W - k ∧ ((r = 1 ∧ I 200 12 = 0 ∧ tkT B N a = 1 ∧ enT B N a - bgT B N a = mTxLen W ∧ ∀ j : Int, 0 ≤ j → j < k → B (bgT B N a + j) = mTxCh W j) ∨ (r = 0 ∧ ¬ (I 200 12 = 0 ∧ isW B N W a)))), ?_, ?_⟩
  · intro n t bs hbs lv st I1 hc
    rcases cutsX11_isWord hbs with ⟨rfl, rfl⟩
    rw [sfxX11_isWord_39]
    obtain ⟨rfl, rfl, k, r, rfl, hk, hm, hr⟩ := hc
    rcases hr with ⟨rfl, z12, zt, zl, hj⟩ | ⟨rfl, hno⟩
    · have cb := txc_bd W k
      rcases Nat.lt_or_ge k (mTxLen W) with z | z
      · have bx := hT.2.2 (bgT B N a + k) (by omega) (by have := hT.2.1; omega)
        have ex : I1 204 (bgT B N a + k) = B (bgT B N a + k) := bx.1
        by_cases y : B (bgT B N a + k) = mTxCh W k
        · have key : ∃ n', n' < n ∧ ∃ (k_1 : Nat) (r : Int), [some (mR (some 200)), some (mR (some (250 + W))), some (mI 1), some (mI ((k : Int) + 1))] = [some (mR (some 200)), some (mR (some (250 + W))), some (mI r), some (mI k_1)] ∧ k_1 ≤ mTxLen W ∧ n' = mTxLen W - k_1 ∧ ((r = 1 ∧ I1 200 12 = 0 ∧ tkT B N a = 1 ∧ enT B N a - bgT B N a = mTxLen W ∧ ∀ j : Int, 0 ≤ j → j < k_1 → B (bgT B N a + j) = mTxCh W j) ∨ (r = 0 ∧ ¬ (I1 200 12 = 0 ∧ isW B N W a))) := by
            refine ⟨mTxLen W - (k + 1), by omega, k + 1, 1, rfl, z, rfl, Or.inl ⟨rfl, z12, zt, zl, fun j j0 j1 => ?_⟩⟩
            by_cases e : j = k
            · rw [e]; exact y
            · exact hj j j0 (by omega)
          clear h1 h2 hj
          simp only [false_and, and_false, true_or, or_true, false_or, or_false, true_and, and_true, true_implies, false_implies, implies_true, not_true_eq_false, not_false_eq_true, and_self, List.length_cons, List.length_nil, mNoCut_, mCat_n, mCat_I, mCat_L, mCat_R, mIsL_n, mIsL_I, mIsL_R, mIsL_L, Nat.reduceAdd, Nat.reduceSub, Nat.reduceLeDiff, Nat.reduceLT, Nat.reduceEqDiff, Nat.zero_le, Int.reduceEq, Int.reduceLT, Int.reduceLE, Int.reduceNeg, Int.reduceAdd, if_true, if_false, reduceIte, reduceCtorEq, Bool.false_eq_true, ne_eq, qCmp_0, qCmp_1, qCmp_2, qCmp_3, qCmp_4, qCmp_5, ib_0, ib_1, ib_2, lb_0, lb_1, lb_2, dv_0, dv_1, wq_ic, wq_ld_i, wq_ld_a, wq_st_i, wq_iinc, wq_ib, wq_icmp, wq_if, wq_goto, wq_get, mGet_0, mGet_1, mGet_2, mGet_3, wq_ald, wq_ret0, wq_ret1, wq_ret2, wq_ret3, wq_ret4, wq_txl, wq_txc, ldR0, fk_11_12, fk_11_10, mrg_1_, fk_11_8, fk_11_9, ldR1, mrg_0_, stI2, stI3, ldI2, ldI3, fk_11_4, wqinc3, mPut_s, mPut_I0, mPut_R0, mPut_L0, mPut_I1, mPut_R1, mPut_L1, mGo_n, sfxX11_isWord_35, cutX11_isWord_35, sfxX11_isWord_36, cutX11_isWord_36, sfxX11_isWord_39, cutX11_isWord_39, sfxX11_isWord_74, cutX11_isWord_74, sfxX11_isWord_75, cutX11_isWord_75, sfxX11_isWord_82, cutX11_isWord_82, wq_cut, mGo_c, mMask_t, mMask_f, mMask_n, kX11_isWord_82, kX11_isWord_75, kX11_isWord_74, kX11_isWord_39, kX11_isWord_36, kX11_isWord_35, kX11_isWord_0, sk_200, al_200, rf_200_4, sk_204, al_204, sn_204, ald_n, ro0_n, al_ro, mrg, mrl, mSet_ap, ncast, Option.some.injEq, hWr, hWs, k9, ex, y]
          (try simp only [mrg, mrl] at *) <;> repeat' (first | (with_reducible assumption) | (with_reducible apply And.intro) | intro _)
          all_goals first | omega | exact key | skip
        · have key : ∃ n', n' < n ∧ ∃ (k_1 : Nat) (r : Int), [some (mR (some 200)), some (mR (some (250 + W))), some (mI 0), some (mI ((k : Int) + 1))] = [some (mR (some 200)), some (mR (some (250 + W))), some (mI r), some (mI k_1)] ∧ k_1 ≤ mTxLen W ∧ n' = mTxLen W - k_1 ∧ ((r = 1 ∧ I1 200 12 = 0 ∧ tkT B N a = 1 ∧ enT B N a - bgT B N a = mTxLen W ∧ ∀ j : Int, 0 ≤ j → j < k_1 → B (bgT B N a + j) = mTxCh W j) ∨ (r = 0 ∧ ¬ (I1 200 12 = 0 ∧ isW B N W a))) := ⟨mTxLen W - (k + 1), by omega, k + 1, 0, rfl, z, rfl, Or.inr ⟨rfl, fun w => y (w.2.2.2 k (by omega) (by omega))⟩⟩
          clear h1 h2 hj
          simp only [false_and, and_false, true_or, or_true, false_or, or_false, true_and, and_true, true_implies, false_implies, implies_true, not_true_eq_false, not_false_eq_true, and_self, List.length_cons, List.length_nil, mNoCut_, mCat_n, mCat_I, mCat_L, mCat_R, mIsL_n, mIsL_I, mIsL_R, mIsL_L, Nat.reduceAdd, Nat.reduceSub, Nat.reduceLeDiff, Nat.reduceLT, Nat.reduceEqDiff, Nat.zero_le, Int.reduceEq, Int.reduceLT, Int.reduceLE, Int.reduceNeg, Int.reduceAdd, if_true, if_false, reduceIte, reduceCtorEq, Bool.false_eq_true, ne_eq, qCmp_0, qCmp_1, qCmp_2, qCmp_3, qCmp_4, qCmp_5, ib_0, ib_1, ib_2, lb_0, lb_1, lb_2, dv_0, dv_1, wq_ic, wq_ld_i, wq_ld_a, wq_st_i, wq_iinc, wq_ib, wq_icmp, wq_if, wq_goto, wq_get, mGet_0, mGet_1, mGet_2, mGet_3, wq_ald, wq_ret0, wq_ret1, wq_ret2, wq_ret3, wq_ret4, wq_txl, wq_txc, ldR0, fk_11_12, fk_11_10, mrg_1_, fk_11_8, fk_11_9, ldR1, mrg_0_, stI2, stI3, ldI2, ldI3, fk_11_4, wqinc3, mPut_s, mPut_I0, mPut_R0, mPut_L0, mPut_I1, mPut_R1, mPut_L1, mGo_n, sfxX11_isWord_35, cutX11_isWord_35, sfxX11_isWord_36, cutX11_isWord_36, sfxX11_isWord_39, cutX11_isWord_39, sfxX11_isWord_74, cutX11_isWord_74, sfxX11_isWord_75, cutX11_isWord_75, sfxX11_isWord_82, cutX11_isWord_82, wq_cut, mGo_c, mMask_t, mMask_f, mMask_n, kX11_isWord_82, kX11_isWord_75, kX11_isWord_74, kX11_isWord_39, kX11_isWord_36, kX11_isWord_35, kX11_isWord_0, sk_200, al_200, rf_200_4, sk_204, al_204, sn_204, ald_n, ro0_n, al_ro, mrg, mrl, mSet_ap, ncast, Option.some.injEq, hWr, hWs, k9, ex, y]
          (try simp only [mrg, mrl] at *) <;> repeat' (first | (with_reducible assumption) | (with_reducible apply And.intro) | intro _)
          all_goals first | omega | exact key | skip
      · have e : k = mTxLen W := by omega
        have h := h1 ⟨z12, zt, zl, fun j j0 j1 => hj j j0 (by omega)⟩
        clear h1 h2 hj
        simp only [false_and, and_false, true_or, or_true, false_or, or_false, true_and, and_true, true_implies, false_implies, implies_true, not_true_eq_false, not_false_eq_true, and_self, List.length_cons, List.length_nil, mNoCut_, mCat_n, mCat_I, mCat_L, mCat_R, mIsL_n, mIsL_I, mIsL_R, mIsL_L, Nat.reduceAdd, Nat.reduceSub, Nat.reduceLeDiff, Nat.reduceLT, Nat.reduceEqDiff, Nat.zero_le, Int.reduceEq, Int.reduceLT, Int.reduceLE, Int.reduceNeg, Int.reduceAdd, if_true, if_false, reduceIte, reduceCtorEq, Bool.false_eq_true, ne_eq, qCmp_0, qCmp_1, qCmp_2, qCmp_3, qCmp_4, qCmp_5, ib_0, ib_1, ib_2, lb_0, lb_1, lb_2, dv_0, dv_1, wq_ic, wq_ld_i, wq_ld_a, wq_st_i, wq_iinc, wq_ib, wq_icmp, wq_if, wq_goto, wq_get, mGet_0, mGet_1, mGet_2, mGet_3, wq_ald, wq_ret0, wq_ret1, wq_ret2, wq_ret3, wq_ret4, wq_txl, wq_txc, ldR0, fk_11_12, fk_11_10, mrg_1_, fk_11_8, fk_11_9, ldR1, mrg_0_, stI2, stI3, ldI2, ldI3, fk_11_4, wqinc3, mPut_s, mPut_I0, mPut_R0, mPut_L0, mPut_I1, mPut_R1, mPut_L1, mGo_n, sfxX11_isWord_35, cutX11_isWord_35, sfxX11_isWord_36, cutX11_isWord_36, sfxX11_isWord_39, cutX11_isWord_39, sfxX11_isWord_74, cutX11_isWord_74, sfxX11_isWord_75, cutX11_isWord_75, sfxX11_isWord_82, cutX11_isWord_82, wq_cut, mGo_c, mMask_t, mMask_f, mMask_n, kX11_isWord_82, kX11_isWord_75, kX11_isWord_74, kX11_isWord_39, kX11_isWord_36, kX11_isWord_35, kX11_isWord_0, sk_200, al_200, rf_200_4, sk_204, al_204, sn_204, ald_n, ro0_n, al_ro, mrg, mrl, mSet_ap, ncast, Option.some.injEq, hWr, hWs, k9]
        (try simp only [mrg, mrl] at *) <;> repeat' (first | (with_reducible assumption) | (with_reducible apply And.intro) | intro _)
        all_goals first | omega | exact h | skip
    · have h := h2 hno
      clear h1 h2
      simp only [false_and, and_false, true_or, or_true, false_or, or_false, true_and, and_true, true_implies, false_implies, implies_true, not_true_eq_false, not_false_eq_true, and_self, List.length_cons, List.length_nil, mNoCut_, mCat_n, mCat_I, mCat_L, mCat_R, mIsL_n, mIsL_I, mIsL_R, mIsL_L, Nat.reduceAdd, Nat.reduceSub, Nat.reduceLeDiff, Nat.reduceLT, Nat.reduceEqDiff, Nat.zero_le, Int.reduceEq, Int.reduceLT, Int.reduceLE, Int.reduceNeg, Int.reduceAdd, if_true, if_false, reduceIte, reduceCtorEq, Bool.false_eq_true, ne_eq, qCmp_0, qCmp_1, qCmp_2, qCmp_3, qCmp_4, qCmp_5, ib_0, ib_1, ib_2, lb_0, lb_1, lb_2, dv_0, dv_1, wq_ic, wq_ld_i, wq_ld_a, wq_st_i, wq_iinc, wq_ib, wq_icmp, wq_if, wq_goto, wq_get, mGet_0, mGet_1, mGet_2, mGet_3, wq_ald, wq_ret0, wq_ret1, wq_ret2, wq_ret3, wq_ret4, wq_txl, wq_txc, ldR0, fk_11_12, fk_11_10, mrg_1_, fk_11_8, fk_11_9, ldR1, mrg_0_, stI2, stI3, ldI2, ldI3, fk_11_4, wqinc3, mPut_s, mPut_I0, mPut_R0, mPut_L0, mPut_I1, mPut_R1, mPut_L1, mGo_n, sfxX11_isWord_35, cutX11_isWord_35, sfxX11_isWord_36, cutX11_isWord_36, sfxX11_isWord_39, cutX11_isWord_39, sfxX11_isWord_74, cutX11_isWord_74, sfxX11_isWord_75, cutX11_isWord_75, sfxX11_isWord_82, cutX11_isWord_82, wq_cut, mGo_c, mMask_t, mMask_f, mMask_n, kX11_isWord_82, kX11_isWord_75, kX11_isWord_74, kX11_isWord_39, kX11_isWord_36, kX11_isWord_35, kX11_isWord_0, sk_200, al_200, rf_200_4, sk_204, al_204, sn_204, ald_n, ro0_n, al_ro, mrg, mrl, mSet_ap, ncast, Option.some.injEq, hWr, hWs, k9]
      (try simp only [mrg, mrl] at *) <;> repeat' (first | (with_reducible assumption) | (with_reducible apply And.intro) | intro _)
      all_goals first | omega | exact h | skip
  · show mWp _ _ _ _ _ _ kX11_isWord_0 [some (mR (some 200)), some (mR (some (250 + W))), none, none] [] I
    have hno : ∀ _ : Unit, ¬ (I 200 12 = 0 ∧ tkT B N a = 1 ∧ enT B N a - bgT B N a = mTxLen W) → ∃ n, ∃ (k : Nat) (r : Int), [some (mR (some 200)), some (mR (some (250 + W))), some (mI 0), some (mI 0)] = [some (mR (some 200)), some (mR (some (250 + W))), some (mI r), some (mI k)] ∧ k ≤ mTxLen W ∧ n = mTxLen W - k ∧ ((r = 1 ∧ I 200 12 = 0 ∧ tkT B N a = 1 ∧ enT B N a - bgT B N a = mTxLen W ∧ ∀ j : Int, 0 ≤ j → j < k → B (bgT B N a + j) = mTxCh W j) ∨ (r = 0 ∧ ¬ (I 200 12 = 0 ∧ isW B N W a))) := fun _ w => ⟨_, 0, 0, rfl, by omega, rfl, Or.inr ⟨rfl, fun y => w ⟨y.1, y.2.1, y.2.2.1⟩⟩⟩
    have hyes : ∀ _ : Unit, (I 200 12 = 0 ∧ tkT B N a = 1 ∧ enT B N a - bgT B N a = mTxLen W) → ∃ n, ∃ (k : Nat) (r : Int), [some (mR (some 200)), some (mR (some (250 + W))), some (mI 1), some (mI 0)] = [some (mR (some 200)), some (mR (some (250 + W))), some (mI r), some (mI k)] ∧ k ≤ mTxLen W ∧ n = mTxLen W - k ∧ ((r = 1 ∧ I 200 12 = 0 ∧ tkT B N a = 1 ∧ enT B N a - bgT B N a = mTxLen W ∧ ∀ j : Int, 0 ≤ j → j < k → B (bgT B N a + j) = mTxCh W j) ∨ (r = 0 ∧ ¬ (I 200 12 = 0 ∧ isW B N W a))) := fun _ w => ⟨_, 0, 1, rfl, by omega, rfl, Or.inl ⟨rfl, w.1, w.2.1, w.2.2, fun j j0 j1 => absurd j1 (by show ¬ j < ((0 : Nat) : Int); omega)⟩⟩
    have t2 := hT.2.1
    simp only [false_and, and_false, true_or, or_true, false_or, or_false, true_and, and_true, true_implies, false_implies, implies_true, not_true_eq_false, not_false_eq_true, and_self, List.length_cons, List.length_nil, mNoCut_, mCat_n, mCat_I, mCat_L, mCat_R, mIsL_n, mIsL_I, mIsL_R, mIsL_L, Nat.reduceAdd, Nat.reduceSub, Nat.reduceLeDiff, Nat.reduceLT, Nat.reduceEqDiff, Nat.zero_le, Int.reduceEq, Int.reduceLT, Int.reduceLE, Int.reduceNeg, Int.reduceAdd, if_true, if_false, reduceIte, reduceCtorEq, Bool.false_eq_true, ne_eq, qCmp_0, qCmp_1, qCmp_2, qCmp_3, qCmp_4, qCmp_5, ib_0, ib_1, ib_2, lb_0, lb_1, lb_2, dv_0, dv_1, wq_ic, wq_ld_i, wq_ld_a, wq_st_i, wq_iinc, wq_ib, wq_icmp, wq_if, wq_goto, wq_get, mGet_0, mGet_1, mGet_2, mGet_3, wq_ald, wq_ret0, wq_ret1, wq_ret2, wq_ret3, wq_ret4, wq_txl, wq_txc, ldR0, fk_11_12, fk_11_10, mrg_1_, fk_11_8, fk_11_9, ldR1, mrg_0_, stI2, stI3, ldI2, ldI3, fk_11_4, wqinc3, mPut_s, mPut_I0, mPut_R0, mPut_L0, mPut_I1, mPut_R1, mPut_L1, mGo_n, sfxX11_isWord_35, cutX11_isWord_35, sfxX11_isWord_36, cutX11_isWord_36, sfxX11_isWord_39, cutX11_isWord_39, sfxX11_isWord_74, cutX11_isWord_74, sfxX11_isWord_75, cutX11_isWord_75, sfxX11_isWord_82, cutX11_isWord_82, wq_cut, mGo_c, mMask_t, mMask_f, mMask_n, kX11_isWord_82, kX11_isWord_75, kX11_isWord_74, kX11_isWord_39, kX11_isWord_36, kX11_isWord_35, kX11_isWord_0, sk_200, al_200, rf_200_4, sk_204, al_204, sn_204, ald_n, ro0_n, al_ro, mrg, mrl, mSet_ap, ncast, Option.some.injEq, hWr, hWs, k8, k9, k10]
    (try simp only [mrg, mrl] at *) <;> repeat' (first | (with_reducible assumption) | (with_reducible apply And.intro) | intro _)
    all_goals first | omega | exact hno () (by omega) | exact hyes () ⟨by omega, by omega, by omega⟩ | skip
theorem ctrX11_isWord {l : Launch} (hst : l.stackTraces = false) (hT : mTxM l) : mCtr l calX11_isWord spX11_isWord :=
  mMet (T := TX11_isWord) (S := SX11_isWord) hst hT cutX11_isWord (by decide) okX11_isWord ⟨_, _, rfl, rfl⟩ trivial (fun t bs h => by rcases cutsX11_isWord h with ⟨-, rfl⟩ <;> rfl) (fun a => mCtr_no) vcX11_isWord

end SPM24
