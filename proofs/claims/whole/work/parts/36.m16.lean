section SPM16
theorem peakN_cong {A B A' B' : Int → Int} (a b : Int) : ∀ n : Nat, (∀ h : Int, 0 ≤ h → h < n → A h = A' h ∧ B h = B' h) → peakN A B a b n = peakN A' B' a b n
  | 0, _ => rfl
  | n + 1, hc => by
    have ih := peakN_cong a b n (fun h h0 h1 => hc h h0 (by omega))
    have hh := hc n (by omega) (by omega)
    simp only [peakN]
    rw [ih, hh.1, hh.2]
theorem tryT_cong {A B A' B' : Int → Int} {n : Nat} {p : Int × Int × Int} {u d : Int} (hc : ∀ h : Int, 0 ≤ h → h < n → A h = A' h ∧ B h = B' h) : tryT A B n p u d = tryT A' B' n p u d := by
  simp only [tryT]
  rw [peakN_cong _ _ n hc]
def restIn (A B : Int → Int) (n : Nat) (h : Int) : Nat → Int × Int × Int → Int × Int × Int
  | 0, p => p
  | k + 1, p => tryT A B n (restIn A B n h k p) (B k - B h) (A h - B h - A k + B k)
def restOut (A B : Int → Int) (n : Nat) : Nat → Int × Int × Int
  | 0 => tryT A B n (0, 1, peakN A B 0 1 n) 1 1
  | h + 1 => restIn A B n h h (restOut A B n h)
theorem restIn_bd {A B : Int → Int} {n : Nat} {h : Int} (hc : ∀ g : Int, 0 ≤ g → g < n → cstP (A g) ∧ cstP (B g)) (h0 : 0 ≤ h ∧ h < n) {p : Int × Int × Int} (hp : triP p ∧ 1 ≤ p.2.1) : ∀ k : Nat, (k : Int) ≤ h → triP (restIn A B n h k p) ∧ 1 ≤ (restIn A B n h k p).2.1
  | 0, _ => hp
  | k + 1, hk => by
    have ih := restIn_bd hc h0 hp k (by omega)
    have c1 := hc h h0.1 h0.2
    have c2 := hc k (by omega) (by omega)
    exact ⟨tryT_bd ih.1 ⟨by omega, by omega⟩ ⟨by omega, by omega⟩ hc, tryT_pos ih.2⟩
theorem restOut_bd {A B : Int → Int} {n : Nat} (hc : ∀ g : Int, 0 ≤ g → g < n → cstP (A g) ∧ cstP (B g)) : ∀ h : Nat, h ≤ n → triP (restOut A B n h) ∧ 1 ≤ (restOut A B n h).2.1
  | 0, _ => by
    have pb := peakN_bd (A := A) (B := B) (a := 0) (b := 1) ⟨by omega, by omega⟩ (by omega) n hc
    exact ⟨tryT_bd ⟨by simp, by simp, by dsimp only; omega⟩ ⟨by omega, by omega⟩ ⟨by omega, by omega⟩ hc, tryT_pos (by simp)⟩
  | h + 1, hh => restIn_bd hc (h := h) ⟨by omega, by omega⟩ (restOut_bd hc h (by omega)) h (by omega)
def cstS (t : Int → Int) (a c : Int) : Int → Int := fun h => costT (stR t (keptS t a)) c h
def restT (t : Int → Int) (a b c : Int) : Int × Int × Int := restOut (cstS t a c) (cstS t b c) (t (13 + c)).toNat (t (13 + c)).toNat
theorem cstS_bd {t : Int → Int} (H : WFt t) {a c h : Int} (ha : 0 ≤ a ∧ a < 4) (hc : 0 ≤ c ∧ c < 6) (hh : 0 ≤ h ∧ h < 8) : -9900 ≤ cstS t a c h ∧ cstS t a c h ≤ 600 := costT_bd (H.sts (H.kept ha)) hc hh
theorem try0 {A B : Int → Int} {n : Nat} (u v : Int) : tryT A B n (u, 0, v) 0 1 = (0, 1, peakN A B 0 1 n) := by
  simp [tryT]
theorem tri_eq {p : Int × Int × Int} : (p.1, p.2.1, p.2.2) = p := rfl
theorem m3_at (I : mM) (x y z : Int) : mSet (mSet (mSet I 200 24 x) 200 25 y) 200 26 z 200 24 = x ∧ mSet (mSet (mSet I 200 24 x) 200 25 y) 200 26 z 200 25 = y ∧ mSet (mSet (mSet I 200 24 x) 200 25 y) 200 26 z 200 26 = z := by
  simp [mSet]
def spX11_rest : mSp := shRIIII (fun _ i a b c w I Q => i = some 200 ∧ WFt (I 201) ∧ mrg a ∧ mrg b ∧ mrg c ∧ mrg w ∧ (¬ (wayP a ∧ wayP b ∧ ballP c) → Q (.inl (some (mI 0))) (mSet I 200 3 1)) ∧ (wayP a ∧ wayP b ∧ ballP c → ¬ (0 ≤ w ∧ w ≤ 1) → Q (.inl (some (mI 0))) (mSet I 200 3 2)) ∧ (wayP a ∧ wayP b ∧ ballP c → (0 ≤ w ∧ w ≤ 1) → ¬ (keptP (I 201) a ∧ keptP (I 201) b) → Q (.inl (some (mI 0))) (mSet I 200 3 3)) ∧ (wayP a ∧ wayP b ∧ ballP c → (0 ≤ w ∧ w ≤ 1) → (keptP (I 201) a ∧ keptP (I 201) b) → I 201 (13 + c) = 0 → ∀ I', mPost I I' (I 201) 0 0 0 → Q (.inl (some (mI 0))) I') ∧ (wayP a ∧ wayP b ∧ ballP c → (keptP (I 201) a ∧ keptP (I 201) b) → ¬ I 201 (13 + c) = 0 → w = 0 → ∀ I', mPost I I' (I 201) 0 (upT (restT (I 201) a b c).1 (restT (I 201) a b c).2.1) (loT (restT (I 201) a b c).1 (restT (I 201) a b c).2.1) → Q (.inl (some (mI 1))) I') ∧ (wayP a ∧ wayP b ∧ ballP c → (keptP (I 201) a ∧ keptP (I 201) b) → ¬ I 201 (13 + c) = 0 → w = 1 → ∀ I', mPost I I' (I 201) 0 (upT (restT (I 201) a b c).2.2 (100 * (restT (I 201) a b c).2.1)) (loT (restT (I 201) a b c).2.2 (100 * (restT (I 201) a b c).2.1)) → Q (.inl (some (mI 1))) I'))
def SX11_rest : Nat → mSp := fun a => match a with
  | 0 => spX11_isWay
  | 1 => spX11_isBall
  | 2 => spX11_within
  | 3 => spX11_isKept
  | 4 => spX11_takes
  | 5 => spX11_putsBy
  | 6 => spX11_takesWay
  | 7 => spX11_costOf
  | 8 => spX11_givesBack
  | 9 => spX11_tries
  | _ => fun _ _ _ _ => False
theorem SX11_rest_0 : SX11_rest 0 = spX11_isWay := Eq.trans rfl rfl
theorem SX11_rest_1 : SX11_rest 1 = spX11_isBall := Eq.trans rfl rfl
theorem SX11_rest_2 : SX11_rest 2 = spX11_within := Eq.trans rfl rfl
theorem SX11_rest_3 : SX11_rest 3 = spX11_isKept := Eq.trans rfl rfl
theorem SX11_rest_4 : SX11_rest 4 = spX11_takes := Eq.trans rfl rfl
theorem SX11_rest_5 : SX11_rest 5 = spX11_putsBy := Eq.trans rfl rfl
theorem SX11_rest_6 : SX11_rest 6 = spX11_takesWay := Eq.trans rfl rfl
theorem SX11_rest_7 : SX11_rest 7 = spX11_costOf := Eq.trans rfl rfl
theorem SX11_rest_8 : SX11_rest 8 = spX11_givesBack := Eq.trans rfl rfl
theorem SX11_rest_9 : SX11_rest 9 = spX11_tries := Eq.trans rfl rfl
theorem cutsX11_rest {t : Nat} {bs : List Bool} (h : cutX11_rest t = some bs) : (t = 109 ∧ bs = [true, false, true, true, true, true, true, false]) ∨ (t = 145 ∧ bs = [true, false, false, true, true, true, true, false]) ∨ (t = 201 ∧ bs = [true, false, false, false, true, true, true, false]) ∨ (t = 211 ∧ bs = [true, false, false, false, true, true, true, true]) := by
  unfold cutX11_rest at h
  simp only [mLk] at h
  by_cases h0 : 109 = t
  · subst h0
    simp at h
    exact Or.inl ⟨rfl, h.symm⟩
  rw [if_neg h0] at h
  by_cases h1 : 145 = t
  · subst h1
    simp at h
    exact Or.inr (Or.inl ⟨rfl, h.symm⟩)
  rw [if_neg h1] at h
  by_cases h2 : 201 = t
  · subst h2
    simp at h
    exact Or.inr (Or.inr (Or.inl ⟨rfl, h.symm⟩))
  rw [if_neg h2] at h
  by_cases h3 : 211 = t
  · subst h3
    simp at h
    exact Or.inr (Or.inr (Or.inr (⟨rfl, h.symm⟩)))
  rw [if_neg h3] at h
  cases h
set_option maxRecDepth 100000 in
set_option maxHeartbeats 8000000 in
theorem vcX11_rest (fl : Nat → Bool) (avs : List mV) (I : mM) (Q : mO → mM → Prop) (hsp : spX11_rest fl avs I Q) : mVC SX11_rest fl Q kX11_rest cutX11_rest 8 avs I := by
  obtain ⟨i, a, b, c, w, rfl, h0⟩ := shRIIII_inv hsp
  obtain ⟨rfl, H, ra, rb, rc, rw', h1, h2, h3, h4, h5, h6⟩ := h0
  refine ⟨rfl, (fun m t lv st I1 => st = [] ∧ ∃ (h : Nat) (r : Int → Int), (wayP a ∧ wayP b ∧ ballP c ∧ 0 ≤ w ∧ w ≤ 1 ∧ keptP (I 201) a ∧ keptP (I 201) b ∧ 1 ≤ I 201 (13 + c) ∧ h ≤ (I 201 (13 + c)).toNat) ∧ mPost I I1 r 0 (I 200 16) (I 200 17) ∧ (if t = 109 then lv = [some (mR (some 200)), none, some (mI b), some (mI c), some (mI w), some (mI (I 201 (13 + c))), some (mI h), none] ∧ m = 1000 + (8 - h) ∧ r = stR (I 201) (keptS (I 201) a) ∧ (∀ g : Int, 0 ≤ g → g < 9 → I1 208 g = stT (I 201) g) ∧ (∀ g : Int, 0 ≤ g → g < h → I1 209 g = cstS (I 201) a c g) else if t = 145 then lv = [some (mR (some 200)), none, none, some (mI c), some (mI w), some (mI (I 201 (13 + c))), some (mI h), none] ∧ m = 500 + (8 - h) ∧ r = stR (I 201) (keptS (I 201) b) ∧ (∀ g : Int, 0 ≤ g → g < 9 → I1 208 g = stT (I 201) g) ∧ (∀ g : Int, 0 ≤ g → g < I 201 (13 + c) → I1 209 g = cstS (I 201) a c g) ∧ (∀ g : Int, 0 ≤ g → g < h → I1 210 g = cstS (I 201) b c g) else if t = 201 then lv = [some (mR (some 200)), none, none, none, some (mI w), some (mI (I 201 (13 + c))), some (mI h), none] ∧ m = 20 * (8 - h) + 10 ∧ r = I 201 ∧ (∀ g : Int, 0 ≤ g → g < I 201 (13 + c) → I1 209 g = cstS (I 201) a c g ∧ I1 210 g = cstS (I 201) b c g) ∧ (I1 200 24, I1 200 25, I1 200 26) = restOut (cstS (I 201) a c) (cstS (I 201) b c) (I 201 (13 + c)).toNat h else ∃ k : Nat, lv = [some (mR (some 200)), none, none, none, some (mI w), some (mI (I 201 (13 + c))), some (mI h), some (mI k)] ∧ k ≤ h ∧ h < (I 201 (13 + c)).toNat ∧ m = 20 * (8 - h) + 9 - k ∧ r = I 201 ∧ (∀ g : Int, 0 ≤ g → g < I 201 (13 + c) → I1 209 g = cstS (I 201) a c g ∧ I1 210 g = cstS (I 201) b c g) ∧ (I1 200 24, I1 200 25, I1 200 26) = restIn (cstS (I 201) a c) (cstS (I 201) b c) (I 201 (13 + c)).toNat h k (restOut (cstS (I 201) a c) (cstS (I 201) b c) (I 201 (13 + c)).toNat h))), ?_, ?_⟩
  · intro n t bs hbs lv st I1 hc
    rcases cutsX11_rest hbs with ⟨rfl, rfl⟩ | ⟨rfl, rfl⟩ | ⟨rfl, rfl⟩ | ⟨rfl, rfl⟩
    · skip
      rw [sfxX11_rest_109]
      obtain ⟨rfl, h, r, ⟨ka, kb, kc, kw0, kw1, kea, keb, kn, kh⟩, mp, rfl, hm, rfl, h208, h209⟩ := hc
      have hn8 := H.2.1 c kc.1 kc.2
      have Hr := H.sts (H.kept ka)
      have e1 := mp.2.1
      have cb := fun z : (h : Int) < I 201 (13 + c) => costT_bd Hr kc (h := h) ⟨by omega, by omega⟩
      have eb : ∀ f, I1 201 (595 + 10 * b + 1 + f) = stR (I 201) (keptS (I 201) a) (595 + 10 * b + 1 + f) := fun f => by rw [e1]
      simp only [false_and, and_false, true_or, or_true, false_or, or_false, true_and, and_true, true_implies, false_implies, implies_true, not_true_eq_false, not_false_eq_true, and_self, List.length_cons, List.length_nil, mNoCut_, mCat_n, mCat_I, mCat_L, mCat_R, mIsL_n, mIsL_I, mIsL_R, mIsL_L, Nat.reduceAdd, Nat.reduceSub, Nat.reduceLeDiff, Nat.reduceLT, Nat.reduceEqDiff, Nat.zero_le, Int.reduceEq, Int.reduceLT, Int.reduceLE, Int.reduceNeg, Int.reduceAdd, if_true, if_false, reduceIte, reduceCtorEq, Bool.false_eq_true, ne_eq, qCmp_0, qCmp_1, qCmp_2, qCmp_3, qCmp_4, qCmp_5, ib_0, ib_1, ib_2, lb_0, lb_1, lb_2, dv_0, dv_1, wq_ic, wq_lc, wq_ld_i, wq_ld_a, wq_st_i, wq_iinc, wq_ib, wq_lb, wq_i2l, wq_icmp, wq_if, wq_goto, wq_get, mGet_0, mGet_1, mGet_2, mGet_3, wq_putI, wq_putL, wq_ald, wq_astI, wq_astL, wq_ret0, wq_ret1, wq_ret2, wq_ret3, wq_ret4, ldR0, ldI1, wq_callS1_1, ldI2, ldI3, mrg_1_, ldI4, wq_callS3_1, mrg_2_, wq_callV2_0, mrg_3_, mrg_0_, fk_11_3, fk_11_0, mrg_13_, stI5, ldI5, wq_callV3_0, wq_callV1_0, stI6, ldI6, fk_11_22, wqinc6, fk_11_23, fk_11_25, wq_callV4_0, stI7, ldI7, wqinc7, fk_11_24, fk_11_26, mPut_s, mPut_I0, mPut_R0, mPut_L0, mPut_I1, mPut_R1, mPut_L1, mGo_n, sfxX11_rest_22, cutX11_rest_22, sfxX11_rest_26, cutX11_rest_26, sfxX11_rest_41, cutX11_rest_41, sfxX11_rest_57, cutX11_rest_57, sfxX11_rest_61, cutX11_rest_61, sfxX11_rest_62, cutX11_rest_62, sfxX11_rest_74, cutX11_rest_74, sfxX11_rest_97, cutX11_rest_97, sfxX11_rest_109, cutX11_rest_109, sfxX11_rest_137, cutX11_rest_137, sfxX11_rest_145, cutX11_rest_145, sfxX11_rest_173, cutX11_rest_173, sfxX11_rest_201, cutX11_rest_201, sfxX11_rest_211, cutX11_rest_211, sfxX11_rest_276, cutX11_rest_276, sfxX11_rest_282, cutX11_rest_282, sfxX11_rest_302, cutX11_rest_302, sfxX11_rest_318, cutX11_rest_318, wq_cut, mGo_c, mMask_t, mMask_f, mMask_n, kX11_rest_318, kX11_rest_302, kX11_rest_282, kX11_rest_276, kX11_rest_211, kX11_rest_201, kX11_rest_173, kX11_rest_145, kX11_rest_137, kX11_rest_109, kX11_rest_97, kX11_rest_74, kX11_rest_62, kX11_rest_61, kX11_rest_57, kX11_rest_41, kX11_rest_26, kX11_rest_22, kX11_rest_0, sk_200, al_200, rf_200_0, sk_201, al_201, sn_201, rf_200_22, sk_209, al_209, sn_209, rf_200_23, sk_210, al_210, sn_210, ald_n, ro0_n, al_ro, SX11_rest_0, SX11_rest_1, SX11_rest_2, SX11_rest_3, SX11_rest_4, SX11_rest_5, SX11_rest_6, SX11_rest_7, SX11_rest_8, SX11_rest_9, shqI_, shqLLL_, shqRI_, shqRLL_, shqR_, shqRII_, shqRLLI_, spX11_isWay, spX11_isBall, spX11_within, spX11_isKept, spX11_takes, spX11_putsBy, spX11_takesWay, spX11_costOf, spX11_givesBack, spX11_tries, mrg, mrl, mSet_ap, ncast, Option.some.injEq, e1]
      (try simp only [mrg, mrl] at *) <;> repeat' (first | (with_reducible assumption) | (with_reducible apply And.intro) | intro _)
      all_goals first | omega | assumption | exact ⟨500 + (8 - 0), by omega, 0, _, ⟨ka, kb, kc, kw0, kw1, kea, keb, kn, by omega⟩, mp.st _, rfl, rfl, by rw [stR_stR]; exact stR_cong _ (fun f f0 f1 => keptS_stR _ _ kb.1 f f0), fun g g0 g1 => by rw [standsM_ne _ _ (by decide)]; exact h208 g g0 g1, fun g g0 g1 => by rw [standsM_ne _ _ (by decide)]; exact h209 g g0 (by omega), fun g g0 g1 => by omega⟩ | exact ⟨1000 + (8 - (h + 1)), by omega, h + 1, _, ⟨ka, kb, kc, kw0, kw1, kea, keb, kn, by omega⟩, mp.arr ⟨by decide, by decide⟩ _ _, rfl, rfl, rfl, h208, fun g g0 g1 => (Decidable.em (g = (h : Int))).elim (fun q => by rw [if_pos q, q]; rfl) (fun q => by rw [if_neg q]; exact h209 g g0 (by omega))⟩ | skip
    · skip
      rw [sfxX11_rest_145]
      obtain ⟨rfl, h, r, ⟨ka, kb, kc, kw0, kw1, kea, keb, kn, kh⟩, mp, rfl, hm, rfl, h208, h209, h210⟩ := hc
      have hn8 := H.2.1 c kc.1 kc.2
      have Hr := H.sts (H.kept kb)
      have e1 := mp.2.1
      have cb := fun z : (h : Int) < I 201 (13 + c) => costT_bd Hr kc (h := h) ⟨by omega, by omega⟩
      have er : stR (stR (I 201) (keptS (I 201) b)) (I1 208) = I 201 := by
        rw [stR_stR]
        exact (stR_cong _ (fun f f0 f1 => h208 f f0 f1)).trans (stR_self _)
      have hcc : I 201 (13 + c) ≤ h → ∀ g : Int, 0 ≤ g → g < I 201 (13 + c) → cstP (I1 209 g) ∧ cstP (I1 210 g) := fun z g g0 g1 => by
        rw [h209 g g0 g1, h210 g g0 (by omega)]
        have q1 := cstS_bd H (h := g) ka kc ⟨g0, by omega⟩
        have q2 := cstS_bd H (h := g) kb kc ⟨g0, by omega⟩
        exact ⟨⟨by omega, by omega⟩, ⟨by omega, by omega⟩⟩
      have hce : I 201 (13 + c) ≤ h → ∀ g : Int, 0 ≤ g → g < ((I 201 (13 + c)).toNat : Nat) → I1 209 g = cstS (I 201) a c g ∧ I1 210 g = cstS (I 201) b c g := fun z g g0 g1 => ⟨h209 g g0 (by omega), h210 g g0 (by omega)⟩
      have hR : I 201 (13 + c) ≤ h → tryT (I1 209) (I1 210) (I 201 (13 + c)).toNat (0, 1, peakN (I1 209) (I1 210) 0 1 (I 201 (13 + c)).toNat) 1 1 = restOut (cstS (I 201) a c) (cstS (I 201) b c) (I 201 (13 + c)).toNat 0 := fun z => by
        rw [tryT_cong (hce z), peakN_cong 0 1 _ (hce z)]
        rfl
      have pk := fun z : I 201 (13 + c) ≤ h => peakN_bd (A := I1 209) (B := I1 210) (a := 0) (b := 1) ⟨by omega, by omega⟩ (by omega) (I 201 (13 + c)).toNat (fun g g0 g1 => hcc z g g0 (by omega))
      have q24 : ¬ ((4 : Int) ≤ 24 ∧ (24 : Int) ≤ 17) ∧ (24 : Int) ≤ 32 ∧ (24 : Int) ≠ 3 := by decide
      have q25 : ¬ ((4 : Int) ≤ 25 ∧ (25 : Int) ≤ 17) ∧ (25 : Int) ≤ 32 ∧ (25 : Int) ≠ 3 := by decide
      have q26 : ¬ ((4 : Int) ≤ 26 ∧ (26 : Int) ≤ 17) ∧ (26 : Int) ≤ 32 ∧ (26 : Int) ≠ 3 := by decide
      simp only [false_and, and_false, true_or, or_true, false_or, or_false, true_and, and_true, true_implies, false_implies, implies_true, not_true_eq_false, not_false_eq_true, and_self, List.length_cons, List.length_nil, mNoCut_, mCat_n, mCat_I, mCat_L, mCat_R, mIsL_n, mIsL_I, mIsL_R, mIsL_L, Nat.reduceAdd, Nat.reduceSub, Nat.reduceLeDiff, Nat.reduceLT, Nat.reduceEqDiff, Nat.zero_le, Int.reduceEq, Int.reduceLT, Int.reduceLE, Int.reduceNeg, Int.reduceAdd, if_true, if_false, reduceIte, reduceCtorEq, Bool.false_eq_true, ne_eq, qCmp_0, qCmp_1, qCmp_2, qCmp_3, qCmp_4, qCmp_5, ib_0, ib_1, ib_2, lb_0, lb_1, lb_2, dv_0, dv_1, wq_ic, wq_lc, wq_ld_i, wq_ld_a, wq_st_i, wq_iinc, wq_ib, wq_lb, wq_i2l, wq_icmp, wq_if, wq_goto, wq_get, mGet_0, mGet_1, mGet_2, mGet_3, wq_putI, wq_putL, wq_ald, wq_astI, wq_astL, wq_ret0, wq_ret1, wq_ret2, wq_ret3, wq_ret4, ldR0, ldI1, wq_callS1_1, ldI2, ldI3, mrg_1_, ldI4, wq_callS3_1, mrg_2_, wq_callV2_0, mrg_3_, mrg_0_, fk_11_3, fk_11_0, mrg_13_, stI5, ldI5, wq_callV3_0, wq_callV1_0, stI6, ldI6, fk_11_22, wqinc6, fk_11_23, fk_11_25, wq_callV4_0, stI7, ldI7, wqinc7, fk_11_24, fk_11_26, mPut_s, mPut_I0, mPut_R0, mPut_L0, mPut_I1, mPut_R1, mPut_L1, mGo_n, sfxX11_rest_22, cutX11_rest_22, sfxX11_rest_26, cutX11_rest_26, sfxX11_rest_41, cutX11_rest_41, sfxX11_rest_57, cutX11_rest_57, sfxX11_rest_61, cutX11_rest_61, sfxX11_rest_62, cutX11_rest_62, sfxX11_rest_74, cutX11_rest_74, sfxX11_rest_97, cutX11_rest_97, sfxX11_rest_109, cutX11_rest_109, sfxX11_rest_137, cutX11_rest_137, sfxX11_rest_145, cutX11_rest_145, sfxX11_rest_173, cutX11_rest_173, sfxX11_rest_201, cutX11_rest_201, sfxX11_rest_211, cutX11_rest_211, sfxX11_rest_276, cutX11_rest_276, sfxX11_rest_282, cutX11_rest_282, sfxX11_rest_302, cutX11_rest_302, sfxX11_rest_318, cutX11_rest_318, wq_cut, mGo_c, mMask_t, mMask_f, mMask_n, kX11_rest_318, kX11_rest_302, kX11_rest_282, kX11_rest_276, kX11_rest_211, kX11_rest_201, kX11_rest_173, kX11_rest_145, kX11_rest_137, kX11_rest_109, kX11_rest_97, kX11_rest_74, kX11_rest_62, kX11_rest_61, kX11_rest_57, kX11_rest_41, kX11_rest_26, kX11_rest_22, kX11_rest_0, sk_200, al_200, rf_200_0, sk_201, al_201, sn_201, rf_200_22, sk_209, al_209, sn_209, rf_200_23, sk_210, al_210, sn_210, ald_n, ro0_n, al_ro, SX11_rest_0, SX11_rest_1, SX11_rest_2, SX11_rest_3, SX11_rest_4, SX11_rest_5, SX11_rest_6, SX11_rest_7, SX11_rest_8, SX11_rest_9, shqI_, shqLLL_, shqRI_, shqRLL_, shqR_, shqRII_, shqRLLI_, spX11_isWay, spX11_isBall, spX11_within, spX11_isKept, spX11_takes, spX11_putsBy, spX11_takesWay, spX11_costOf, spX11_givesBack, spX11_tries, mrg, mrl, mSet_ap, ncast, Option.some.injEq, e1, set_ne, standsM_ne, try0]
      (try simp only [mrg, mrl] at *) <;> repeat' (first | (with_reducible assumption) | (with_reducible apply And.intro) | intro _)
      all_goals first | omega | assumption | exact hcc (by assumption) | exact (hcc (by omega) _ (by omega) (by omega)).1.1 | exact (hcc (by omega) _ (by omega) (by omega)).1.2 | exact (hcc (by omega) _ (by omega) (by omega)).2.1 | exact (hcc (by omega) _ (by omega) (by omega)).2.2 | (dsimp only; omega) | (dsimp only; (have := pk (by omega)); omega) | exact Or.inr ⟨⟨by dsimp only; omega, by dsimp only; omega⟩, ⟨by dsimp only; omega, by dsimp only; omega⟩, ⟨by dsimp only; have := pk (by assumption); omega, by dsimp only; have := pk (by assumption); omega⟩⟩ | exact ⟨500 + (8 - (h + 1)), by omega, h + 1, _, ⟨ka, kb, kc, kw0, kw1, kea, keb, kn, by omega⟩, mp.arr ⟨by decide, by decide⟩ _ _, rfl, rfl, rfl, h208, h209, fun g g0 g1 => (Decidable.em (g = (h : Int))).elim (fun q => by rw [if_pos q, q]; rfl) (fun q => by rw [if_neg q]; exact h210 g g0 (by omega))⟩ | exact ⟨20 * 8 + 10, by omega, 0, _, ⟨ka, kb, kc, kw0, kw1, kea, keb, kn, by omega⟩, (((((((mp.st (I1 208)).f200 q25 _).f200 q24 _).f200 q25 _).f200 q26 _).f200 q24 _).f200 q25 _).f200 q26 _, rfl, rfl, er, fun g g0 g1 => hce (by assumption) g g0 (by omega), hR (by assumption)⟩ | skip
    · skip
      rw [sfxX11_rest_201]
      obtain ⟨rfl, h, r, ⟨ka, kb, kc, kw0, kw1, kea, keb, kn, kh⟩, mp, rfl, hm, rfl, h9, hp⟩ := hc
      have hn8 := H.2.1 c kc.1 kc.2
      have rb := restOut_bd (A := cstS (I 201) a c) (B := cstS (I 201) b c) (n := (I 201 (13 + c)).toNat) (fun g g0 g1 => by have q1 := cstS_bd H (h := g) ka kc ⟨g0, by omega⟩; have q2 := cstS_bd H (h := g) kb kc ⟨g0, by omega⟩; exact ⟨⟨by omega, by omega⟩, ⟨by omega, by omega⟩⟩) h kh
      rw [← hp] at rb
      obtain ⟨⟨⟨r1, r2⟩, ⟨r3, r4⟩, r5, r6⟩, r7⟩ := rb
      dsimp only at r1 r2 r3 r4 r5 r6 r7
      have hT : I 201 (13 + c) ≤ h → restT (I 201) a b c = (I1 200 24, I1 200 25, I1 200 26) := fun z => by
        rw [hp]
        unfold restT
        congr 1
        omega
      have f5 : I 201 (13 + c) ≤ h → w = 0 → Q (.inl (some (mI 1))) (mSet (mSet I1 200 16 (upT (I1 200 24) (I1 200 25))) 200 17 (loT (I1 200 24) (I1 200 25))) := fun z z2 => h5 ⟨ka, kb, kc⟩ ⟨kea, keb⟩ (by omega) z2 _ (by rw [hT z]; exact mp.frac)
      have f6 : I 201 (13 + c) ≤ h → w = 1 → Q (.inl (some (mI 1))) (mSet (mSet I1 200 16 (upT (I1 200 26) (100 * I1 200 25))) 200 17 (loT (I1 200 26) (100 * I1 200 25))) := fun z z2 => h6 ⟨ka, kb, kc⟩ ⟨kea, keb⟩ (by omega) z2 _ (by rw [hT z]; exact mp.frac)
      simp only [false_and, and_false, true_or, or_true, false_or, or_false, true_and, and_true, true_implies, false_implies, implies_true, not_true_eq_false, not_false_eq_true, and_self, List.length_cons, List.length_nil, mNoCut_, mCat_n, mCat_I, mCat_L, mCat_R, mIsL_n, mIsL_I, mIsL_R, mIsL_L, Nat.reduceAdd, Nat.reduceSub, Nat.reduceLeDiff, Nat.reduceLT, Nat.reduceEqDiff, Nat.zero_le, Int.reduceEq, Int.reduceLT, Int.reduceLE, Int.reduceNeg, Int.reduceAdd, if_true, if_false, reduceIte, reduceCtorEq, Bool.false_eq_true, ne_eq, qCmp_0, qCmp_1, qCmp_2, qCmp_3, qCmp_4, qCmp_5, ib_0, ib_1, ib_2, lb_0, lb_1, lb_2, dv_0, dv_1, wq_ic, wq_lc, wq_ld_i, wq_ld_a, wq_st_i, wq_iinc, wq_ib, wq_lb, wq_i2l, wq_icmp, wq_if, wq_goto, wq_get, mGet_0, mGet_1, mGet_2, mGet_3, wq_putI, wq_putL, wq_ald, wq_astI, wq_astL, wq_ret0, wq_ret1, wq_ret2, wq_ret3, wq_ret4, ldR0, ldI1, wq_callS1_1, ldI2, ldI3, mrg_1_, ldI4, wq_callS3_1, mrg_2_, wq_callV2_0, mrg_3_, mrg_0_, fk_11_3, fk_11_0, mrg_13_, stI5, ldI5, wq_callV3_0, wq_callV1_0, stI6, ldI6, fk_11_22, wqinc6, fk_11_23, fk_11_25, wq_callV4_0, stI7, ldI7, wqinc7, fk_11_24, fk_11_26, mPut_s, mPut_I0, mPut_R0, mPut_L0, mPut_I1, mPut_R1, mPut_L1, mGo_n, sfxX11_rest_22, cutX11_rest_22, sfxX11_rest_26, cutX11_rest_26, sfxX11_rest_41, cutX11_rest_41, sfxX11_rest_57, cutX11_rest_57, sfxX11_rest_61, cutX11_rest_61, sfxX11_rest_62, cutX11_rest_62, sfxX11_rest_74, cutX11_rest_74, sfxX11_rest_97, cutX11_rest_97, sfxX11_rest_109, cutX11_rest_109, sfxX11_rest_137, cutX11_rest_137, sfxX11_rest_145, cutX11_rest_145, sfxX11_rest_173, cutX11_rest_173, sfxX11_rest_201, cutX11_rest_201, sfxX11_rest_211, cutX11_rest_211, sfxX11_rest_276, cutX11_rest_276, sfxX11_rest_282, cutX11_rest_282, sfxX11_rest_302, cutX11_rest_302, sfxX11_rest_318, cutX11_rest_318, wq_cut, mGo_c, mMask_t, mMask_f, mMask_n, kX11_rest_318, kX11_rest_302, kX11_rest_282, kX11_rest_276, kX11_rest_211, kX11_rest_201, kX11_rest_173, kX11_rest_145, kX11_rest_137, kX11_rest_109, kX11_rest_97, kX11_rest_74, kX11_rest_62, kX11_rest_61, kX11_rest_57, kX11_rest_41, kX11_rest_26, kX11_rest_22, kX11_rest_0, sk_200, al_200, rf_200_0, sk_201, al_201, sn_201, rf_200_22, sk_209, al_209, sn_209, rf_200_23, sk_210, al_210, sn_210, ald_n, ro0_n, al_ro, SX11_rest_0, SX11_rest_1, SX11_rest_2, SX11_rest_3, SX11_rest_4, SX11_rest_5, SX11_rest_6, SX11_rest_7, SX11_rest_8, SX11_rest_9, shqI_, shqLLL_, shqRI_, shqRLL_, shqR_, shqRII_, shqRLLI_, spX11_isWay, spX11_isBall, spX11_within, spX11_isKept, spX11_takes, spX11_putsBy, spX11_takesWay, spX11_costOf, spX11_givesBack, spX11_tries, mrg, mrl, mSet_ap, ncast, Option.some.injEq]
      (try simp only [mrg, mrl] at *) <;> repeat' (first | (with_reducible assumption) | (with_reducible apply And.intro) | intro _)
      all_goals first | omega | assumption | exact f5 (by omega) (by omega) | exact f6 (by omega) (by omega) | exact ⟨20 * (8 - h) + 9 - 0, by omega, h, _, ⟨ka, kb, kc, kw0, kw1, kea, keb, kn, by omega⟩, mp, 0, rfl, by omega, by omega, rfl, rfl, h9, hp⟩ | skip
    · skip
      rw [sfxX11_rest_211]
      obtain ⟨rfl, h, r, ⟨ka, kb, kc, kw0, kw1, kea, keb, kn, kh⟩, mp, k, rfl, kk, khn, hm, rfl, h9, hp⟩ := hc
      have hn8 := H.2.1 c kc.1 kc.2
      have hcc : ∀ g : Int, 0 ≤ g → g < ((I 201 (13 + c)).toNat : Nat) → cstP (cstS (I 201) a c g) ∧ cstP (cstS (I 201) b c g) := fun g g0 g1 => by
        have q1 := cstS_bd H (h := g) ka kc ⟨g0, by omega⟩
        have q2 := cstS_bd H (h := g) kb kc ⟨g0, by omega⟩
        exact ⟨⟨by omega, by omega⟩, ⟨by omega, by omega⟩⟩
      have hcd : ∀ g : Int, 0 ≤ g → g < I 201 (13 + c) → cstP (I1 209 g) ∧ cstP (I1 210 g) := fun g g0 g1 => by
        rw [(h9 g g0 g1).1, (h9 g g0 g1).2]
        exact hcc g g0 (by omega)
      have rb := restIn_bd (h := h) hcc ⟨by omega, by omega⟩ (restOut_bd hcc h kh) k (by omega)
      rw [← hp] at rb
      have dk := fun z : (k : Int) < h => hcd k (by omega) (by omega)
      have dh := hcd h (by omega) (by omega)
      have hN : (k : Int) < h → tryT (I1 209) (I1 210) (I 201 (13 + c)).toNat (I1 200 24, I1 200 25, I1 200 26) (I1 210 k - I1 210 h) (I1 209 h - I1 210 h - I1 209 k + I1 210 k) = restIn (cstS (I 201) a c) (cstS (I 201) b c) (I 201 (13 + c)).toNat h (k + 1) (restOut (cstS (I 201) a c) (cstS (I 201) b c) (I 201 (13 + c)).toNat h) := fun z => by
        rw [tryT_cong (A' := cstS (I 201) a c) (B' := cstS (I 201) b c) (fun g g0 g1 => h9 g g0 (by omega)), hp, (h9 k (by omega) (by omega)).1, (h9 k (by omega) (by omega)).2, (h9 h (by omega) (by omega)).1, (h9 h (by omega) (by omega)).2]
        rfl
      have q24 : ¬ ((4 : Int) ≤ 24 ∧ (24 : Int) ≤ 17) ∧ (24 : Int) ≤ 32 ∧ (24 : Int) ≠ 3 := by decide
      have q25 : ¬ ((4 : Int) ≤ 25 ∧ (25 : Int) ≤ 17) ∧ (25 : Int) ≤ 32 ∧ (25 : Int) ≠ 3 := by decide
      have q26 : ¬ ((4 : Int) ≤ 26 ∧ (26 : Int) ≤ 17) ∧ (26 : Int) ≤ 32 ∧ (26 : Int) ≠ 3 := by decide
      simp only [false_and, and_false, true_or, or_true, false_or, or_false, true_and, and_true, true_implies, false_implies, implies_true, not_true_eq_false, not_false_eq_true, and_self, List.length_cons, List.length_nil, mNoCut_, mCat_n, mCat_I, mCat_L, mCat_R, mIsL_n, mIsL_I, mIsL_R, mIsL_L, Nat.reduceAdd, Nat.reduceSub, Nat.reduceLeDiff, Nat.reduceLT, Nat.reduceEqDiff, Nat.zero_le, Int.reduceEq, Int.reduceLT, Int.reduceLE, Int.reduceNeg, Int.reduceAdd, if_true, if_false, reduceIte, reduceCtorEq, Bool.false_eq_true, ne_eq, qCmp_0, qCmp_1, qCmp_2, qCmp_3, qCmp_4, qCmp_5, ib_0, ib_1, ib_2, lb_0, lb_1, lb_2, dv_0, dv_1, wq_ic, wq_lc, wq_ld_i, wq_ld_a, wq_st_i, wq_iinc, wq_ib, wq_lb, wq_i2l, wq_icmp, wq_if, wq_goto, wq_get, mGet_0, mGet_1, mGet_2, mGet_3, wq_putI, wq_putL, wq_ald, wq_astI, wq_astL, wq_ret0, wq_ret1, wq_ret2, wq_ret3, wq_ret4, ldR0, ldI1, wq_callS1_1, ldI2, ldI3, mrg_1_, ldI4, wq_callS3_1, mrg_2_, wq_callV2_0, mrg_3_, mrg_0_, fk_11_3, fk_11_0, mrg_13_, stI5, ldI5, wq_callV3_0, wq_callV1_0, stI6, ldI6, fk_11_22, wqinc6, fk_11_23, fk_11_25, wq_callV4_0, stI7, ldI7, wqinc7, fk_11_24, fk_11_26, mPut_s, mPut_I0, mPut_R0, mPut_L0, mPut_I1, mPut_R1, mPut_L1, mGo_n, sfxX11_rest_22, cutX11_rest_22, sfxX11_rest_26, cutX11_rest_26, sfxX11_rest_41, cutX11_rest_41, sfxX11_rest_57, cutX11_rest_57, sfxX11_rest_61, cutX11_rest_61, sfxX11_rest_62, cutX11_rest_62, sfxX11_rest_74, cutX11_rest_74, sfxX11_rest_97, cutX11_rest_97, sfxX11_rest_109, cutX11_rest_109, sfxX11_rest_137, cutX11_rest_137, sfxX11_rest_145, cutX11_rest_145, sfxX11_rest_173, cutX11_rest_173, sfxX11_rest_201, cutX11_rest_201, sfxX11_rest_211, cutX11_rest_211, sfxX11_rest_276, cutX11_rest_276, sfxX11_rest_282, cutX11_rest_282, sfxX11_rest_302, cutX11_rest_302, sfxX11_rest_318, cutX11_rest_318, wq_cut, mGo_c, mMask_t, mMask_f, mMask_n, kX11_rest_318, kX11_rest_302, kX11_rest_282, kX11_rest_276, kX11_rest_211, kX11_rest_201, kX11_rest_173, kX11_rest_145, kX11_rest_137, kX11_rest_109, kX11_rest_97, kX11_rest_74, kX11_rest_62, kX11_rest_61, kX11_rest_57, kX11_rest_41, kX11_rest_26, kX11_rest_22, kX11_rest_0, sk_200, al_200, rf_200_0, sk_201, al_201, sn_201, rf_200_22, sk_209, al_209, sn_209, rf_200_23, sk_210, al_210, sn_210, ald_n, ro0_n, al_ro, SX11_rest_0, SX11_rest_1, SX11_rest_2, SX11_rest_3, SX11_rest_4, SX11_rest_5, SX11_rest_6, SX11_rest_7, SX11_rest_8, SX11_rest_9, shqI_, shqLLL_, shqRI_, shqRLL_, shqR_, shqRII_, shqRLLI_, spX11_isWay, spX11_isBall, spX11_within, spX11_isKept, spX11_takes, spX11_putsBy, spX11_takesWay, spX11_costOf, spX11_givesBack, spX11_tries, mrg, mrl, mSet_ap, ncast, Option.some.injEq, set_ne]
      (try simp only [mrg, mrl] at *) <;> repeat' (first | (with_reducible assumption) | (with_reducible apply And.intro) | intro _)
      all_goals first | omega | assumption | exact Or.inr rb.1 | exact ⟨20 * (8 - (h + 1)) + 10, by omega, h + 1, _, ⟨ka, kb, kc, kw0, kw1, kea, keb, kn, by omega⟩, mp, rfl, rfl, rfl, h9, by (have e : k = h := by omega); rw [hp, e]; rfl⟩ | exact ⟨20 * (8 - h) + 9 - (k + 1), by omega, h, _, ⟨ka, kb, kc, kw0, kw1, kea, keb, kn, by omega⟩, ((mp.f200 q24 _).f200 q25 _).f200 q26 _, k + 1, rfl, by omega, by omega, rfl, rfl, h9, hN (by omega)⟩ | skip
  · show mWp _ _ _ _ _ _ kX11_rest_0 [some (mR (some 200)), some (mI a), some (mI b), some (mI c), some (mI w), none, none, none] [] I
    have hk := fun z : wayP a => (H.2.2.2.2.2.2 a z.1 z.2).1
    have hk2 := fun z : wayP b => (H.2.2.2.2.2.2 b z.1 z.2).1
    have hn8 := fun z : ballP c => H.2.1 c z.1 z.2
    have mp0 := mPost.thr I 0
    simp only [false_and, and_false, true_or, or_true, false_or, or_false, true_and, and_true, true_implies, false_implies, implies_true, not_true_eq_false, not_false_eq_true, and_self, List.length_cons, List.length_nil, mNoCut_, mCat_n, mCat_I, mCat_L, mCat_R, mIsL_n, mIsL_I, mIsL_R, mIsL_L, Nat.reduceAdd, Nat.reduceSub, Nat.reduceLeDiff, Nat.reduceLT, Nat.reduceEqDiff, Nat.zero_le, Int.reduceEq, Int.reduceLT, Int.reduceLE, Int.reduceNeg, Int.reduceAdd, if_true, if_false, reduceIte, reduceCtorEq, Bool.false_eq_true, ne_eq, qCmp_0, qCmp_1, qCmp_2, qCmp_3, qCmp_4, qCmp_5, ib_0, ib_1, ib_2, lb_0, lb_1, lb_2, dv_0, dv_1, wq_ic, wq_lc, wq_ld_i, wq_ld_a, wq_st_i, wq_iinc, wq_ib, wq_lb, wq_i2l, wq_icmp, wq_if, wq_goto, wq_get, mGet_0, mGet_1, mGet_2, mGet_3, wq_putI, wq_putL, wq_ald, wq_astI, wq_astL, wq_ret0, wq_ret1, wq_ret2, wq_ret3, wq_ret4, ldR0, ldI1, wq_callS1_1, ldI2, ldI3, mrg_1_, ldI4, wq_callS3_1, mrg_2_, wq_callV2_0, mrg_3_, mrg_0_, fk_11_3, fk_11_0, mrg_13_, stI5, ldI5, wq_callV3_0, wq_callV1_0, stI6, ldI6, fk_11_22, wqinc6, fk_11_23, fk_11_25, wq_callV4_0, stI7, ldI7, wqinc7, fk_11_24, fk_11_26, mPut_s, mPut_I0, mPut_R0, mPut_L0, mPut_I1, mPut_R1, mPut_L1, mGo_n, sfxX11_rest_22, cutX11_rest_22, sfxX11_rest_26, cutX11_rest_26, sfxX11_rest_41, cutX11_rest_41, sfxX11_rest_57, cutX11_rest_57, sfxX11_rest_61, cutX11_rest_61, sfxX11_rest_62, cutX11_rest_62, sfxX11_rest_74, cutX11_rest_74, sfxX11_rest_97, cutX11_rest_97, sfxX11_rest_109, cutX11_rest_109, sfxX11_rest_137, cutX11_rest_137, sfxX11_rest_145, cutX11_rest_145, sfxX11_rest_173, cutX11_rest_173, sfxX11_rest_201, cutX11_rest_201, sfxX11_rest_211, cutX11_rest_211, sfxX11_rest_276, cutX11_rest_276, sfxX11_rest_282, cutX11_rest_282, sfxX11_rest_302, cutX11_rest_302, sfxX11_rest_318, cutX11_rest_318, wq_cut, mGo_c, mMask_t, mMask_f, mMask_n, kX11_rest_318, kX11_rest_302, kX11_rest_282, kX11_rest_276, kX11_rest_211, kX11_rest_201, kX11_rest_173, kX11_rest_145, kX11_rest_137, kX11_rest_109, kX11_rest_97, kX11_rest_74, kX11_rest_62, kX11_rest_61, kX11_rest_57, kX11_rest_41, kX11_rest_26, kX11_rest_22, kX11_rest_0, sk_200, al_200, rf_200_0, sk_201, al_201, sn_201, rf_200_22, sk_209, al_209, sn_209, rf_200_23, sk_210, al_210, sn_210, ald_n, ro0_n, al_ro, SX11_rest_0, SX11_rest_1, SX11_rest_2, SX11_rest_3, SX11_rest_4, SX11_rest_5, SX11_rest_6, SX11_rest_7, SX11_rest_8, SX11_rest_9, shqI_, shqLLL_, shqRI_, shqRLL_, shqR_, shqRII_, shqRLLI_, spX11_isWay, spX11_isBall, spX11_within, spX11_isKept, spX11_takes, spX11_putsBy, spX11_takesWay, spX11_costOf, spX11_givesBack, spX11_tries, mrg, mrl, mSet_ap, ncast, Option.some.injEq, set_201, set_over1]
    (try simp only [mrg, mrl] at *) <;> repeat' (first | (with_reducible assumption) | (with_reducible apply And.intro) | intro _)
    all_goals first | omega | assumption | exact h1 (by omega) | exact h2 (by omega) (by omega) | exact h3 (by omega) (by omega) (by omega) | exact h4 (by omega) (by omega) (by omega) (by omega) _ mp0.frac | exact ⟨1008, 0, _, ⟨by omega, by omega, by omega, by omega, by omega, by omega, by omega, by omega, by omega⟩, (mp0.note ⟨by decide, by decide⟩ _ _).st _, rfl, rfl, by rw [noteM_ne _ _ _ _ (by decide), set_201]; rfl, fun g g0 g1 => by rw [standsM_ne _ _ (by decide)]; (first | exact noteM_at _ _ _ ⟨g0, g1⟩ | (rw [noteM_at _ _ _ ⟨g0, g1⟩, set_201])), fun g g0 g1 => by omega⟩ | skip
theorem ctrX11_rest {l : Launch} (hst : l.stackTraces = false) (hT : mTxM l) : mCtr l calX11_rest spX11_rest :=
  mMet (T := TX11_rest) (S := SX11_rest) hst hT cutX11_rest (by decide) okX11_rest ⟨_, _, rfl, rfl⟩ trivial (fun t bs h => by rcases cutsX11_rest h with ⟨-, rfl⟩ | ⟨-, rfl⟩ | ⟨-, rfl⟩ | ⟨-, rfl⟩ <;> rfl) (fun a => match a with
    | 0 => ctrX11_isWay hst hT
    | 1 => ctrX11_isBall hst hT
    | 2 => ctrX11_within hst hT
    | 3 => ctrX11_isKept hst hT
    | 4 => ctrX11_takes hst hT
    | 5 => ctrX11_putsBy hst hT
    | 6 => ctrX11_takesWay hst hT
    | 7 => ctrX11_costOf hst hT
    | 8 => ctrX11_givesBack hst hT
    | 9 => ctrX11_tries hst hT
    | _ + 10 => mCtr_no) vcX11_rest

end SPM16
