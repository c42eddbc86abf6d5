section LRM
theorem dle {a b ce sl ce' sl' : Nat} (h1 : ce ≤ ce') (h2 : sl ≤ sl') (h : decide (a ≤ ce ∧ b ≤ sl) = true) : decide (a ≤ ce' ∧ b ≤ sl') = true := by
  simp only [decide_eq_true_eq] at h ⊢
  exact ⟨Nat.le_trans h.1 h1, Nat.le_trans h.2 h2⟩
theorem mCk_rm {own : String} {T : Nat → mCal} {f lo ce sl ce' sl' : Nat} {acc acs : Nat → Nat} {pc a np i : Nat} (h1 : ce ≤ ce') (h2 : sl ≤ sl') (h : mCk own T (f, lo, ce, sl) acc acs pc a np i = true) : mCk own T (f, lo, ce', sl') acc acs pc a np i = true := by
  unfold mCk at h ⊢
  rw [Bool.and_eq_true] at h ⊢
  exact ⟨h.1, dle h1 h2 h.2⟩
theorem mCkH_rm {hh : List (Nat × Nat × Nat × Nat)} {T : Nat → mCal} {f lo ce sl ce' sl' : Nat} {acc acs : Nat → Nat} {pc a np i : Nat} (h1 : ce ≤ ce') (h2 : sl ≤ sl') (h : mCkH hh T (f, lo, ce, sl) acc acs pc a np i = true) : mCkH hh T (f, lo, ce', sl') acc acs pc a np i = true := by
  unfold mCkH at h ⊢
  rw [Bool.and_eq_true] at h ⊢
  exact ⟨h.1, dle h1 h2 h.2⟩
theorem mMt_rm {own : String} {cc : ByteArray} {f lo ce sl ce' sl' : Nat} {acc acs : Nat → Nat} {pc idx : Nat} {ts : List Nat} {y : MethodName} {code : ByteArray} {ml : Nat} {ty : FieldType} (h1 : ce ≤ ce') (h2 : sl ≤ sl') (h : mMt own cc (f, lo, ce, sl) acc acs pc idx ts y code ml ty = true) : mMt own cc (f, lo, ce', sl') acc acs pc idx ts y code ml ty = true := by
  unfold mMt at h ⊢
  rw [Bool.and_eq_true] at h ⊢
  exact ⟨h.1, dle h1 h2 h.2⟩
theorem mChk_rm {own : String} {cc : ByteArray} {T : Nat → mCal} {rt : Option FieldType} {f lo ce sl ce' sl' nL : Nat} {acc acs : Nat → Nat} (h1 : ce ≤ ce') (h2 : sl ≤ sl') {q : mIn} (h35 : q.2.1 ≠ 35) (h : mChk (own, cc, T, rt, (f, lo, ce, sl), nL, acc, acs) q = true) : mChk (own, cc, T, rt, (f, lo, ce', sl'), nL, acc, acs) q = true := by
  obtain ⟨pc, op, x, a, b, c, ts⟩ := q
  match op, h with
  | 0, h => exact h
  | 1, h => exact h
  | 2, h => exact h
  | 3, h => exact h
  | 4, h => exact h
  | 5, h => exact h
  | 6, h => exact h
  | 7, h => exact h
  | 8, h => exact h
  | 9, h => exact h
  | 10, h => exact h
  | 11, h => exact h
  | 12, h => exact h
  | 13, h => exact h
  | 14, h => exact h
  | 15, h => exact h
  | 16, h => exact h
  | 17, h => exact h
  | 18, h => exact h
  | 19, h => exact h
  | 20, h => exact h
  | 21, h => exact h
  | 22, h => exact h
  | 23, h => exact h
  | 24, h => exact h
  | 25, h => exact h
  | 26, h => exact h
  | 27, h => exact h
  | 28, h => exact h
  | 29, h => exact h
  | 30, h => exact h
  | 31, h => exact h
  | 32, h =>
    simp only [mChk] at h ⊢
    by_cases hx0 : x = 0
    · rw [if_pos hx0] at h ⊢
      simp only [Bool.and_eq_true] at h ⊢
      exact ⟨⟨⟨h.1.1.1, mCk_rm h1 h2 h.1.1.2⟩, h.1.2⟩, h.2⟩
    · rw [if_neg hx0] at h ⊢
      by_cases hx1 : x = 1
      · rw [if_pos hx1] at h ⊢
        simp only [Bool.and_eq_true] at h ⊢
        exact ⟨h.1, mCk_rm h1 h2 h.2⟩
      · rw [if_neg hx1] at h ⊢
        by_cases hx3 : x = 3
        · rw [if_pos hx3] at h ⊢
          simp only [Bool.and_eq_true] at h ⊢
          exact ⟨h.1, mCk_rm h1 h2 h.2⟩
        · rw [if_neg hx3] at h; cases h
  | 33, h =>
    simp only [mChk] at h ⊢
    rw [Bool.and_eq_true] at h ⊢
    exact ⟨dle h1 h2 h.1, h.2⟩
  | 34, h => exact h
  | 35, h => exact absurd rfl h35
  | 36, h => exact h
  | 37, h => exact h
  | 38, h =>
    simp only [mChk] at h ⊢
    rw [Bool.and_eq_true] at h ⊢
    exact ⟨h.1, dle h1 h2 h.2⟩
  | 39, h =>
    simp only [mChk] at h ⊢
    rw [Bool.and_eq_true] at h ⊢
    exact ⟨h.1, dle h1 h2 h.2⟩
  | 40, h =>
    match a, h with
    | 0, h => exact mMt_rm h1 h2 h
    | 1, h => exact mMt_rm h1 h2 h
    | 2, h => exact mMt_rm h1 h2 h
    | 3, h => exact mMt_rm h1 h2 h
    | _ + 4, h => exact h
  | 41, h => exact h
  | 42, h => exact h
  | 43, h => exact h
  | n + 44, h => exact h
theorem mOKL_rm {hs : Nat → List (Nat × Nat × Nat × Nat)} {own : String} {cc : ByteArray} {T : Nat → mCal} {rt : Option FieldType} {f lo ce sl ce' sl' nL : Nat} {acc acs : Nat → Nat} (h1 : ce ≤ ce') (h2 : sl ≤ sl') {P : List mIn} (h35 : P.all (fun q => decide (q.2.1 ≠ 35)) = true) (h : mOKL hs (own, cc, T, rt, (f, lo, ce, sl), nL, acc, acs) P = true) : mOKL hs (own, cc, T, rt, (f, lo, ce', sl'), nL, acc, acs) P = true := by
  simp only [mOKL, Bool.and_eq_true, List.all_eq_true] at h ⊢
  refine ⟨fun q hq => ⟨?_, (h.1 q hq).2⟩, h.2⟩
  have h5 := of_decide_eq_true (List.all_eq_true.mp h35 q hq)
  have h0 := (h.1 q hq).1
  obtain ⟨pc, op, x, a, b, c, ts⟩ := q
  unfold mChkL at h0 ⊢
  dsimp only at h0 ⊢
  by_cases e1 : op = 45
  · rw [if_pos e1] at h0 ⊢; exact h0
  · rw [if_neg e1] at h0 ⊢
    by_cases e2 : op = 46
    · rw [if_pos e2] at h0 ⊢; exact h0
    · rw [if_neg e2] at h0 ⊢
      by_cases e3 : op = 47
      · rw [if_pos e3] at h0 ⊢; exact h0
      · rw [if_neg e3] at h0 ⊢
        by_cases e4 : op = 32 ∧ x = 4
        · rw [if_pos e4] at h0 ⊢
          rw [Bool.and_eq_true] at h0 ⊢
          exact ⟨h0.1, mCkH_rm h1 h2 h0.2⟩
        · rw [if_neg e4] at h0 ⊢
          rw [Bool.and_eq_true] at h0 ⊢
          exact ⟨mChk_rm h1 h2 h5 h0.1, h0.2⟩
end LRM
section LLOOP
set_option maxRecDepth 100000 in
theorem W_end {fl : Nat → Bool} {I : mM} {f : Int → Int} {L : Nat} {i : Int} {C : Nat → mK} (hi : 0 ≤ i) (hL : (L : Int) ≤ 3072) (hi2 : i ≤ 3072) (h : (L : Int) < i + 6) (hC : C 3072 (lvL i) [] I) : mWpL SL_body (mGoL SL_body (fun _ _ => False) (fun _ _ _ => False) fl (roL L f) kL_body cutL_body C 60) (fun _ _ => False) (fun _ _ _ => False) fl (roL L f) kL_body_23 (lvL i) [] I := by
  have r1 : mrg i = True := eq_true (by unfold mrg; omega)
  have r2 : mrg ((L : Int) - 6) = True := eq_true (by unfold mrg; omega)
  have z : ((L : Int) - 6 < i) = True := eq_true (by omega)
  simp only [false_and, and_false, true_or, or_true, false_or, or_false, true_and, and_true, true_implies, false_implies, implies_true, not_true_eq_false, not_false_eq_true, and_self, List.length_cons, List.length_nil, mNoCut_, mCat_n, mCat_I, mCat_L, mCat_R, mIsL_n, mIsL_I, mIsL_R, mIsL_L, Nat.reduceAdd, Nat.reduceSub, Nat.reduceLeDiff, Nat.reduceLT, Nat.reduceEqDiff, Nat.zero_le, Int.reduceEq, Int.reduceLT, Int.reduceLE, Int.reduceNeg, Int.reduceAdd, if_true, if_false, reduceIte, reduceCtorEq, Bool.false_eq_true, ne_eq, qCmp_0, qCmp_1, qCmp_2, qCmp_3, qCmp_4, qCmp_5, ib_0, ib_1, ib_2, lb_0, lb_1, lb_2, dv_0, dv_1, wl_ic, wl_ld_i, wl_ld_a, wl_ib, wl_icmp, wl_ald, wl_len, wl_sw, wqsw_n, wqsw_c, ldI4, ldR0, mGoL_n, mGoL_c, mMask_t, mMask_f, mMask_n, ald_r2, len_r2, ncast, kL_body_23, cutL_body_240, sfxL_body_240, cutL_body_313, sfxL_body_313, cutL_body_369, sfxL_body_369, cutL_body_394, sfxL_body_394, cutL_body_450, sfxL_body_450, cutL_body_530, sfxL_body_530, cutL_body_610, sfxL_body_610, cutL_body_694, sfxL_body_694, cutL_body_762, sfxL_body_762, cutL_body_830, sfxL_body_830, cutL_body_843, sfxL_body_843, cutL_body_891, sfxL_body_891, cutL_body_959, sfxL_body_959, cutL_body_1027, sfxL_body_1027, cutL_body_1095, sfxL_body_1095, cutL_body_1163, sfxL_body_1163, cutL_body_1231, sfxL_body_1231, cutL_body_1299, sfxL_body_1299, cutL_body_1362, sfxL_body_1362, cutL_body_1376, sfxL_body_1376, cutL_body_1390, sfxL_body_1390, cutL_body_1458, sfxL_body_1458, cutL_body_1526, sfxL_body_1526, cutL_body_1589, sfxL_body_1589, cutL_body_1652, sfxL_body_1652, cutL_body_1700, sfxL_body_1700, cutL_body_1799, sfxL_body_1799, cutL_body_1867, sfxL_body_1867, cutL_body_1935, sfxL_body_1935, cutL_body_1948, sfxL_body_1948, cutL_body_2040, sfxL_body_2040, cutL_body_2115, sfxL_body_2115, cutL_body_2202, sfxL_body_2202, cutL_body_2277, sfxL_body_2277, cutL_body_2357, sfxL_body_2357, cutL_body_2413, sfxL_body_2413, cutL_body_2516, sfxL_body_2516, cutL_body_2596, sfxL_body_2596, cutL_body_2637, sfxL_body_2637, cutL_body_2717, sfxL_body_2717, cutL_body_2742, cutL_body_2802, sfxL_body_2802, cutL_body_2913, sfxL_body_2913, cutL_body_2969, cutL_body_3005, sfxL_body_3005, cutL_body_3041, sfxL_body_3041, cutL_body_3066, cutL_body_3072, r1, r2, z]
  exact hC
theorem mExt.mono {ρ ρ' : Nat → Nat} {fl fl' : Nat → Bool} {a b : Nat} (h : mExt ρ fl ρ' fl' a) (hb : b ≤ a) : mExt ρ fl ρ' fl' b := ⟨h.1, h.2.1, fun i h1 h2 => Nat.le_trans hb (h.2.2 i h1 h2)⟩
theorem roL_240 {L : Nat} {f : Int → Int} : ∀ i n g, roL L f i = some (n, g) → 240 ≤ i := fun i n g h => by
  unfold roL at h
  by_cases h1 : i = 242
  · omega
  · rw [if_neg h1] at h; cases h
theorem tray_new {fl : Nat → Bool} {I : mM} {t s n : Int} (H : LI fl I) (mt : mrg t) (ms : mrg s) (mn : mrg n) (z : trayP t) (y : (0 ≤ s ∧ s ≤ 3) ∧ (0 ≤ n ∧ n ≤ 40)) : spX11_tray (flS fl (3 + t.toNat)) [mR (some 200), mI t, mI s, mI n] (copyM (mSet (mSet (mZ (170 + 2 * t.toNat) (171 + 2 * t.toNat) I) (170 + 2 * t.toNat) 0 s) (170 + 2 * t.toNat) 1 n) (171 + 2 * t.toNat) 0 (fun _ => 0) 40) (qV (flS fl (3 + t.toNat)) 0) := by
  refine ⟨rfl, mt, ms, mn, fun h => absurd z h, fun _ h => absurd y h, fun _ _ => ?_⟩
  refine LI_tray H z y (fun i a b => ?_) ⟨?_, ?_⟩ (fun q q0 q1 => copyM_in _ _ _ _ q0 (by omega))
  · rw [copyM_ne _ _ _ _ b, set_ne a, set_ne a]
    exact if_neg (by omega)
  · rw [copyM_ne _ _ _ _ (by omega), set_nq (by decide), set_eq]
  · rw [copyM_ne _ _ _ _ (by omega), set_eq]
theorem image_new {fl : Nat → Bool} {I : mM} {t : Int} (H : LI fl I) (mt : mrg t) (z : 0 ≤ t ∧ t ≤ 2) : ∀ J : mM, cpS J (stM (30 + 20 * t.toNat) I) (30 + 20 * t.toNat) 10 → spX11_image (flS fl t.toNat) [mR (some 200), mI t] J (qV (flS fl t.toNat) 0) := fun J hJ => by
  refine ⟨rfl, mt, fun h => absurd z h, fun _ => ?_⟩
  exact LI_image H z (fun i hi => if_neg hi) hJ
section
variable {p : Program} {l : Launch} {e : Env} {s : State} {m : MethodId} {below : List Frame} {meth : Method} {c : Code} {D : va_G} {cA : Nat → ClassId} {b L : Nat} {f : Int → Int} {Q : State → Prop}
/-- a state of the law's loop: the world as it is, all of it made since the start -/
def lawS (p : Program) (s : State) (m : MethodId) (c : Code) (D : va_G) (cA : Nat → ClassId) (b L : Nat) (f : Int → Int) (ρ : Nat → Nat) (fl : Nat → Bool) (I : mM) (H : Heap) : Prop :=
  mFx p s m #[Value.ref b] c cL_law 8 "NineOnGrassLaw" D cA ρ fl (roL L f) ∧ va_P D vwCl (mWs cA ρ fl I) H ∧ va_D (mA ρ fl) (mWs cA ρ fl I) ∧ (∀ i, al fl i = true → s.heap.size ≤ ρ i) ∧ s.heap.size ≤ H.size ∧ ∀ q : Nat, q < s.heap.size → H[q]? = s.heap[q]?
theorem lawS.S {ρ : Nat → Nat} {fl : Nat → Bool} {I : mM} {H : Heap} (h : lawS p s m c D cA b L f ρ fl I H) : va_S (mA ρ fl) s.heap H [] := ⟨h.2.2.2.2.1, fun q hq _ => h.2.2.2.2.2 q hq, fun _ h => absurd h List.not_mem_nil⟩
theorem lawS.of {ρ : Nat → Nat} {fl : Nat → Bool} {I : mM} {H : Heap} {locs : List Loc} (F : mFx p s m #[Value.ref b] c cL_law 8 "NineOnGrassLaw" D cA ρ fl (roL L f)) (hfr : ∀ i, al fl i = true → s.heap.size ≤ ρ i) (hP : va_P D vwCl (mWs cA ρ fl I) H) (hD : va_D (mA ρ fl) (mWs cA ρ fl I)) (hS : va_S (mA ρ fl) s.heap H locs) : lawS p s m c D cA b L f ρ fl I H ∧ ∀ q ∈ locs, s.heap.size ≤ q.base :=
  ⟨⟨F, hP, hD, hfr, hS.1, fun q hq => hS.2.1 q hq (fun ⟨i, hi, e⟩ => by have := hfr i hi; omega)⟩, fun q hq => by
    obtain ⟨i, hi, e⟩ := hS.2.2 q hq
    rw [e]; exact hfr i hi⟩
/-- what is owed behind a turn -/
def lawN (p : Program) (l : Launch) (e : Env) (s : State) (m : MethodId) (below : List Frame) (meth : Method) (c : Code) (D : va_G) (cA : Nat → ClassId) (b L : Nat) (f : Int → Int) (Q : State → Prop) (i : Int) (c1 s1 : Nat) : Prop :=
  ∀ (ρ : Nat → Nat) (fl : Nat → Bool) (I : mM) (H : Heap) (ls : Array Slot) (cells slots : Nat), lawS p s m c D cA b L f ρ fl I H → LI fl I → mLoc ρ ls 8 (lvL i) → cells ≤ c1 → slots ≤ s1 → W p l e room_1 s m #[Value.ref b] below meth c H [] cells slots Q (F0 m 3066 ls [])
theorem mask_lvL {bs : List Bool} {lv : mLv} {i : Int} {ρ : Nat → Nat} {ls : Array Slot} (h : mMask bs lv = lvL i) (hb : bs.length = 8) (hl : mLoc ρ ls 8 lv) : mLoc ρ ls 8 (lvL i) := h ▸ hl.mask hb

theorem no35_L_tr : kL_tr.all (fun q => decide (q.2.1 ≠ 35)) = true := by decide +kernel
theorem cutL_tr_c {t : Nat} {bs : List Bool} (h : cutL_tr t = some bs) : bs.length = 8 := by
  unfold cutL_tr at h
  simp only [mLk] at h
  split at h
  · cases h; rfl
  · split at h
    · cases h; rfl
    · cases h
set_option maxRecDepth 100000 in
set_option maxHeartbeats 4000000 in
theorem turn_L_tr (hst : l.stackTraces = false) (hT : mTxM l) (hN : mNC s) (hA1 : va_AO "NineOnGrass$State" s) (hA2 : va_AO "NineOnGrass$Tray" s) (hf : ∀ q : Int, mrg (f q)) {i : Int} {c1 s1 : Nat} (hi : 0 ≤ i) (hL : i + 6 ≤ (L : Int)) (hc1 : c1 ≤ 601024) (hs1 : s1 ≤ 7293034) (nx : lawN p l e s m below meth c D cA b L f Q i c1 s1)
    {ρ : Nat → Nat} {fl : Nat → Bool} {I : mM} {H : Heap} {ls : Array Slot} {cells slots : Nat} (hS : lawS p s m c D cA b L f ρ fl I H) (hI : LI fl I) (hl : mLoc ρ ls 8 (lvL i)) (hc : cells + 5 ≤ c1) (hs : slots + 61 ≤ s1) : W p l e room_1 s m #[Value.ref b] below meth c H [] cells slots Q (F0 m 2742 ls []) := by
  obtain ⟨F, hP, hD, hfr, hz, hk⟩ := id hS
  have hown : ("NineOnGrassLaw" : String) ≠ RX10 := by decide
  have hOK := mOKL_rm (ce' := 601024) (sl' := 7293034) (by omega) (by omega) no35_L_tr (mOKL_sh cells slots okL_tr)
  have hcut : ∀ (ρ' : Nat → Nat) (fl' : Nat → Bool), mFx p s m #[Value.ref b] c cL_law 8 "NineOnGrassLaw" D cA ρ' fl' (roL L f) → (∀ i, al fl' i = true → s.heap.size ≤ ρ' i) → ∀ (t : Nat) (bs : List Bool), cutB t = some bs → ∀ (lv : mLv) (st : mSt) (J : mM), CL i fl' L I t (mMask bs lv) st J → mAW p l e room_1 s m #[Value.ref b] below meth c Q 8 D cA ρ' fl' (fun p => cells + mAcf [(2761, 5)] p) (fun p => slots + mAcf [(2761, 61)] p) t lv st J := by
    rintro ρ' fl' F' hfr' t bs hbs lv st J ⟨rfl, elv, h3⟩ H2 locs ls2 cells2 slots2 g1 g2 hP2 hD2 hS2 hl2
    have ht : t = 3066 ∧ bs.length = 8 := by
      unfold cutB at hbs
      simp only [mLk] at hbs
      split at hbs
      · rename_i e9; cases hbs; exact ⟨e9.symm, rfl⟩
      · cases hbs
    obtain ⟨rfl, hbl⟩ := ht
    rcases h3 with ⟨-, h3⟩ | ⟨h3, -⟩ | ⟨h3, -⟩
    · obtain ⟨x1, x2⟩ := lawS.of F' hfr' hP2 hD2 hS2
      have g1 : cells2 ≤ cells + 5 := g1
      have g2 : slots2 ≤ slots + 61 := g2
      exact va_forget x2 (nx ρ' fl' J H2 ls2 cells2 slots2 x1 h3 (mask_lvL elv hbl hl2) (by omega) (by omega))
    · rcases h3 with h3 | h3 <;> cases h3
    · cases h3
  by_cases hcs : trayP (f (i + 1)) → ((0 ≤ f (i + 2) ∧ f (i + 2) ≤ 3) ∧ (0 ≤ f (i + 3) ∧ f (i + 3) ≤ 40)) → fl (3 + (f (i + 1)).toNat) = true
  · obtain ⟨q, r, e1, hw⟩ := mWpL_ok (cp := fun _ => True) (X := fun _ _ _ => False) (Q := fun _ _ => False) (Qs := Q) F rfl hN hown (hCL_tr hst hT) (hCHL_tr hst hT) hT (fun _ _ _ _ _ _ h => h.elim) (fun _ _ _ _ _ h => (w_ret_no h).elim)
      (mGoL_ok (cp := fun _ => True) (X := fun _ _ _ => False) (Q := fun _ _ => False) F rfl hN hown (hCL_tr hst hT) (hCHL_tr hst hT) hT (fun _ _ _ _ _ _ h => h.elim) (fun _ _ _ _ _ h => (w_ret_no h).elim) hOK (fun _ _ _ => trivial) (cuts := cutB) (C := CL i fl L I) (hcut ρ fl F hfr) 60) kL_tr hOK (fun _ _ _ => trivial) _ _ _ (WL_tr hI hi hL hf hcs)
    obtain ⟨q', r', e2, h00⟩ : ∃ q r, kL_tr = q :: r ∧ q.1 = 2742 := ⟨_, _, rfl, rfl⟩
    rw [e1] at e2
    cases e2
    rw [h00] at hw
    exact hw H [] ls cells slots (Nat.le_add_right _ _) (Nat.le_add_right _ _) hP hD hS.S hl
  · have hz : trayP (f (i + 1)) := Classical.byContradiction fun h => hcs (fun h2 => absurd h2 h)
    have hy : (0 ≤ f (i + 2) ∧ f (i + 2) ≤ 3) ∧ (0 ≤ f (i + 3) ∧ f (i + 3) ≤ 40) := Classical.byContradiction fun h => hcs (fun _ h2 => absurd h2 h)
    have hff : fl (3 + (f (i + 1)).toNat) = false := by
      cases h9 : fl (3 + (f (i + 1)).toNat) with
      | false => rfl
      | true => exact absurd (fun _ _ => h9) hcs
    have hcutN : ∀ (t : Nat) (bs : List Bool), cutL_tr t = some bs → ∀ (lv : mLv) (st : mSt) (J : mM), (t = 2761 ∧ mMask bs lv = lvL i ∧ st = [mI (f (i + 3)), mI (f (i + 2)), mI (f (i + 1)), mR (some 0)] ∧ J = I) → mAW p l e room_1 s m #[Value.ref b] below meth c Q 8 D cA ρ fl (fun p => cells + mAcf [(2761, 5)] p) (fun p => slots + mAcf [(2761, 61)] p) t lv st J := by
      rintro t bs hbs lv st J ⟨rfl, elv, rfl, rfl⟩ H2 locs ls2 cells2 slots2 g1 g2 hP2 hD2 hS2 hl2
      have g1 : cells2 ≤ cells := g1
      have g2 : slots2 ≤ slots := g2
      have hl3 := mask_lvL elv (cutL_tr_c hbs) hl2
      obtain ⟨x1, x2⟩ := lawS.of F hfr hP2 hD2 hS2
      refine va_forget x2 ?_
      have hx := F.1
      have hb := F.2.1
      have hts := F.2.2.2.2.1
      have hcd : Cond.codeWith calL_tray.1 calL_tray.2.1 calL_tray.2.2.1 calL_tray.2.2.2.1 (hTab 0 7 tabL_tray) ∈ mBW := (mBW_of 1483 (by decide +kernel))
      have hS3 : va_S (mA2 ρ fl s.heap.size) s.heap H2 [] := ⟨x1.2.2.2.2.1, fun q hq _ => x1.2.2.2.2.2 q hq, fun _ h => absurd h List.not_mem_nil⟩
      refine so_afterN (fl' := flS fl (3 + (f (i + 1)).toNat)) (ov := some (.int 0)) (P := fun J2 => spX11_tray (flS fl (3 + (f (i + 1)).toNat)) [mR (some 200), mI (f (i + 1)), mI (f (i + 2)), mI (f (i + 3))] J2 (qV (flS fl (3 + (f (i + 1)).toNat)) 0)) (rest := []) (vx_runSX (nL := 8) (n := 4) (index := 290) (own := "NineOnGrassLaw") (As := [mR (some 0), mI (f (i + 1)), mI (f (i + 2)), mI (f (i + 3))].map (mc ρ)) (rest := []) ⟨hx, hb, F.2.2.1, F.2.2.2.1, hts⟩ (newL_tray hst hT (D := D) (cA := cA) (ρ := ρ) (I := J) (sz := H2.size) (hf _) (hf _) (hf _) hz hy hff (tray_new hI (hf _) (hf _) (hf _) hz hy)) ⟨⟨rfl, rfl, by decide, by decide, pay_in hts (mWdH_good hcd), List.mem_cons_self⟩, hts _ hcd, hts _ (mBW_of 104 (by decide +kernel)), ⟨by decide, by decide⟩, fun sig h => ?_, hts _ (mBW_of 1481 (by decide +kernel)), hts _ (mBW_of 1482 (by decide +kernel))⟩ ⟨mPn_blind, fun U hU hW => ⟨⟨rfl, va_K.moved hW.alike F.2.2.2.2.2.1, by rw [hU]; exact hP2, hD2, by rw [hU]; exact F.2.2.2.2.2.2.1.to hW hS2.2.1⟩, by rw [hU], va_AO.moved hW.alike hA1, va_AO.moved hW.alike hA2⟩⟩ rfl rfl hl3.2.1 rfl (Nat.le_of_ble_eq_true rfl) (by decide +kernel : decode cL_law 2761 = .ok (.invokestatic 290, 3)) ⟨by show cells2 + 5 ≤ 601024; omega, by show slots2 + 61 ≤ 7293034; omega⟩) hS3 (fun I' ρ' H3 locs3 hp hxx hP3 hD3 hS4 => ?_)
      · have h9 : (parseMethodDescriptor yL_tray.desc).map (fun d => d.parameters.length) = some 4 := by decide +kernel
        rw [h] at h9
        exact (Option.some.inj h9).symm
      have hx3 := hxx.mono (b := s.heap.size) x1.2.2.2.2.1
      have F' := F.ext roL_240 hx3
      have hfr' : ∀ w : Nat, al (flS fl (3 + (f (i + 1)).toNat)) w = true → s.heap.size ≤ ρ' w := fun j hj => by
        cases ho : al fl j with
        | true => rw [hx3.2.1 j (Or.inl ho)]; exact hfr j ho
        | false => exact hx3.2.2 j hj ho
      have hl4 : mLoc ρ' ls2 8 (lvL i) := by
        have e242 := hx3.2.1 242 (Or.inr (by decide))
        have e0 := hx3.2.1 0 (Or.inl rfl)
        have e200 := hx3.2.1 200 (Or.inl rfl)
        have e230 := hx3.2.1 230 (Or.inl rfl)
        refine ⟨rfl, hl3.2.1, hl3.2.2.1, fun j v hj => ?_⟩
        have h8 := hl3.2.2.2 j v hj
        have e9 : mc ρ' v = mc ρ v := by
          rcases j with _ | _ | _ | _ | _ | _ | _ | _ | j
          · cases hj; show Value.ref (ρ' 242) = Value.ref (ρ 242); rw [e242]
          · cases hj; show Value.ref (ρ' 0) = Value.ref (ρ 0); rw [e0]
          · cases hj; show Value.ref (ρ' 200) = Value.ref (ρ 200); rw [e200]
          · cases hj; show Value.ref (ρ' 230) = Value.ref (ρ 230); rw [e230]
          · cases hj; rfl
          · cases hj
          · cases hj
          · cases hj
          · simp at hj
        rw [e9]; exact h8
      refine va_forget (fun q hq => by
        rcases hS4.2.2 q hq with ⟨j, hj, e9⟩ | h9
        · rw [e9]; exact hfr j hj
        · exact h9) ?_
      have hS5 : va_S (mA ρ' (flS fl (3 + (f (i + 1)).toNat))) s.heap H3 [] := ⟨hS4.1, fun q hq _ => hS4.2.1 q hq (fun z => by
        rcases z with ⟨j, hj, e9⟩ | z
        · have := hfr j hj; omega
        · omega), fun _ h => absurd h List.not_mem_nil⟩
      obtain ⟨q, r, e1, hw⟩ := mWpL_ok (cp := fun _ => True) (X := fun _ _ _ => False) (Q := fun _ _ => False) (Qs := Q) F' rfl hN hown (hCL_tr hst hT) (hCHL_tr hst hT) hT (fun _ _ _ _ _ _ h => h.elim) (fun _ _ _ _ _ h => (w_ret_no h).elim)
        (mGoL_ok (cp := fun _ => True) (X := fun _ _ _ => False) (Q := fun _ _ => False) F' rfl hN hown (hCL_tr hst hT) (hCHL_tr hst hT) hT (fun _ _ _ _ _ _ h => h.elim) (fun _ _ _ _ _ h => (w_ret_no h).elim) hOK (fun _ _ _ => trivial) (cuts := cutB) (C := CL i (flS fl (3 + (f (i + 1)).toNat)) L J) (hcut ρ' (flS fl (3 + (f (i + 1)).toNat)) F' hfr') 60) (mSfx 2764 kL_tr) (mSfxL_ok hOK).1 (fun _ _ _ => trivial) _ _ _ (WL_tr_suf hi hL hf hp)
      rw [(mSfxL_ok hOK).2.1 q r e1] at hw
      exact hw H3 [] ls2 _ _ (by show cells2 + 5 ≤ cells + 5; omega) (by show slots2 + 61 ≤ slots + 61; omega) hP3 hD3 hS5 hl4
    obtain ⟨q, r, e1, hw⟩ := mWpL_ok (cp := fun _ => True) (X := fun _ _ _ => False) (Q := fun _ _ => False) (Qs := Q) F rfl hN hown (hCL_tr hst hT) (hCHL_tr hst hT) hT (fun _ _ _ _ _ _ h => h.elim) (fun _ _ _ _ _ h => (w_ret_no h).elim)
      (mGoL_ok (cp := fun _ => True) (X := fun _ _ _ => False) (Q := fun _ _ => False) F rfl hN hown (hCL_tr hst hT) (hCHL_tr hst hT) hT (fun _ _ _ _ _ _ h => h.elim) (fun _ _ _ _ _ h => (w_ret_no h).elim) hOK (fun _ _ _ => trivial) (cuts := cutL_tr) (C := fun t lv st J => t = 2761 ∧ lv = lvL i ∧ st = [mI (f (i + 3)), mI (f (i + 2)), mI (f (i + 1)), mR (some 0)] ∧ J = I) hcutN 60) kL_tr hOK (fun _ _ _ => trivial) _ _ _ (WL_tr_pre hi hL hf ⟨rfl, rfl, rfl, rfl⟩)
    obtain ⟨q', r', e2, h00⟩ : ∃ q r, kL_tr = q :: r ∧ q.1 = 2742 := ⟨_, _, rfl, rfl⟩
    rw [e1] at e2
    cases e2
    rw [h00] at hw
    exact hw H [] ls cells slots (Nat.le_add_right _ _) (Nat.le_add_right _ _) hP hD hS.S hl

theorem no35_L_im : kL_im.all (fun q => decide (q.2.1 ≠ 35)) = true := by decide +kernel
theorem cutL_im_c {t : Nat} {bs : List Bool} (h : cutL_im t = some bs) : bs.length = 8 := by
  unfold cutL_im at h
  simp only [mLk] at h
  split at h
  · cases h; rfl
  · split at h
    · cases h; rfl
    · cases h
set_option maxRecDepth 100000 in
set_option maxHeartbeats 4000000 in
theorem turn_L_im (hst : l.stackTraces = false) (hT : mTxM l) (hN : mNC s) (hA1 : va_AO "NineOnGrass$State" s) (hA2 : va_AO "NineOnGrass$Tray" s) (hf : ∀ q : Int, mrg (f q)) {i : Int} {c1 s1 : Nat} (hi : 0 ≤ i) (hL : i + 6 ≤ (L : Int)) (hc1 : c1 ≤ 601024) (hs1 : s1 ≤ 7293034) (nx : lawN p l e s m below meth c D cA b L f Q i c1 s1)
    {ρ : Nat → Nat} {fl : Nat → Bool} {I : mM} {H : Heap} {ls : Array Slot} {cells slots : Nat} (hS : lawS p s m c D cA b L f ρ fl I H) (hI : LI fl I) (hl : mLoc ρ ls 8 (lvL i)) (hc : cells + 19 ≤ c1) (hs : slots + 653 ≤ s1) : W p l e room_1 s m #[Value.ref b] below meth c H [] cells slots Q (F0 m 2969 ls []) := by
  obtain ⟨F, hP, hD, hfr, hz, hk⟩ := id hS
  have hown : ("NineOnGrassLaw" : String) ≠ RX10 := by decide
  have hOK := mOKL_rm (ce' := 601024) (sl' := 7293034) (by omega) (by omega) no35_L_im (mOKL_sh cells slots okL_im)
  have hcut : ∀ (ρ' : Nat → Nat) (fl' : Nat → Bool), mFx p s m #[Value.ref b] c cL_law 8 "NineOnGrassLaw" D cA ρ' fl' (roL L f) → (∀ i, al fl' i = true → s.heap.size ≤ ρ' i) → ∀ (t : Nat) (bs : List Bool), cutB t = some bs → ∀ (lv : mLv) (st : mSt) (J : mM), CL i fl' L I t (mMask bs lv) st J → mAW p l e room_1 s m #[Value.ref b] below meth c Q 8 D cA ρ' fl' (fun p => cells + mAcf [(2976, 19)] p) (fun p => slots + mAcf [(2976, 653)] p) t lv st J := by
    rintro ρ' fl' F' hfr' t bs hbs lv st J ⟨rfl, elv, h3⟩ H2 locs ls2 cells2 slots2 g1 g2 hP2 hD2 hS2 hl2
    have ht : t = 3066 ∧ bs.length = 8 := by
      unfold cutB at hbs
      simp only [mLk] at hbs
      split at hbs
      · rename_i e9; cases hbs; exact ⟨e9.symm, rfl⟩
      · cases hbs
    obtain ⟨rfl, hbl⟩ := ht
    rcases h3 with ⟨-, h3⟩ | ⟨h3, -⟩ | ⟨h3, -⟩
    · obtain ⟨x1, x2⟩ := lawS.of F' hfr' hP2 hD2 hS2
      have g1 : cells2 ≤ cells + 19 := g1
      have g2 : slots2 ≤ slots + 653 := g2
      exact va_forget x2 (nx ρ' fl' J H2 ls2 cells2 slots2 x1 h3 (mask_lvL elv hbl hl2) (by omega) (by omega))
    · rcases h3 with h3 | h3 <;> cases h3
    · cases h3
  by_cases hcs : (0 ≤ f (i + 1) ∧ f (i + 1) ≤ 2) → fl (f (i + 1)).toNat = true
  · obtain ⟨q, r, e1, hw⟩ := mWpL_ok (cp := fun _ => True) (X := fun _ _ _ => False) (Q := fun _ _ => False) (Qs := Q) F rfl hN hown (hCL_im hst hT) (hCHL_im hst hT) hT (fun _ _ _ _ _ _ h => h.elim) (fun _ _ _ _ _ h => (w_ret_no h).elim)
      (mGoL_ok (cp := fun _ => True) (X := fun _ _ _ => False) (Q := fun _ _ => False) F rfl hN hown (hCL_im hst hT) (hCHL_im hst hT) hT (fun _ _ _ _ _ _ h => h.elim) (fun _ _ _ _ _ h => (w_ret_no h).elim) hOK (fun _ _ _ => trivial) (cuts := cutB) (C := CL i fl L I) (hcut ρ fl F hfr) 60) kL_im hOK (fun _ _ _ => trivial) _ _ _ (WL_im hI hi hL hf hcs)
    obtain ⟨q', r', e2, h00⟩ : ∃ q r, kL_im = q :: r ∧ q.1 = 2969 := ⟨_, _, rfl, rfl⟩
    rw [e1] at e2
    cases e2
    rw [h00] at hw
    exact hw H [] ls cells slots (Nat.le_add_right _ _) (Nat.le_add_right _ _) hP hD hS.S hl
  · have hz : 0 ≤ f (i + 1) ∧ f (i + 1) ≤ 2 := Classical.byContradiction fun h => hcs (fun h2 => absurd h2 h)
    have hff : fl (f (i + 1)).toNat = false := by
      cases h9 : fl (f (i + 1)).toNat with
      | false => rfl
      | true => exact absurd (fun _ => h9) hcs
    have hcutN : ∀ (t : Nat) (bs : List Bool), cutL_im t = some bs → ∀ (lv : mLv) (st : mSt) (J : mM), (t = 2976 ∧ mMask bs lv = lvL i ∧ st = [mI (f (i + 1)), mR (some 0)] ∧ J = I) → mAW p l e room_1 s m #[Value.ref b] below meth c Q 8 D cA ρ fl (fun p => cells + mAcf [(2976, 19)] p) (fun p => slots + mAcf [(2976, 653)] p) t lv st J := by
      rintro t bs hbs lv st J ⟨rfl, elv, rfl, rfl⟩ H2 locs ls2 cells2 slots2 g1 g2 hP2 hD2 hS2 hl2
      have g1 : cells2 ≤ cells := g1
      have g2 : slots2 ≤ slots := g2
      have hl3 := mask_lvL elv (cutL_im_c hbs) hl2
      obtain ⟨x1, x2⟩ := lawS.of F hfr hP2 hD2 hS2
      refine va_forget x2 ?_
      have hx := F.1
      have hb := F.2.1
      have hts := F.2.2.2.2.1
      have hcd : Cond.codeWith calL_image.1 calL_image.2.1 calL_image.2.2.1 calL_image.2.2.2.1 (hTab 0 5 tabL_image) ∈ mBW := (mBW_of 1535 (by decide +kernel))
      have hS3 : va_S (mA2 ρ fl s.heap.size) s.heap H2 [] := ⟨x1.2.2.2.2.1, fun q hq _ => x1.2.2.2.2.2 q hq, fun _ h => absurd h List.not_mem_nil⟩
      refine so_afterN (fl' := flS fl (f (i + 1)).toNat) (ov := some (.int 0)) (P := fun J2 => spX11_image (flS fl (f (i + 1)).toNat) [mR (some 200), mI (f (i + 1))] J2 (qV (flS fl (f (i + 1)).toNat) 0)) (rest := []) (vx_runSX (nL := 8) (n := 2) (index := 303) (own := "NineOnGrassLaw") (As := [mR (some 0), mI (f (i + 1))].map (mc ρ)) (rest := []) ⟨hx, hb, F.2.2.1, F.2.2.2.1, hts⟩ (newL_image hst hT (D := D) (cA := cA) (ρ := ρ) (I := J) (sz := H2.size) (hf _) hz hff (LI_13 hI) (image_new hI (hf _) hz)) ⟨⟨rfl, rfl, by decide, by decide, pay_in hts (mWdH_good hcd), List.mem_cons_self⟩, hts _ hcd, hts _ (mBW_of 104 (by decide +kernel)), ⟨by decide, by decide⟩, fun sig h => ?_, hts _ (mBW_of 1533 (by decide +kernel)), hts _ (mBW_of 1534 (by decide +kernel))⟩ ⟨mPn_blind, fun U hU hW => ⟨⟨rfl, va_K.moved hW.alike F.2.2.2.2.2.1, by rw [hU]; exact hP2, hD2, by rw [hU]; exact F.2.2.2.2.2.2.1.to hW hS2.2.1⟩, by rw [hU], va_AO.moved hW.alike hA1, va_AO.moved hW.alike hA2⟩⟩ rfl rfl hl3.2.1 rfl (Nat.le_of_ble_eq_true rfl) (by decide +kernel : decode cL_law 2976 = .ok (.invokestatic 303, 3)) ⟨by show cells2 + 19 ≤ 601024; omega, by show slots2 + 653 ≤ 7293034; omega⟩) hS3 (fun I' ρ' H3 locs3 hp hxx hP3 hD3 hS4 => ?_)
      · have h9 : (parseMethodDescriptor yL_image.desc).map (fun d => d.parameters.length) = some 2 := by decide +kernel
        rw [h] at h9
        exact (Option.some.inj h9).symm
      have hx3 := hxx.mono (b := s.heap.size) x1.2.2.2.2.1
      have F' := F.ext roL_240 hx3
      have hfr' : ∀ w : Nat, al (flS fl (f (i + 1)).toNat) w = true → s.heap.size ≤ ρ' w := fun j hj => by
        cases ho : al fl j with
        | true => rw [hx3.2.1 j (Or.inl ho)]; exact hfr j ho
        | false => exact hx3.2.2 j hj ho
      have hl4 : mLoc ρ' ls2 8 (lvL i) := by
        have e242 := hx3.2.1 242 (Or.inr (by decide))
        have e0 := hx3.2.1 0 (Or.inl rfl)
        have e200 := hx3.2.1 200 (Or.inl rfl)
        have e230 := hx3.2.1 230 (Or.inl rfl)
        refine ⟨rfl, hl3.2.1, hl3.2.2.1, fun j v hj => ?_⟩
        have h8 := hl3.2.2.2 j v hj
        have e9 : mc ρ' v = mc ρ v := by
          rcases j with _ | _ | _ | _ | _ | _ | _ | _ | j
          · cases hj; show Value.ref (ρ' 242) = Value.ref (ρ 242); rw [e242]
          · cases hj; show Value.ref (ρ' 0) = Value.ref (ρ 0); rw [e0]
          · cases hj; show Value.ref (ρ' 200) = Value.ref (ρ 200); rw [e200]
          · cases hj; show Value.ref (ρ' 230) = Value.ref (ρ 230); rw [e230]
          · cases hj; rfl
          · cases hj
          · cases hj
          · cases hj
          · simp at hj
        rw [e9]; exact h8
      refine va_forget (fun q hq => by
        rcases hS4.2.2 q hq with ⟨j, hj, e9⟩ | h9
        · rw [e9]; exact hfr j hj
        · exact h9) ?_
      have hS5 : va_S (mA ρ' (flS fl (f (i + 1)).toNat)) s.heap H3 [] := ⟨hS4.1, fun q hq _ => hS4.2.1 q hq (fun z => by
        rcases z with ⟨j, hj, e9⟩ | z
        · have := hfr j hj; omega
        · omega), fun _ h => absurd h List.not_mem_nil⟩
      obtain ⟨q, r, e1, hw⟩ := mWpL_ok (cp := fun _ => True) (X := fun _ _ _ => False) (Q := fun _ _ => False) (Qs := Q) F' rfl hN hown (hCL_im hst hT) (hCHL_im hst hT) hT (fun _ _ _ _ _ _ h => h.elim) (fun _ _ _ _ _ h => (w_ret_no h).elim)
        (mGoL_ok (cp := fun _ => True) (X := fun _ _ _ => False) (Q := fun _ _ => False) F' rfl hN hown (hCL_im hst hT) (hCHL_im hst hT) hT (fun _ _ _ _ _ _ h => h.elim) (fun _ _ _ _ _ h => (w_ret_no h).elim) hOK (fun _ _ _ => trivial) (cuts := cutB) (C := CL i (flS fl (f (i + 1)).toNat) L J) (hcut ρ' (flS fl (f (i + 1)).toNat) F' hfr') 60) (mSfx 2979 kL_im) (mSfxL_ok hOK).1 (fun _ _ _ => trivial) _ _ _ (WL_im_suf hi hL hf hp)
      rw [(mSfxL_ok hOK).2.1 q r e1] at hw
      exact hw H3 [] ls2 _ _ (by show cells2 + 19 ≤ cells + 19; omega) (by show slots2 + 653 ≤ slots + 653; omega) hP3 hD3 hS5 hl4
    obtain ⟨q, r, e1, hw⟩ := mWpL_ok (cp := fun _ => True) (X := fun _ _ _ => False) (Q := fun _ _ => False) (Qs := Q) F rfl hN hown (hCL_im hst hT) (hCHL_im hst hT) hT (fun _ _ _ _ _ _ h => h.elim) (fun _ _ _ _ _ h => (w_ret_no h).elim)
      (mGoL_ok (cp := fun _ => True) (X := fun _ _ _ => False) (Q := fun _ _ => False) F rfl hN hown (hCL_im hst hT) (hCHL_im hst hT) hT (fun _ _ _ _ _ _ h => h.elim) (fun _ _ _ _ _ h => (w_ret_no h).elim) hOK (fun _ _ _ => trivial) (cuts := cutL_im) (C := fun t lv st J => t = 2976 ∧ lv = lvL i ∧ st = [mI (f (i + 1)), mR (some 0)] ∧ J = I) hcutN 60) kL_im hOK (fun _ _ _ => trivial) _ _ _ (WL_im_pre hi hL hf ⟨rfl, rfl, rfl, rfl⟩)
    obtain ⟨q', r', e2, h00⟩ : ∃ q r, kL_im = q :: r ∧ q.1 = 2969 := ⟨_, _, rfl, rfl⟩
    rw [e1] at e2
    cases e2
    rw [h00] at hw
    exact hw H [] ls cells slots (Nat.le_add_right _ _) (Nat.le_add_right _ _) hP hD hS.S hl
end
end LLOOP
section LGO
theorem no35_body : kL_body.all (fun q => decide (q.2.1 ≠ 35)) = true := by decide +kernel
theorem i12 : (vwCl.all (fun r => inTb (.instantiable r.1 r.2.2))) = true := by decide +kernel
theorem ao2 : inTb (.arrayOver (.object "NineOnGrass$State")) = true ∧ inTb (.arrayOver (.object "NineOnGrass$Tray")) = true := by decide +kernel
theorem ac4 : inTb (.arrayClass .int) = true ∧ inTb (.arrayClass .byte) = true ∧ inTb (.arrayClass .boolean) = true ∧ inTb (.arrayClass .long) = true := by decide +kernel
theorem mBW_t {w : Cond} (h : w ∈ mBW) : w ∈ lw_tbl := (List.mem_filter.mp h).1
theorem g_nc : ∀ a, a < 4 → ∀ b, b < 4 → a ≠ b → gvF (.not (.castable (mEx a) (mEx b))) = true := by decide +kernel
theorem kS {args : Array Value} {s : State} (hts : ∀ w ∈ lw_tbl, w.before args s = true) : ∃ (D : va_G) (cA : Nat → ClassId), va_K D vwCl (mTys cA) s ∧ va_AO "NineOnGrass$State" s ∧ va_AO "NineOnGrass$Tray" s := by
  have ht : ∀ {w : Cond}, inTb w = true → w.before args s = true := fun hw => hts _ (of_decide_eq_true hw)
  have h0 : ∀ a : Nat, ∃ x : ClassId × (Nat → Nat), ∀ r, vwCl[a]? = some r → u_Kn s r.1 r.2.1 r.2.2 x.1 x.2 := fun a => by
    cases hr : vwCl[a]? with
    | none => exact ⟨(0, fun _ => 0), fun r h => by cases h⟩
    | some r =>
      obtain ⟨cC, iS, hk⟩ := u_known (ws := lw_tbl) (s := s) (args := args) (C := r.1) (T := r.2.1) (N := r.2.2) (n := r.2.2) hts (fun w hw => mBW_t (mU_in hr w hw)) (ht (List.all_eq_true.mp i12 r (List.mem_of_getElem? hr)))
      exact ⟨(cC, iS), fun r' h => by cases h; exact hk⟩
  obtain ⟨fC, hC⟩ := Classical.axiomOfChoice h0
  obtain ⟨ci, ki, pi, i1, i2, i3⟩ := Cond.arrayClass_spec (args := args) (first := s) (o := none) (s := s) (idx := []) (ht ac4.1)
  obtain ⟨cb, kb, pb, b1, b2, b3⟩ := Cond.arrayClass_spec (args := args) (first := s) (o := none) (s := s) (idx := []) (ht ac4.2.1)
  obtain ⟨cz, kz, pz, z1, z2, z3⟩ := Cond.arrayClass_spec (args := args) (first := s) (o := none) (s := s) (idx := []) (ht ac4.2.2.1)
  obtain ⟨cl, kl, pl, l1, l2, l3⟩ := Cond.arrayClass_spec (args := args) (first := s) (o := none) (s := s) (idx := []) (ht ac4.2.2.2)
  obtain ⟨ps, cs, ks, s1, s2, s3, s4, s5⟩ := Cond.arrayOver_spec (args := args) (first := s) (o := none) (s := s) (idx := []) (ht ao2.1)
  obtain ⟨pt, ct, kt, t1, t2, t3, t4, t5⟩ := Cond.arrayOver_spec (args := args) (first := s) (o := none) (s := s) (idx := []) (ht ao2.2)
  refine ⟨(fun a => (fC a).1, fun a => (fC a).2), fun k => match k with
    | 20 => ci
    | 21 => cb
    | 22 => cz
    | 23 => cl
    | 24 => cs
    | _ => ct, ⟨fun a r hr => hC a r hr, fun k q hq => ?_⟩, va_AO.of (ht ao2.1), va_AO.of (ht ao2.2)⟩
  match k, hq with
  | 0, hq => cases hq; exact ⟨fun n z => ⟨fun k h => (by cases h), ki, i2, pi, i3⟩, i1⟩
  | 1, hq => cases hq; exact ⟨fun n z => ⟨fun k h => (by cases h), kb, b2, pb, b3⟩, b1⟩
  | 2, hq => cases hq; exact ⟨fun n z => ⟨fun k h => (by cases h), kz, z2, pz, z3⟩, z1⟩
  | 3, hq => cases hq; exact ⟨fun n z => ⟨fun k h => (by cases h), kl, l2, pl, l3⟩, l1⟩
  | 4, hq => cases hq; exact ⟨fun n z => ⟨fun k h => (by cases h), ks, s3, ps, s4⟩, ks, ps, s3, s4, s1, s5⟩
  | 5, hq => cases hq; exact ⟨fun n z => ⟨fun k h => (by cases h), kt, t3, pt, t4⟩, kt, pt, t3, t4, t1, t5⟩
  | k + 6, hq => simp [mTys] at hq
section
variable {p : Program} {l : Launch} {e : Env} {s : State} {m : MethodId} {below : List Frame} {meth : Method} {c : Code} {D : va_G} {cA : Nat → ClassId} {b L : Nat} {f : Int → Int} {Q : State → Prop}
set_option maxRecDepth 100000 in
set_option maxHeartbeats 4000000 in
theorem law_loop (hst : l.stackTraces = false) (hT : mTxM l) (hN : mNC s) (hA1 : va_AO "NineOnGrass$State" s) (hA2 : va_AO "NineOnGrass$Tray" s) (hf : ∀ q : Int, mrg (f q)) (hL : L ≤ 3072)
    (hend : ∀ (H : Heap) (ls : Array Slot) (cells slots : Nat), cells ≤ 601024 → slots ≤ 7293034 → W p l e room_1 s m #[Value.ref b] below meth c H [] cells slots Q (F0 m 3073 ls [.int 1])) :
    ∀ (k : Nat) (i : Int) (ρ : Nat → Nat) (fl : Nat → Bool) (I : mM) (H : Heap) (ls : Array Slot) (cells slots : Nat), 0 ≤ i → i ≤ 3072 → (L : Int) < i + 6 + 6 * (k : Int) → lawS p s m c D cA b L f ρ fl I H → LI fl I → mLoc ρ ls 8 (lvL i) → cells + 110 * k + 110 ≤ 601024 → slots + 1500 * k + 1500 ≤ 7293034 → W p l e room_1 s m #[Value.ref b] below meth c H [] cells slots Q (F0 m 23 ls []) := by
  intro k
  induction k with
  | zero =>
    intro i ρ fl I H ls cells slots hi hi2 hk hS hI hl hc hs
    obtain ⟨F, hP, hD, hfr, hz, hkp⟩ := id hS
    have hOK := mOKL_rm (ce' := 601024) (sl' := 7293034) (by omega) (by omega) no35_body (mOKL_sh (own := "NineOnGrassLaw") (cc := cL_law) (T := TL_body) (rt := some .boolean) (f := 15) (lo := 646) (ce := 87) (sl := 522) (nL := 8) (acc := pmL.2.2.2.2.2.2.1) (acs := pmL.2.2.2.2.2.2.2) cells slots okL_body)
    obtain ⟨q, r, e1, hw⟩ := mWpL_ok (cp := fun _ => True) (X := fun _ _ _ => False) (Q := fun _ _ => False) (Qs := Q) (below := below) (meth := meth) (e := e) F rfl hN (by decide) (hCL hst hT) (hCHL hst hT) hT (fun _ _ _ _ _ _ h => h.elim) (fun _ _ _ _ _ h => (w_ret_no h).elim)
      (mGoL_ok (cp := fun _ => True) (X := fun _ _ _ => False) (Q := fun _ _ => False) F rfl hN (by decide) (hCL hst hT) (hCHL hst hT) hT (fun _ _ _ _ _ _ h => h.elim) (fun _ _ _ _ _ h => (w_ret_no h).elim) hOK (fun _ _ _ => trivial) (cuts := cutL_body) (C := fun t lv st J => t = 3072 ∧ lv = lvL i ∧ st = []) (by
        rintro t bs hbs lv st J ⟨rfl, elv, rfl⟩ H2 locs ls2 cells2 slots2 g1 g2 hP2 hD2 hS2 hl2
        have g1 : cells2 ≤ cells + 87 := g1
        have g2 : slots2 ≤ slots + 522 := g2
        obtain ⟨x1, x2⟩ := lawS.of F hfr hP2 hD2 hS2
        refine va_forget x2 (lv_iconst (v := 1) F.1 F.2.1 (by decide +kernel : decode cL_law 3072 = .ok (.iconst 1, 1)) (by decide) (hend H2 ls2 cells2 slots2 (by omega) (by omega)))) 60) kL_body_23 hOK (fun _ _ _ => trivial) _ _ _ (W_end (f := f) (L := L) (I := I) hi (by omega) hi2 (by omega) ⟨rfl, rfl, rfl⟩)
    obtain ⟨q', r', e2, h00⟩ : ∃ q r, kL_body_23 = q :: r ∧ q.1 = 23 := ⟨_, _, rfl, rfl⟩
    rw [e1] at e2
    cases e2
    rw [h00] at hw
    exact hw H [] ls cells slots (Nat.le_add_right _ _) (Nat.le_add_right _ _) hP hD hS.S hl
  | succ k ih =>
    intro i ρ fl I H ls cells slots hi hi2 hk hS hI hl hc hs
    obtain ⟨F, hP, hD, hfr, hz, hkp⟩ := id hS
    have hOK := mOKL_rm (ce' := 601024) (sl' := 7293034) (by omega) (by omega) no35_body (mOKL_sh (own := "NineOnGrassLaw") (cc := cL_law) (T := TL_body) (rt := some .boolean) (f := 15) (lo := 646) (ce := 87) (sl := 522) (nL := 8) (acc := pmL.2.2.2.2.2.2.1) (acs := pmL.2.2.2.2.2.2.2) cells slots okL_body)
    by_cases h6 : i + 6 ≤ (L : Int)
    · have nx : lawN p l e s m below meth c D cA b L f Q i (cells + 110) (slots + 1500) := by
        intro ρ2 fl2 I2 H2 ls2 cells2 slots2 hS2 hI2 hl2 g1 g2
        obtain ⟨F2, -⟩ := id hS2
        have hl3 : lv_has ls2 8 [(0, .ref (ρ2 242)), (1, .ref (ρ2 0)), (2, .ref (ρ2 200)), (3, .ref (ρ2 230)), (4, .int (Int32.ofInt i))] := hl2.has
        refine lv_iinc (i := 4) (n := 6) (k := 4) (x := Int32.ofInt i) (v := Int32.ofInt (i + 6)) (lv' := [(4, .int (Int32.ofInt (i + 6))), (0, .ref (ρ2 242)), (1, .ref (ρ2 0)), (2, .ref (ρ2 200)), (3, .ref (ρ2 230))]) F2.1 F2.2.1 (by decide +kernel : decode cL_law 3066 = .ok (.iinc 4 6, 3)) hl3 rfl (Int32.ofInt_add i 6).symm (by decide) rfl (fun ls4 hl4 => ?_)
        refine lv_goto (tgt := 23) F2.1 F2.2.1 (by decide +kernel : decode cL_law 3069 = .ok (.goto (-3046), 3)) (by decide) ?_
        refine ih (i + 6) ρ2 fl2 I2 H2 ls4 cells2 slots2 (by omega) (by omega) (by push_cast at hk; omega) hS2 hI2 (mLoc_of hl4 rfl (fun j v hj => ?_)) (by omega) (by omega)
        rcases j with _ | _ | _ | _ | _ | _ | _ | _ | j
        · cases hj; show (0, Value.ref (ρ2 242)) ∈ _; simp
        · cases hj; show (1, Value.ref (ρ2 0)) ∈ _; simp
        · cases hj; show (2, Value.ref (ρ2 200)) ∈ _; simp
        · cases hj; show (3, Value.ref (ρ2 230)) ∈ _; simp
        · cases hj; show (4, Value.int (Int32.ofInt (i + 6))) ∈ _; simp
        · cases hj
        · cases hj
        · cases hj
        · simp at hj
      obtain ⟨q, r, e1, hw⟩ := mWpL_ok (cp := fun _ => True) (X := fun _ _ _ => False) (Q := fun _ _ => False) (Qs := Q) (below := below) (meth := meth) (e := e) F rfl hN (by decide) (hCL hst hT) (hCHL hst hT) hT (fun _ _ _ _ _ _ h => h.elim) (fun _ _ _ _ _ h => (w_ret_no h).elim)
        (mGoL_ok (cp := fun _ => True) (X := fun _ _ _ => False) (Q := fun _ _ => False) F rfl hN (by decide) (hCL hst hT) (hCHL hst hT) hT (fun _ _ _ _ _ _ h => h.elim) (fun _ _ _ _ _ h => (w_ret_no h).elim) hOK (fun _ _ _ => trivial) (cuts := cutL_body) (C := CL i fl L I) (by
          rintro t bs hbs lv st J ⟨rfl, elv, h3⟩ H2 locs ls2 cells2 slots2 g1 g2 hP2 hD2 hS2 hl2
          obtain ⟨x1, x2⟩ := lawS.of F hfr hP2 hD2 hS2
          refine va_forget x2 ?_
          rcases h3 with ⟨rfl, h3⟩ | ⟨h3 | h3, h4, -⟩ | ⟨-, -, h3⟩
          · have g1 : cells2 ≤ cells + 87 := g1
            have g2 : slots2 ≤ slots + 522 := g2
            rw [cutL_body_3066] at hbs
            cases hbs
            exact nx ρ fl J H2 ls2 cells2 slots2 x1 h3 (mask_lvL elv rfl hl2) (by omega) (by omega)
          · subst h3
            subst h4
            have g1 : cells2 ≤ cells + 87 := Nat.le_trans g1 (Nat.add_le_add_left (by decide) _)
            have g2 : slots2 ≤ slots + 522 := Nat.le_trans g2 (Nat.add_le_add_left (by decide) _)
            rw [cutL_body_2742] at hbs
            cases hbs
            exact turn_L_tr hst hT hN hA1 hA2 hf hi h6 (by omega) (by omega) nx x1 hI (mask_lvL elv rfl hl2) (by omega) (by omega)
          · subst h3
            subst h4
            have g1 : cells2 ≤ cells + 87 := Nat.le_trans g1 (Nat.add_le_add_left (by decide) _)
            have g2 : slots2 ≤ slots + 522 := Nat.le_trans g2 (Nat.add_le_add_left (by decide) _)
            rw [cutL_body_2969] at hbs
            cases hbs
            exact turn_L_im hst hT hN hA1 hA2 hf hi h6 (by omega) (by omega) nx x1 hI (mask_lvL elv rfl hl2) (by omega) (by omega)
          · omega) 60) kL_body_23 hOK (fun _ _ _ => trivial) _ _ _ (W_all hI hi (by omega) hi2 hf)
      obtain ⟨q', r', e2, h00⟩ : ∃ q r, kL_body_23 = q :: r ∧ q.1 = 23 := ⟨_, _, rfl, rfl⟩
      rw [e1] at e2
      cases e2
      rw [h00] at hw
      exact hw H [] ls cells slots (Nat.le_add_right _ _) (Nat.le_add_right _ _) hP hD hS.S hl
    · obtain ⟨q, r, e1, hw⟩ := mWpL_ok (cp := fun _ => True) (X := fun _ _ _ => False) (Q := fun _ _ => False) (Qs := Q) (below := below) (meth := meth) (e := e) F rfl hN (by decide) (hCL hst hT) (hCHL hst hT) hT (fun _ _ _ _ _ _ h => h.elim) (fun _ _ _ _ _ h => (w_ret_no h).elim)
        (mGoL_ok (cp := fun _ => True) (X := fun _ _ _ => False) (Q := fun _ _ => False) F rfl hN (by decide) (hCL hst hT) (hCHL hst hT) hT (fun _ _ _ _ _ _ h => h.elim) (fun _ _ _ _ _ h => (w_ret_no h).elim) hOK (fun _ _ _ => trivial) (cuts := cutL_body) (C := fun t lv st J => t = 3072 ∧ lv = lvL i ∧ st = []) (by
          rintro t bs hbs lv st J ⟨rfl, elv, rfl⟩ H2 locs ls2 cells2 slots2 g1 g2 hP2 hD2 hS2 hl2
          have g1 : cells2 ≤ cells + 87 := g1
          have g2 : slots2 ≤ slots + 522 := g2
          obtain ⟨x1, x2⟩ := lawS.of F hfr hP2 hD2 hS2
          refine va_forget x2 (lv_iconst (v := 1) F.1 F.2.1 (by decide +kernel : decode cL_law 3072 = .ok (.iconst 1, 1)) (by decide) (hend H2 ls2 cells2 slots2 (by omega) (by omega)))) 60) kL_body_23 hOK (fun _ _ _ => trivial) _ _ _ (W_end (f := f) (L := L) (I := I) hi (by omega) hi2 (by omega) ⟨rfl, rfl, rfl⟩)
      obtain ⟨q', r', e2, h00⟩ : ∃ q r, kL_body_23 = q :: r ∧ q.1 = 23 := ⟨_, _, rfl, rfl⟩
      rw [e1] at e2
      cases e2
      rw [h00] at hw
      exact hw H [] ls cells slots (Nat.le_add_right _ _) (Nat.le_add_right _ _) hP hD hS.S hl
end
end LGO
section LEND
set_option maxRecDepth 100000 in
set_option maxHeartbeats 4000000 in
theorem law_go {p : Program} {l : Launch} {e : Env} {s : State} {m : MethodId} {below : List Frame} {meth : Method} {c : Code} {b L : Nat} {xs : Nat → Int32} {Q : State → Prop} (hst : l.stackTraces = false) (hL : L ≤ 3072) (hx : p.tables.exec = Jvm.exec) (hb : c.code = cL_law) (hml : c.maxLocals = 8) (hown : s.vm.findClass "NineOnGrassLaw" = some m.cls) (hts : ∀ w ∈ lw_tbl, w.before #[Value.ref b] s = true) (hX : va_X b L xs s s.heap) (hbl : b < s.heap.size) (hgv : gvT.before #[Value.ref b] s = true)
    (hend : ∀ (H : Heap) (ls : Array Slot) (cells slots : Nat), cells ≤ 601024 → slots ≤ 7293034 → W p l e room_1 s m #[Value.ref b] below meth c H [] cells slots Q (F0 m 3073 ls [.int 1])) : W p l e room_1 s m #[Value.ref b] below meth c s.heap [] 0 0 Q (entryFrame m ([Value.ref b] : List Value).toArray 8) := by
  have hT := mTxM_ok l
  obtain ⟨ad, n1, ⟨s1, s2, s3, s4⟩, ⟨u1, u2⟩, n4, n5, n6, n7⟩ := envS (A := fun q => s.heap.size ≤ q) hgv hts (fun a h => Nat.not_le.mpr h)
  obtain ⟨D, cA, hK, hA1, hA2⟩ := kS hts
  have hAO := And.intro hA1 hA2
  have hN : mNC s := fun a b ha hb hn => va_Nc.of (gvF_of hgv (g_nc a ha b hb hn))
  have hbw : ∀ w ∈ mBW, w.before #[Value.ref b] s = true := fun w hw => hts w (mBW_t hw)
  have FN : nF p s m #[Value.ref b] c cL_law 8 "NineOnGrassLaw" D cA (fun q => s.heap.size ≤ q) := ⟨hx, hb, hml, hown, hbw, hK, n1, fun q h => h⟩
  have hl := lv_entry ([.ref b]) (n := 8) (Nat.le_of_ble_eq_true rfl)
  rw [lg_entry_eq]
  generalize (lg_sl ([.ref b]) ++ List.replicate (8 - (lg_sl ([.ref b])).length) Slot.unset).toArray = ls at hl ⊢
  have hl : lv_has ls 8 [(0, .ref b)] := hl
  suffices hw : nW p l e room_1 s m #[Value.ref b] below meth c Q 8 D (fun q => s.heap.size ≤ q) 0 [(0, .ref b)] [] [] 0 0 from hw s.heap [] ls (fun k q h => by simp at h) ⟨fun i j p q h => by simp at h, fun k q h => by simp at h⟩ va_S.rf hl
  refine n_new (idx := 8) (ci := 10) (fs := [.null, .null, .null, .null, .null, .null, .null, .null, .null, .null, .null, .null, .null, .long 0, .long 0, .int 0]) FN (by decide +kernel) rfl (mBW_of 132 (by decide +kernel)) (mBW_of 133 (by decide +kernel)) (mBW_of 105 (by decide +kernel)) (by decide +kernel) ⟨by decide, by decide⟩ (fun h0 => ?_)
  refine n_dup FN (by decide +kernel) ?_
  refine n_init (idx := 142) (n := 0) (wf := mnW cA h0) (As := []) FN hAO (n_X10) (by decide +kernel) ⟨(mBW_of 136 (by decide +kernel)), (mBW_of 105 (by decide +kernel)), by decide +kernel, ⟨by decide, by decide⟩⟩ (Or.inl (mBW_of 134 (by decide +kernel))) (mBW_of 135 (by decide +kernel)) rfl rfl (Nat.le_of_ble_eq_true rfl) ⟨by decide, by decide⟩ (fun u => ?_)
  refine n_asn (k := 1) (lv' := [(1, .ref h0), (0, .ref b)]) FN (by decide +kernel) rfl (by decide) rfl ?_
  refine n_new (idx := 143) (ci := 11) (fs := [.null, .null, .null, .int 0, .null, .null, .int 0, .int 0, .int 0, .int 0, .int 0, .int 0, .int 0, .int 0, .int 0, .int 0, .long 0, .long 0, .long 0, .null, .null, .null, .null, .null, .long 0, .long 0, .long 0, .null, .null, .null, .null, .null, .int 0, .null, .null, .null]) FN (by decide +kernel) rfl (mBW_of 1566 (by decide +kernel)) (mBW_of 1567 (by decide +kernel)) (mBW_of 116 (by decide +kernel)) (by decide +kernel) ⟨by decide, by decide⟩ (fun h1 => ?_)
  refine n_dup FN (by decide +kernel) ?_
  refine n_init (idx := 145) (n := 0) (wf := mdW cA h1) (As := []) FN hAO (n_X11) (by decide +kernel) ⟨(mBW_of 1570 (by decide +kernel)), (mBW_of 116 (by decide +kernel)), by decide +kernel, ⟨by decide, by decide⟩⟩ (Or.inl (mBW_of 1568 (by decide +kernel))) (mBW_of 1569 (by decide +kernel)) rfl rfl (Nat.le_of_ble_eq_true rfl) ⟨by decide, by decide⟩ (fun v => ?_)
  refine n_asn (k := 2) (lv' := [(2, .ref h1), (1, .ref h0), (0, .ref b)]) FN (by decide +kernel) rfl (by decide) rfl ?_
  refine n_ic (x := 1) (v := 1) FN (by decide +kernel) (by decide) ?_
  refine n_newa (atype := .long) (ty := .long) (k0 := 3) (N' := 1) (a0 := (1, .inr (.inl (fun _ => 0)))) FN (by decide +kernel) (mBW_of 1505 (by decide +kernel)) rfl rfl (fun _ => rfl) (by decide) (by decide) (by decide) ⟨by decide, by decide⟩ (fun h2 => ?_)
  refine n_asn (k := 3) (lv' := [(3, .ref h2), (2, .ref h1), (1, .ref h0), (0, .ref b)]) FN (by decide +kernel) rfl (by decide) rfl ?_
  refine n_ic (x := 0) (v := 0) FN (by decide +kernel) (by decide) ?_
  intro H locs ls hP hD hS hl
  refine lv_istore (i := 4) (lv' := [(4, .int 0), (3, .ref h2), (2, .ref h1), (1, .ref h0), (0, .ref b)]) hx hb (by decide +kernel : decode cL_law 21 = .ok (.istore 4, 2)) hl (by decide) rfl (fun ls hl => ?_)
  obtain ⟨x1, x2, x3⟩ := mWs_S (ad := ad) (b := b) hP hD
  refine va_forget (fun q hq => hS.2.2 q hq) ?_
  have hsub : ∀ q, mA (rhoS h0 h1 h2 u v ad b) flN q → s.heap.size ≤ q := by
    rintro q ⟨i, hi, rfl⟩
    exact x3 i hi
  have hr : ∀ i, 240 ≤ i → i ≠ 242 → rhoS h0 h1 h2 u v ad b i = ad i := fun i h9 h8 => by
    unfold rhoS
    rw [if_neg (by omega), if_neg h8]
  have hE : mEnv (rhoS h0 h1 h2 u v ad b) flN s s.heap := by
    refine ⟨n1, ⟨?_, ?_, ?_, ?_⟩, ⟨?_, ?_⟩, fun q hq => ?_, ?_, n6.narrow hsub, n7.narrow hsub⟩
    · rw [hr 240 (by decide) (by decide)]; exact s1.narrow hsub
    · rw [hr 240 (by decide) (by decide)]; exact s2.narrow hsub
    · rw [hr 241 (by decide) (by decide)]; exact s3.narrow hsub
    · rw [hr 241 (by decide) (by decide)]; exact s4.narrow hsub
    · exact x_xZq (fun a h1 h2 h3 => h2 (hsub a h3)) u1
    · exact x_xZq (fun a h1 h2 h3 => h2 (hsub a h3)) u2
    · have h9 : ∀ q ∈ mStr, 250 ≤ q.2.2.2 := by decide
      have := h9 q hq
      rw [hr _ (by omega) (by omega)]
      exact n4 q hq
    · have e1 : (fun i => rhoS h0 h1 h2 u v ad b (250 + i)) = (fun i => ad (250 + i)) := funext fun i => hr _ (by omega) (by omega)
      have e2 : (fun i => rhoS h0 h1 h2 u v ad b (270 + i)) = (fun i => ad (270 + i)) := funext fun i => hr _ (by omega) (by omega)
      rw [e1, e2]
      exact n5.narrow hsub
  have hro : ∀ i n g, roL L (fun j => (xs j.toNat).toInt) i = some (n, g) → mRoAt (rhoS h0 h1 h2 u v ad b i) n g (mA (rhoS h0 h1 h2 u v ad b) flN) s s.heap := fun i n g h => by
    unfold roL at h
    by_cases h9 : i = 242
    · rw [if_pos h9] at h
      subst h9
      cases h
      obtain ⟨scr, y1, y2, y3, y4, y5⟩ := hX
      refine ⟨scr, y1, y2, y3, by omega, by rw [y4], fun j hj => ?_, fun h8 => ?_, by omega⟩
      · rw [y5 j hj]
        show some (Value.int (xs j)) = some (Value.int (Int32.ofInt (xs ((j : Int)).toNat).toInt))
        rw [show ((j : Int)).toNat = j from Int.toNat_natCast j, Int32.ofInt_toInt]
      · have := hsub _ h8
        exact absurd this (Nat.not_le.mpr hbl)
    · rw [if_neg h9] at h; cases h
  have F : mFx p s m #[Value.ref b] c cL_law 8 "NineOnGrassLaw" D cA (rhoS h0 h1 h2 u v ad b) flN (roL L (fun j => (xs j.toNat).toInt)) := ⟨hx, hb, hml, hown, hbw, hK, hE, hro⟩
  refine law_loop (f := fun j => (xs j.toNat).toInt) hst hT hN hA1 hA2 (fun q => ⟨Int32.le_toInt _, Int32.toInt_lt _⟩) hL hend 512 0 (rhoS h0 h1 h2 u v ad b) flN I0S H ls _ _ (Int.le_refl 0) (by decide) (by omega) ⟨F, x1, x2, x3, hS.1, fun q hq => hS.2.1 q hq (Nat.not_le.mpr hq)⟩ LI0 (mLoc_of hl rfl (fun j w hj => ?_)) (by decide) (by decide)
  rcases j with _ | _ | _ | _ | _ | _ | _ | _ | j
  · cases hj; show (0, Value.ref b) ∈ _; simp
  · cases hj; show (1, Value.ref h0) ∈ _; simp
  · cases hj; show (2, Value.ref h1) ∈ _; simp
  · cases hj; show (3, Value.ref h2) ∈ _; simp
  · cases hj; show (4, Value.int (Int32.ofInt 0)) ∈ _; simp
  · cases hj
  · cases hj
  · cases hj
  · simp at hj
end LEND
