section SPC14
/-- rows that differ in STANDS and SCORE alone -/
abbrev agr (t t' : Int → Int) : Prop := ∀ q : Int, ¬ (9 ≤ q ∧ q ≤ 12) → ¬ (550 ≤ q ∧ q < 595 ∧ (q - 550) % 5 = 0) → t' q = t q
theorem rawT_agr {t t' : Int → Int} (A : agr t t') {b h w : Int} (hb : 0 ≤ b ∧ b < 6) (hh : 0 ≤ h ∧ h < 8) (hw : 0 ≤ w ∧ w < 5) : rawT t' b h w = rawT t b h w := A _ (by omega) (by omega)
theorem wayT_agr {t t' : Int → Int} (A : agr t t') {b h : Int} (hb : 0 ≤ b ∧ b < 6) (hh : 0 ≤ h ∧ h < 8) : wayT t' b h = wayT t b h := by
  unfold wayT
  rw [rawT_agr A hb hh (by omega), A 6 (by omega) (by omega)]
theorem airT_agr {t t' : Int → Int} (A : agr t t') {b h : Int} (hb : 0 ≤ b ∧ b < 6) (hh : 0 ≤ h ∧ h < 8) : airT t' b h = airT t b h := by
  unfold airT
  rw [rawT_agr A hb hh (by omega), A 6 (by omega) (by omega)]
theorem cellT_agr {t t' : Int → Int} (A : agr t t') {b h : Int} (hb : 0 ≤ b ∧ b < 6) (hh : 0 ≤ h ∧ h < 8) : cellT t' b h = cellT t b h := by
  funext k
  unfold cellT
  rw [wayT_agr A hb hh]
theorem stepsT_agr {t t' : Int → Int} (A : agr t t') {b h : Int} (hb : 0 ≤ b ∧ b < 6) (hh : 0 ≤ h ∧ h < 8) : stepsT t' b h = stepsT t b h := by
  have e : ∀ k, inK t' b h k = inK t b h k := fun k => by
    unfold inK insT
    rw [wayT_agr A hb hh, A 1 (by omega) (by omega)]
  unfold stepsT
  congr 1
  funext k
  simp only [e]
theorem tickN_agr {t t' : Int → Int} (H : WFt t) (A : agr t t') {b h : Int} (hb : 0 ≤ b ∧ b < 6) (hh : 0 ≤ h ∧ h < 8) : ∀ n : Nat, (n : Int) ≤ stepsT t b h → tickN t' b h n = tickN t b h n
  | 0, _ => rfl
  | n + 1, hn => by
    have cl := cell_in H hb hh (k := ((n + 1 : Nat) : Int)) ⟨by omega, hn⟩
    simp only [tickN]
    rw [tickN_agr H A hb hh n (by omega), rawT_agr A hb hh (by omega), airT_agr A hb hh, cellT_agr A hb hh, A (20 + cellT t b h ((n + 1 : Nat) : Int)) (by omega) (by omega)]
theorem tickT_agr {t t' : Int → Int} (H : WFt t) (A : agr t t') {b h k : Int} (hb : 0 ≤ b ∧ b < 6) (hh : 0 ≤ h ∧ h < 8) (hk : k ≤ stepsT t b h) (h0 : 0 ≤ k) : tickT t' b h k = tickT t b h k := tickN_agr H A hb hh k.toNat (by omega)
theorem fld_agr {t t' : Int → Int} (A : agr t t') : ∀ f : Int, 0 ≤ f → f < 9 → pcT t' f = pcT t f ∧ hdT t' f = hdT t f ∧ prT t' f = prT t f ∧ amT t' f = amT t f := fun f f0 f1 =>
  ⟨A (550 + 5 * f + 1) (by omega) (by omega), A (550 + 5 * f + 2) (by omega) (by omega), A (550 + 5 * f + 3) (by omega) (by omega), A (550 + 5 * f + 4) (by omega) (by omega)⟩
theorem soonU_pc {p p' : Int → Int} (s : Int → Int) (c tk but : Int) : ∀ n : Nat, (∀ f : Int, 0 ≤ f → f < n → p f = p' f) → soonU s p c tk but n = soonU s p' c tk but n
  | 0, _ => rfl
  | n + 1, h => by
    have ih := soonU_pc s c tk but n (fun f f0 f1 => h f f0 (by omega))
    have sb := soonU_bd s p' c tk but n
    have hn := h n (by omega) (by omega)
    simp only [soonU]
    rw [ih, hn]
    by_cases z : soonU s p' c tk but n = -1
    · rw [z]
      simp
    · rw [h (soonU s p' c tk but n) (by omega) (by omega)]
theorem soonT_pc {p p' : Int → Int} (s : Int → Int) (c tk but : Int) (h : ∀ f : Int, 0 ≤ f → f < 9 → p f = p' f) : soonT s p c tk but = soonT s p' c tk but := soonU_pc s c tk but 9 h
theorem stopGo_pc {p p' : Int → Int} (s cell tick : Int → Int) (but : Int) (h : ∀ f : Int, 0 ≤ f → f < 9 → p f = p' f) : ∀ (m : Nat) (k : Int), stopGo s p cell tick but m k = stopGo s p' cell tick but m k
  | 0, _ => rfl
  | m + 1, k => by
    simp only [stopGo]
    rw [stopGo_pc s cell tick but h m (k + 1), soonT_pc s _ _ _ h]
theorem ctS_agr {t t' : Int → Int} (H : WFt t) (A : agr t t') (s : Int → Int) {b h : Int} (hb : 0 ≤ b ∧ b < 6) (hh : 0 ≤ h ∧ h < 8) : ctS t' s b h = ctS t s b h := by
  have e : ctS t' s b h = catcherT s (pcT t') (cellT t b h) (tickT t b h) (airT t b h) (stepsT t b h) := by
    unfold ctS
    rw [cellT_agr A hb hh, airT_agr A hb hh, stepsT_agr A hb hh]
    exact catcherT_cong _ _ _ (fun _ _ _ => rfl) (fun k k0 k1 => ⟨rfl, tickT_agr H A hb hh k1 (by omega)⟩)
  rw [e]
  unfold ctS catcherT
  rw [soonT_pc s _ _ _ (fun f f0 f1 => (fld_agr A f f0 f1).1)]
theorem chS_agr {t t' : Int → Int} (H : WFt t) (A : agr t t') (s : Int → Int) {b h : Int} (hb : 0 ≤ b ∧ b < 6) (hh : 0 ≤ h ∧ h < 8) : chS t' s b h = chS t s b h := by
  have e := ctS_agr H A s hb hh
  have cb := catcherT_bd s (pcT t) (cellT t b h) (tickT t b h) (airT t b h) (stepsT t b h)
  have e3 : ctS t s b h = catcherT s (pcT t) (cellT t b h) (tickT t b h) (airT t b h) (stepsT t b h) := rfl
  rw [← e3] at cb
  have e1 : chS t' s b h = if ctS t' s b h = -1 then 0 else handsT (hdT t') (prT t') s (ctS t' s b h) (cellT t' b h (airT t' b h)) := rfl
  have e2 : chS t s b h = if ctS t s b h = -1 then 0 else handsT (hdT t) (prT t) s (ctS t s b h) (cellT t b h (airT t b h)) := rfl
  rw [e1, e2, e, cellT_agr A hb hh, airT_agr A hb hh]
  by_cases z : ctS t s b h = -1
  · rw [if_pos z, if_pos z]
  · have f := fld_agr A (ctS t s b h) (by omega) (by omega)
    rw [if_neg z, if_neg z]
    unfold handsT
    rw [f.2.1, f.2.2.1]
theorem rnS_agr {t t' : Int → Int} (H : WFt t) (A : agr t t') (s : Int → Int) {b h : Int} (c : Int) (hb : 0 ≤ b ∧ b < 6) (hh : 0 ≤ h ∧ h < 8) : rnS t' s b h c = rnS t s b h c := by
  have ha := H.air hb hh
  have sp := spS_bd H s c hb hh
  have es : spS t' s b h c = spS t s b h c := by
    have e : spS t' s b h c = stopT s (pcT t') (cellT t b h) (tickT t b h) (airT t b h) (stepsT t b h) c := by
      unfold spS
      rw [cellT_agr A hb hh, airT_agr A hb hh, stepsT_agr A hb hh]
      exact stopT_cong _ _ _ _ ha.1 (fun _ _ _ => rfl) (fun k k0 k1 => ⟨rfl, tickT_agr H A hb hh k1 (by omega)⟩)
    rw [e]
    exact stopGo_pc s _ _ _ (fun f f0 f1 => (fld_agr A f f0 f1).1) _ _
  have e1 : ∀ u : Int → Int, rnS u s b h c = if spS u s b h c = -1 then (if airT u b h > stepsT u b h then 6 else 4) else runsByT (amT u) (cellT u b h) (tickT u b h) (u 2) (soonT s (pcT u) (cellT u b h (spS u s b h c)) (tickT u b h (spS u s b h c)) c) (spS u s b h c) := fun _ => rfl
  rw [e1, e1, es, airT_agr A hb hh, stepsT_agr A hb hh, cellT_agr A hb hh, A 2 (by omega) (by omega)]
  by_cases z : spS t s b h c = -1
  · rw [if_pos z, if_pos z]
  · rw [if_neg z, if_neg z, tickT_agr H A hb hh (by omega) (by omega), soonT_pc s _ _ _ (fun f f0 f1 => (fld_agr A f f0 f1).1)]
    have sb := soonT_bd s (pcT t) (cellT t b h (spS t s b h c)) (tickT t b h (spS t s b h c)) c
    unfold runsByT
    rw [tickT_agr H A hb hh (by omega) (by omega), (fld_agr A _ (by omega) (by omega)).2.2.2]
/-- with the same STANDS -/
theorem hit_agr {t t' : Int → Int} (H : WFt t) (A : agr t t') (hs : ∀ f : Int, 0 ≤ f → f < 9 → stT t' f = stT t f) {b h : Int} (hb : 0 ≤ b ∧ b < 6) (hh : 0 ≤ h ∧ h < 8) (H' : WFt t') : caughtT t' b h = caughtT t b h ∧ runsT t' b h = runsT t b h := by
  have a1 := chS_eq H' (stT t) hb hh
  have a2 := runsS_eq H' (stT t) hb hh
  have b1 := chS_eq H (stT t) hb hh
  have b2 := runsS_eq H (stT t) hb hh
  have e1 : stR t' (stT t) = t' := (stR_cong _ (fun f f0 f1 => (hs f f0 f1).symm)).trans (stR_self _)
  rw [e1] at a1 a2
  rw [stR_self] at b1 b2
  rw [a1, a2, b1, b2, ctS_agr H A _ hb hh, chS_agr H A _ hb hh, rnS_agr H A _ _ hb hh]
  exact ⟨rfl, rfl⟩
theorem allN_agr {t t' : Int → Int} (A : agr t t') {b : Int} (hb : 0 ≤ b ∧ b < 6) : ∀ n : Nat, n ≤ 8 → allN t' b n = allN t b n
  | 0, _ => rfl
  | n + 1, hn => by
    simp only [allN]
    rw [allN_agr A hb n (by omega), rawT_agr A hb ⟨by omega, by omega⟩ (by omega)]
theorem allT_agr {t t' : Int → Int} (H : WFt t) (A : agr t t') {b : Int} (hb : 0 ≤ b ∧ b < 6) : allT t' b = allT t b := by
  have hn := H.2.1 b hb.1 hb.2
  unfold allT
  rw [A (13 + b) (by omega) (by omega)]
  exact allN_agr A hb _ (by omega)
theorem ctxU_agr {I : mM} {t t' : Int → Int} {b : Int} (A : agr t t') (H' : WFt t') (H : ctxU I t b) : ctxU I t' b := by
  obtain ⟨h1, h2, h3, h4, h5⟩ := H
  have hn := h1.2.1 b h2.1 h2.2
  have e13 : t' (13 + b) = t (13 + b) := A _ (by omega) (by omega)
  refine ⟨H', h2, ⟨by rw [e13]; exact h3.1, by rw [allT_agr h1 A h2]; exact h3.2.1, ?_, fun h h0 hl => ?_⟩, fun f f0 f1 => ?_, fun k k0 k1 => ?_⟩
  · unfold shareT
    rw [A 6 (by omega) (by omega), A 7 (by omega) (by omega)]
    exact h3.2.2.1
  · rw [e13] at hl
    have q := h3.2.2.2 h h0 hl
    have hh : 0 ≤ h ∧ h < 8 := ⟨h0, by omega⟩
    have st8 := (steps_spec h1 h2 hh).1
    refine ⟨by rw [wayT_agr A h2 hh]; exact q.1, by rw [rawT_agr A h2 hh (by omega)]; exact q.2.1, by rw [airT_agr A h2 hh]; exact q.2.2.1, by rw [rawT_agr A h2 hh (by omega)]; exact q.2.2.2.1, by rw [stepsT_agr A h2 hh]; exact q.2.2.2.2.1, fun k k0 k1 => ?_⟩
    rw [stepsT_agr A h2 hh] at k1
    rw [cellT_agr A h2 hh, tickT_agr h1 A h2 hh k1 (by omega)]
    exact q.2.2.2.2.2 k k0 k1
  · have q := fld_agr A f f0 f1
    rw [q.1, q.2.1, q.2.2.1, q.2.2.2]
    exact h4 f f0 f1
  · rw [A k (by omega) (by omega)]
    exact h5 k k0 k1
theorem bowledT_bd2 : True := trivial
def spX10_drawHit : mSp := shR (fun _ i I Q => i = some 0 ∧ ∃ t b, ctxU I t b ∧ (∀ f : Int, 0 ≤ f → f < 9 → I 20 f = stT t f) ∧ (I 13 0 = t 6 ∧ I 13 1 = t 7) ∧ 1 ≤ t (13 + b) ∧ ∀ J : mM, Q (.inl (some (mI (bowledT t b (I 0 15)).1))) (fr 130 130 J (mSet I 0 15 (bowledT t b (I 0 15)).2)))
def SX10_drawHit : Nat → mSp := fun a => match a with
  | 0 => spX10_draw
  | 1 => spX9_dearest
  | 2 => spX0_hitAt
  | _ => fun _ _ _ _ => False
theorem SX10_drawHit_0 : SX10_drawHit 0 = spX10_draw := Eq.trans rfl rfl
theorem SX10_drawHit_1 : SX10_drawHit 1 = spX9_dearest := Eq.trans rfl rfl
theorem SX10_drawHit_2 : SX10_drawHit 2 = spX0_hitAt := Eq.trans rfl rfl
set_option maxRecDepth 100000 in
set_option maxHeartbeats 1000000 in
theorem vcX10_drawHit (fl : Nat → Bool) (avs : List mV) (I : mM) (Q : mO → mM → Prop) (hsp : spX10_drawHit fl avs I Q) : mVC0 SX10_drawHit fl Q kX10_drawHit 1 avs I := by
  obtain ⟨i, rfl, h0⟩ := shR_inv hsp
  refine ⟨rfl, ?_⟩
  show mWp _ _ _ _ _ _ kX10_drawHit_0 [some (mR i)] [] I
  obtain ⟨rfl, t, b, H, h20, ⟨e13, e14⟩, h1, h⟩ := h0
  have hB : stB (I 20) := fun g g0 g1 => by
    rw [h20 g g0 g1]
    exact H.1.st g g0 g1
  have r20 : stR t (I 20) = t := (stR_cong _ h20).trans (stR_self _)
  have ap := allT_pos H.1 H.2.1 h1
  have ab := allT_bd H.1 H.2.1
  have e1 : I 120 1 = allT t b := H.2.2.1.2.1
  have h6 := H.1.1.2.2.2.2.2.2
  have hself : ∀ M : mM, fr 130 130 M M = M := fun M => fr_self _ _ M
  have b1 : ∀ _ : Unit, t 6 = 1 → ib 8 (nx (I 0 15)) 16 % 100 < t 7 → ∀ J : mM, Q (.inl (some (mI (dearN t b (t (13 + b)).toNat)))) (fr 130 130 J (mSet I 0 15 (nx (I 0 15)))) := fun _ z1 z2 J => by
    have q := h J
    unfold bowledT at q
    rw [if_pos ⟨z1, z2⟩] at q
    exact q
  have b2 : ∀ _ : Unit, t 6 = 1 → ¬ ib 8 (nx (I 0 15)) 16 % 100 < t 7 → Q (.inl (some (mI (pickT t b (ib 8 (nx (nx (I 0 15))) 16 % allT t b))))) (mSet I 0 15 (nx (nx (I 0 15)))) := fun _ z1 z2 => by
    have q := h (mSet I 0 15 (nx (nx (I 0 15))))
    unfold bowledT at q
    rw [if_neg (fun w => z2 w.2), if_pos z1, hself] at q
    exact q
  have b3 : ∀ _ : Unit, ¬ t 6 = 1 → Q (.inl (some (mI (pickT t b (ib 8 (nx (I 0 15)) 16 % allT t b))))) (mSet I 0 15 (nx (I 0 15))) := fun _ z1 => by
    have q := h (mSet I 0 15 (nx (I 0 15)))
    unfold bowledT at q
    rw [if_neg (fun w => z1 w.1), if_neg z1, hself] at q
    exact q
  have u1 := ush16 (nx (I 0 15))
  have u2 := ush16 (nx (nx (I 0 15)))
  have t1 : (ib 8 (nx (I 0 15)) 16).tmod 100 = ib 8 (nx (I 0 15)) 16 % 100 := Int.tmod_eq_emod_of_nonneg u1.1
  have t2 : (ib 8 (nx (I 0 15)) 16).tmod (allT t b) = ib 8 (nx (I 0 15)) 16 % allT t b := Int.tmod_eq_emod_of_nonneg u1.1
  have t3 : (ib 8 (nx (nx (I 0 15))) 16).tmod (allT t b) = ib 8 (nx (nx (I 0 15))) 16 % allT t b := Int.tmod_eq_emod_of_nonneg u2.1
  have m1 := Int.emod_nonneg (ib 8 (nx (I 0 15)) 16) (b := allT t b) (by omega)
  have m2 := Int.emod_lt_of_pos (ib 8 (nx (I 0 15)) 16) (b := allT t b) (by omega)
  have m3 := Int.emod_nonneg (ib 8 (nx (nx (I 0 15))) 16) (b := allT t b) (by omega)
  have m4 := Int.emod_lt_of_pos (ib 8 (nx (nx (I 0 15))) 16) (b := allT t b) (by omega)
  have c15 : ∀ v : Int, ctxU (mSet I 0 15 v) t b := fun v => by
    rw [ctxU_set (by decide)]
    exact H
  have l15 : ∀ v : Int, Laid (mSet I 0 15 v) t b := fun v => (c15 v).2.2.1
  have s15 : ∀ v w : Int, mSet (mSet I 0 15 v) 0 15 w = mSet I 0 15 w := fun v w => set_over1 _ _ _ _ _
  have W := H.1
  have hb2 := H.2.1
  clear h
  simp only [false_and, and_false, true_or, or_true, false_or, or_false, true_and, and_true, true_implies, false_implies, implies_true, not_true_eq_false, not_false_eq_true, and_self, List.length_cons, List.length_nil, mNoCut_, mCat_n, mCat_I, mCat_L, mCat_R, mIsL_n, mIsL_I, mIsL_R, mIsL_L, Nat.reduceAdd, Nat.reduceSub, Nat.reduceLeDiff, Nat.reduceLT, Nat.reduceEqDiff, Nat.zero_le, Int.reduceEq, Int.reduceLT, Int.reduceLE, Int.reduceNeg, Int.reduceAdd, if_true, if_false, reduceIte, reduceCtorEq, Bool.false_eq_true, ne_eq, qCmp_0, qCmp_1, qCmp_2, qCmp_3, qCmp_4, qCmp_5, ib_0, ib_1, ib_2, lb_0, lb_1, lb_2, dv_0, dv_1, wq_ic, wq_ld_a, wq_idv, wq_icmp, wq_if, wq_goto, wq_get, mGet_0, mGet_1, mGet_2, mGet_3, wq_ret0, wq_ret1, wq_ret2, wq_ret3, wq_ret4, ldR0, fk_10_0, fk_7_2, fk_1_0, mrg_1_, wq_callV1_0, mrg_100_, fk_1_1, fk_10_5, fk_7_1, fk_6_0, wq_callV2_0, fk_10_4, fk_0_1, mrg_0_, mGo_n, sfxX10_drawHit_52, cutX10_drawHit_52, sfxX10_drawHit_84, cutX10_drawHit_84, sfxX10_drawHit_85, cutX10_drawHit_85, kX10_drawHit_85, kX10_drawHit_84, kX10_drawHit_52, kX10_drawHit_0, sk_120, al_120, sk_13, al_13, sk_12, al_12, rf_12_0, sk_20, al_20, sn_20, sk_10, al_10, rf_10_2, rf_10_1, sk_0, al_0, rf_0_0, rf_0_5, sk_130, al_130, rf_0_4, SX10_drawHit_0, SX10_drawHit_1, SX10_drawHit_2, shqR_, shqRR_, shqRI_, spX10_draw, spX9_dearest, spX0_hitAt, mrg, mrl, mSet_ap, ncast, Option.some.injEq, set_ne, set_eq, s15, e13, e14, e1, t1, t2, t3, r20, Option.getD_some]
  (try simp only [mrg, mrl] at *) <;> repeat' (first | (with_reducible assumption) | (with_reducible apply And.intro) | intro _ | (refine Exists.intro t (Exists.intro b ?_)) | (refine Exists.intro t ?_) | fail)
  all_goals first | omega | exact W | exact l15 _ | exact c15 _ | exact hB _ (by assumption) (by assumption) | exact (hB _ (by assumption) (by assumption)).1 | exact (hB _ (by assumption) (by assumption)).2 | exact b2 () (by omega) (by omega) | exact b3 () (by omega) | (rw [r20]; exact b1 () (by omega) (by omega) _) | skip
theorem ctrX10_drawHit {l : Launch} (hst : l.stackTraces = false) (hT : mTxM l) : mCtr l calX10_drawHit spX10_drawHit :=
  mMet0 (T := TX10_drawHit) (S := SX10_drawHit) hst hT (by decide) okX10_drawHit ⟨_, _, rfl, rfl⟩ (fun a => match a with
    | 0 => ctrX10_draw hst hT
    | 1 => ctrX9_dearest hst hT
    | 2 => ctrX0_hitAt hst hT
    | _ + 3 => mCtr_no) vcX10_drawHit

end SPC14
