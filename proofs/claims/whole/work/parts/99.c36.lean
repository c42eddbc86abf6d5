section SPC36
def frH (I' I : mM) (k : Int) : Prop := (∀ i, i ≠ 100 → ¬ (107 ≤ i ∧ i ≤ 110) → I' i = I i) ∧ (∀ p : Int, ¬ (3 ≤ p ∧ p ≤ 10) ∨ p = 5 → I' 100 p = I 100 p) ∧ (∀ A, 107 ≤ A → A ≤ 110 → ∀ q : Int, q ≠ k → I' A q = I A q)
def hiC (I' I : mM) (B : Int → Int) (n k b : Int) (t : Int → Int) (g : rdG) : Prop := frH I' I k ∧ (g.1 ≠ 0 → I' 100 3 = g.1 ∧ I' 100 4 = g.2.1) ∧ (g.1 = 0 → tkC I' B n g.2.2.1 ∧ I' 100 3 = I 100 3 ∧ I' 100 4 = I 100 4 ∧ ∃ w p r f, g.2.2.2 = htU t b w p r f ∧ I' 107 k = w ∧ I' 108 k = p ∧ I' 109 k = r ∧ I' 110 k = f)
theorem frH.refl (I : mM) (k : Int) : frH I I k := ⟨fun _ _ _ => rfl, fun _ _ => rfl, fun _ _ _ _ _ => rfl⟩
theorem frH.rn {I I1 I2 : mM} {k : Int} {B : Int → Int} {n : Int} {R : rdR} (h : frH I1 I k) (r : rnC I2 I1 B n R) : frH I2 I k := ⟨fun i i0 i1 => by rw [r.1 i i0]; exact h.1 i i0 i1, fun p hp => by rw [r.2.1 p hp]; exact h.2.1 p hp, fun A a0 a1 q hq => by rw [r.1 A (by omega)]; exact h.2.2 A a0 a1 q hq⟩
theorem frH.wn {I I1 I2 : mM} {k : Int} {B : Int → Int} {n : Int} {R : rdR} (h : frH I1 I k) (r : wnC I2 I1 B n R) : frH I2 I k := ⟨fun i i0 i1 => by rw [r.1 i i0]; exact h.1 i i0 i1, fun p hp => by rw [r.2.1 p (by omega)]; exact h.2.1 p hp, fun A a0 a1 q hq => by rw [r.1 A (by omega)]; exact h.2.2 A a0 a1 q hq⟩
theorem frH.fr {I I1 I2 : mM} {k : Int} (h : frH I1 I k) (r : frC I2 I1) : frH I2 I k := ⟨fun i i0 i1 => by rw [r.1 i i0]; exact h.1 i i0 i1, fun p hp => by rw [r.2 p (by omega)]; exact h.2.1 p hp, fun A a0 a1 q hq => by rw [r.1 A (by omega)]; exact h.2.2 A a0 a1 q hq⟩
theorem frH.set {I I1 : mM} {k : Int} (h : frH I1 I k) {A : Nat} (hA : 107 ≤ A ∧ A ≤ 110) (v : Int) : frH (mSet I1 A k v) I k := ⟨fun i i0 i1 => by rw [set_ne (by omega)]; exact h.1 i i0 i1, fun p hp => by rw [set_ne (by omega)]; exact h.2.1 p hp, fun A' a0 a1 q hq => by rw [set_nj hq]; exact h.2.2 A' a0 a1 q hq⟩
theorem tpC.h {I I1 : mM} {k : Int} {B : Int → Int} {n : Int} (h : tpC I B n) (f : frH I1 I k) : tpC I1 B n := by
  unfold tpC at *
  rw [f.2.1 5 (by decide), f.1 101 (by decide) (by decide)]
  exact h
theorem tkC.set {I : mM} {B : Int → Int} {n a : Int} (h : tkC I B n a) {A : Nat} (hA : A ≠ 100) (p v : Int) : tkC (mSet I A p v) B n a := by
  unfold tkC at *
  rw [set_ne (fun w => hA w.symm)]
  exact h
def spX5_readHit : mSp := shRI (fun _ i k I Q => i = some 100 ∧ (0 ≤ k ∧ k < 48) ∧ ∃ B n x b t, tpC I B n ∧ tkC I B n (enT B n x) ∧ (0 ≤ x ∧ x ≤ n) ∧ isW B n 8 x ∧ ¬ t (13 + b) = 8 ∧ ∀ I' : mM, hiC I' I B n k b t (hiT B n b x t) → Q (.inl (some (mI (if (hiT B n b x t).1 = 0 then 1 else 0)))) I')
def SX5_readHit : Nat → mSp := fun a => match a with
  | 0 => spX5_readNumber
  | 1 => spX5_readWord
  | 2 => spX5_isWord
  | 3 => spX5_advance
  | _ => fun _ _ _ _ => False
theorem SX5_readHit_0 : SX5_readHit 0 = spX5_readNumber := Eq.trans rfl rfl
theorem SX5_readHit_1 : SX5_readHit 1 = spX5_readWord := Eq.trans rfl rfl
theorem SX5_readHit_2 : SX5_readHit 2 = spX5_isWord := Eq.trans rfl rfl
theorem SX5_readHit_3 : SX5_readHit 3 = spX5_advance := Eq.trans rfl rfl
set_option maxRecDepth 100000 in
set_option maxHeartbeats 1000000 in
theorem vcX5_readHit (fl : Nat → Bool) (avs : List mV) (I : mM) (Q : mO → mM → Prop) (hsp : spX5_readHit fl avs I Q) : mVC0 SX5_readHit fl Q kX5_readHit 2 avs I := by
  obtain ⟨i, k, rfl, h0⟩ := shRI_inv hsp
  obtain ⟨rfl, hk, B, N, x, b, t, hT, hK, hx, hw, ht, h⟩ := h0
  have eb := en8 B hx
  have sE : hiT B N b x t = (if (numT B N 0 15 (enT B N x)).1 ≠ 0 then rdE (numT B N 0 15 (enT B N x)) t
  else if (tolT B N 9 1 9 (numT B N 0 15 (enT B N x)).2.2.1).1 ≠ 0 then rdE (tolT B N 9 1 9 (numT B N 0 15 (enT B N x)).2.2.1) t
  else if (arT B N (tolT B N 9 1 9 (numT B N 0 15 (enT B N x)).2.2.1).2.2.1).1 ≠ 0 then rdE (arT B N (tolT B N 9 1 9 (numT B N 0 15 (enT B N x)).2.2.1).2.2.1) t
  else if (tolT B N 11 1 99 (arT B N (tolT B N 9 1 9 (numT B N 0 15 (enT B N x)).2.2.1).2.2.1).2.2.1).1 ≠ 0 then rdE (tolT B N 11 1 99 (arT B N (tolT B N 9 1 9 (numT B N 0 15 (enT B N x)).2.2.1).2.2.1).2.2.1) t
  else (0, 0, (tolT B N 11 1 99 (arT B N (tolT B N 9 1 9 (numT B N 0 15 (enT B N x)).2.2.1).2.2.1).2.2.1).2.2.1, htU t b (numT B N 0 15 (enT B N x)).2.2.2 (tolT B N 9 1 9 (numT B N 0 15 (enT B N x)).2.2.1).2.2.2 (arT B N (tolT B N 9 1 9 (numT B N 0 15 (enT B N x)).2.2.1).2.2.1).2.2.2 (tolT B N 11 1 99 (arT B N (tolT B N 9 1 9 (numT B N 0 15 (enT B N x)).2.2.1).2.2.1).2.2.1).2.2.2)) := by
    have e8 : tolT B N 8 0 15 x = numT B N 0 15 (enT B N x) := if_pos hw
    rw [← e8]
    exact if_neg (fun w => ht w.2)
  have hbad : ∀ (M : mM) (R : rdR), hiT B N b x t = rdE R t → R.1 ≠ 0 → frH M I k → M 100 3 = R.1 ∧ M 100 4 = R.2.1 → Q (.inl (some (mI 0))) M := fun M R e n f q => by
    have h := h M
    rw [e, if_neg n] at h
    exact h ⟨f, fun _ => q, fun w => absurd w n⟩
  refine ⟨rfl, ?_⟩
  show mWp _ _ _ _ _ _ kX5_readHit_0 [some (mR (some 100)), some (mI k)] [] I
  simp only [false_and, and_false, true_or, or_true, false_or, or_false, true_and, and_true, true_implies, false_implies, implies_true, not_true_eq_false, not_false_eq_true, and_self, List.length_cons, List.length_nil, mNoCut_, mCat_n, mCat_I, mCat_L, mCat_R, mIsL_n, mIsL_I, mIsL_R, mIsL_L, Nat.reduceAdd, Nat.reduceSub, Nat.reduceLeDiff, Nat.reduceLT, Nat.reduceEqDiff, Nat.zero_le, Int.reduceEq, Int.reduceLT, Int.reduceLE, Int.reduceNeg, Int.reduceAdd, if_true, if_false, reduceIte, reduceCtorEq, Bool.false_eq_true, ne_eq, qCmp_0, qCmp_1, qCmp_2, qCmp_3, qCmp_4, qCmp_5, ib_0, ib_1, ib_2, lb_0, lb_1, lb_2, dv_0, dv_1, wq_ic, wq_ld_i, wq_ld_a, wq_if, wq_get, mGet_0, mGet_1, mGet_2, mGet_3, wq_astI, wq_astL, wq_ret0, wq_ret1, wq_ret2, wq_ret3, wq_ret4, wq_tx, ldR0, mrg_0_, mrg_15_, wq_callV3_0, fk_5_2, fk_3_8, ldI1, fk_5_10, wq_callV2_0, mrg_1_, mrg_9_, fk_3_9, fk_3_10, wq_callV1_0, mrg_8_, mrg_99_, fk_3_11, mGo_n, sfxX5_readHit_12, cutX5_readHit_12, sfxX5_readHit_44, cutX5_readHit_44, sfxX5_readHit_46, cutX5_readHit_46, sfxX5_readHit_94, cutX5_readHit_94, sfxX5_readHit_107, cutX5_readHit_107, sfxX5_readHit_126, cutX5_readHit_126, sfxX5_readHit_128, cutX5_readHit_128, kX5_readHit_128, kX5_readHit_126, kX5_readHit_107, kX5_readHit_94, kX5_readHit_46, kX5_readHit_44, kX5_readHit_12, kX5_readHit_0, sk_11, al_11, rf_11_8, sk_16, al_16, sn_16, rf_11_9, sk_17, al_17, sn_17, rf_11_10, sk_18, al_18, sn_18, rf_11_11, sk_19, al_19, sn_19, sk_102, al_102, rf_102_8, sk_107, al_107, sn_107, rf_102_9, sk_108, al_108, sn_108, rf_102_10, sk_109, al_109, sn_109, rf_102_11, sk_110, al_110, sn_110, sk_100, al_100, rf_100_2, ↓SX5_readHit_0, ↓SX5_readHit_1, ↓SX5_readHit_2, ↓SX5_readHit_3, ↓shqRII_, ↓shqRR_, ↓shqR_, ↓spX5_readNumber, ↓spX5_readWord, ↓spX5_isWord, ↓spX5_advance, mrg, mrl, mSet_ap, ncast, Option.some.injEq]
  have b1 := num_bd (B := B) (n := N) (lo := 0) (hi := 15) (a := enT B N x) ⟨by omega, by omega⟩ (by decide)
  refine ⟨B, N, enT B N x, hT, hK, ⟨by omega, by omega⟩, fun I1 r1 => ?_⟩
  generalize numT B N 0 15 (enT B N x) = R1 at *
  have F1 := (frH.refl I k).rn r1
  by_cases z1 : R1.1 = 0
  · rw [if_neg (fun w => w z1)] at sE
    rw [if_pos z1]
    obtain ⟨K1, v1, a1, c1⟩ := r1.2.2.2 z1
    have G1 := F1.set (A := 107) (by decide) (I1 100 10)
    refine ⟨⟨by decide, by decide⟩, fun _ => ⟨hk, 9, rfl, by decide, by decide, B, N, R1.2.2.1, hT.h G1, K1.set (by decide) _ _, b1.1, fun I2 r2 => ?_⟩, fun w => absurd (show ¬ (1 : Int) = 0 by decide) w⟩
    have F2 := G1.wn r2
    have bb2 := en8 B b1.1
    by_cases w9 : isW B N 9 R1.2.2.1
    · have e9 : tolT B N 9 1 9 R1.2.2.1 = numT B N 1 9 (enT B N R1.2.2.1) := if_pos w9
      rw [e9] at sE
      rw [show wdT B N 9 R1.2.2.1 = (0, 0, enT B N R1.2.2.1, 0) from if_pos w9] at r2 ⊢
      obtain ⟨K2, a2, c2⟩ := r2.2.2.2 rfl
      have b2 := num_bd (B := B) (n := N) (lo := 1) (hi := 9) (a := enT B N R1.2.2.1) ⟨by omega, by omega⟩ (by decide)
      rw [if_pos rfl]
      refine ⟨⟨by decide, by decide⟩, fun w => absurd w (show ¬ (1 : Int) = 0 by decide), fun _ => ⟨B, N, enT B N R1.2.2.1, hT.h F2, K2, ⟨by omega, by omega⟩, fun I3 r3 => ?_⟩⟩
      generalize numT B N 1 9 (enT B N R1.2.2.1) = R2 at *
      have F3 := F2.rn r3
      by_cases z2 : R2.1 = 0
      · rw [if_neg (fun w => w z2)] at sE
        rw [if_pos z2]
        obtain ⟨K3, v3, a3, c3⟩ := r3.2.2.2 z2
        have G3 := (F3.set (A := 108) (by decide) (I3 100 10)).set (A := 109) (by decide) 0
        have A3 : (mSet (mSet I3 108 k (I3 100 10)) 109 k 0) 100 3 = I 100 3 ∧ (mSet (mSet I3 108 k (I3 100 10)) 109 k 0) 100 4 = I 100 4 := by
          rw [set_ne (by decide), set_ne (by decide), a3, a2, set_ne (by decide), c3, c2, set_ne (by decide)]
          exact ⟨a1, c1⟩
        have V7 : (mSet (mSet I3 108 k (I3 100 10)) 109 k 0) 107 k = R1.2.2.2 := by
          rw [set_ne (by decide), set_ne (by decide), r3.1 107 (by decide), r2.1 107 (by decide), set_eq]
          exact v1
        have V8 : (mSet (mSet I3 108 k (I3 100 10)) 109 k 0) 108 k = R2.2.2.2 := by
          rw [set_ne (by decide), set_eq]
          exact v3
        have V9 : (mSet (mSet I3 108 k (I3 100 10)) 109 k 0) 109 k = 0 := set_eq
        have KM : tkC (mSet (mSet I3 108 k (I3 100 10)) 109 k 0) B N R2.2.2.1 := (K3.set (by decide) _ _).set (by decide) _ _
        have q6 : I3 100 6 = enT B N R2.2.2.1 := K3.1
        generalize hM : (mSet (mSet I3 108 k (I3 100 10)) 109 k 0) = M3 at *
        refine ⟨⟨by decide, by decide⟩, fun _ => ⟨hk, hk, 10, rfl, by decide, by decide, B, N, R2.2.2.1, hT.h G3, KM, b2.1, fun w10 => ?_, fun w10 => ?_⟩, fun w => absurd (show ¬ (1 : Int) = 0 by decide) w⟩
        · have bb3 := en8 B b2.1
          have eA : arT B N R2.2.2.1 = numT B N 1 8 (enT B N R2.2.2.1) := (if_pos w10).trans (if_pos w10)
          rw [eA] at sE
          have b3 := num_bd (B := B) (n := N) (lo := 1) (hi := 8) (a := enT B N R2.2.2.1) ⟨by omega, by omega⟩ (by decide)
          refine ⟨B, N, enT B N R2.2.2.1, hT.h G3, q6, ⟨by omega, by omega⟩, fun I4 f4 K4 => ⟨B, N, enT B N R2.2.2.1, hT.h (G3.fr f4), K4, ⟨by omega, by omega⟩, fun I7 r7 => ?_⟩⟩
          generalize numT B N 1 8 (enT B N R2.2.2.1) = R3 at *
          have F7 := (G3.fr f4).rn r7
          by_cases z3 : R3.1 = 0
          · rw [if_neg (fun w => w z3)] at sE
            rw [if_pos z3]
            obtain ⟨K7, v7, a7, c7⟩ := r7.2.2.2 z3
            have G7 := F7.set (A := 109) (by decide) (I7 100 10)
            have A7 : mSet I7 109 k (I7 100 10) 100 3 = I 100 3 ∧ mSet I7 109 k (I7 100 10) 100 4 = I 100 4 := by
              rw [set_ne (by decide), a7, c7, f4.2 3 (by decide), f4.2 4 (by decide)]
              exact A3
            refine ⟨⟨by decide, by decide⟩, fun _ => ⟨hk, ?_⟩, fun w => absurd (show ¬ (1 : Int) = 0 by decide) w⟩
            have bb4 := en8 B b3.1
            refine ⟨11, rfl, by decide, by decide, B, N, R3.2.2.1, hT.h G7, (K7.set (by decide) _ _), b3.1, fun I5 r5 => ?_⟩
            have F5 := (G7).wn r5
            by_cases w11 : isW B N 11 R3.2.2.1
            · have e11 : tolT B N 11 1 99 R3.2.2.1 = numT B N 1 99 (enT B N R3.2.2.1) := if_pos w11
              rw [e11] at sE
              rw [show wdT B N 11 R3.2.2.1 = (0, 0, enT B N R3.2.2.1, 0) from if_pos w11] at r5 ⊢
              obtain ⟨K5, a5, c5⟩ := r5.2.2.2 rfl
              rw [if_pos rfl]
              refine ⟨⟨by decide, by decide⟩, fun w => absurd w (show ¬ (1 : Int) = 0 by decide), fun _ => ⟨B, N, enT B N R3.2.2.1, hT.h F5, K5, ⟨by omega, by omega⟩, fun I6 r6 => ?_⟩⟩
              generalize numT B N 1 99 (enT B N R3.2.2.1) = R4 at *
              have F6 := F5.rn r6
              by_cases z4 : R4.1 = 0
              · rw [if_neg (fun w => w z4)] at sE
                rw [if_pos z4]
                obtain ⟨K6, v6, a6, c6⟩ := r6.2.2.2 z4
                have h := h (mSet I6 110 k (I6 100 10))
                rw [sE, if_pos rfl] at h
                have n7 : ∀ A : Nat, A ≠ 100 → I6 A = (mSet I7 109 k (I7 100 10)) A := fun A hA => by rw [r6.1 A hA, r5.1 A hA]
                exact ⟨⟨by decide, by decide⟩, fun _ => ⟨hk, h ⟨F6.set (A := 110) (by decide) _, fun w => absurd rfl w, fun _ => ⟨K6.set (by decide) _ _, by rw [set_ne (by decide), a6, a5]; exact (A7).1, by rw [set_ne (by decide), c6, c5]; exact (A7).2, _, _, _, _, rfl, by rw [set_ne (by decide), n7 107 (by decide)]; exact (by rw [set_ne (by decide), r7.1 107 (by decide), f4.1 107 (by decide)]; exact V7), by rw [set_ne (by decide), n7 108 (by decide)]; exact (by rw [set_ne (by decide), r7.1 108 (by decide), f4.1 108 (by decide)]; exact V8), by rw [set_ne (by decide), n7 109 (by decide)]; exact (by rw [set_eq]; exact v7), by rw [set_eq]; exact v6⟩⟩⟩, fun w => absurd (show ¬ (1 : Int) = 0 by decide) w⟩
              · rw [if_pos z4] at sE
                rw [if_neg z4]
                exact ⟨⟨by decide, by decide⟩, fun w => absurd rfl w, fun _ => hbad I6 R4 sE z4 F6 (r6.2.2.1 z4)⟩
            · rw [show tolT B N 11 1 99 R3.2.2.1 = erT B N 2 R3.2.2.1 1 from if_neg w11] at sE
              have ek : (erT B N 2 R3.2.2.1 1).1 ≠ 0 := er_ne B N _
              rw [if_pos ek] at sE
              rw [show wdT B N 11 R3.2.2.1 = erT B N 2 R3.2.2.1 0 from if_neg w11] at r5 ⊢
              rw [if_neg (er_ne B N R3.2.2.1)]
              exact ⟨⟨by decide, by decide⟩, fun _ => hbad I5 _ sE ek F5 (r5.2.2.1 (er_ne B N _)), fun w => absurd rfl w⟩
          · rw [if_pos z3] at sE
            rw [if_neg z3]
            exact ⟨⟨by decide, by decide⟩, fun w => absurd rfl w, fun _ => hbad I7 R3 sE z3 F7 (r7.2.2.1 z3)⟩
        · have eA : arT B N R2.2.2.1 = (0, 0, R2.2.2.1, 0) := if_neg w10
          rw [eA, if_neg (show ¬ ((0 : Int) ≠ 0) by decide)] at sE
          have bb4 := en8 B b2.1
          refine ⟨11, rfl, by decide, by decide, B, N, R2.2.2.1, hT.h G3, KM, b2.1, fun I5 r5 => ?_⟩
          have F5 := (G3).wn r5
          by_cases w11 : isW B N 11 R2.2.2.1
          · have e11 : tolT B N 11 1 99 R2.2.2.1 = numT B N 1 99 (enT B N R2.2.2.1) := if_pos w11
            rw [e11] at sE
            rw [show wdT B N 11 R2.2.2.1 = (0, 0, enT B N R2.2.2.1, 0) from if_pos w11] at r5 ⊢
            obtain ⟨K5, a5, c5⟩ := r5.2.2.2 rfl
            rw [if_pos rfl]
            refine ⟨⟨by decide, by decide⟩, fun w => absurd w (show ¬ (1 : Int) = 0 by decide), fun _ => ⟨B, N, enT B N R2.2.2.1, hT.h F5, K5, ⟨by omega, by omega⟩, fun I6 r6 => ?_⟩⟩
            generalize numT B N 1 99 (enT B N R2.2.2.1) = R4 at *
            have F6 := F5.rn r6
            by_cases z4 : R4.1 = 0
            · rw [if_neg (fun w => w z4)] at sE
              rw [if_pos z4]
              obtain ⟨K6, v6, a6, c6⟩ := r6.2.2.2 z4
              have h := h (mSet I6 110 k (I6 100 10))
              rw [sE, if_pos rfl] at h
              have n7 : ∀ A : Nat, A ≠ 100 → I6 A = M3 A := fun A hA => by rw [r6.1 A hA, r5.1 A hA]
              exact ⟨⟨by decide, by decide⟩, fun _ => ⟨hk, h ⟨F6.set (A := 110) (by decide) _, fun w => absurd rfl w, fun _ => ⟨K6.set (by decide) _ _, by rw [set_ne (by decide), a6, a5]; exact (A3).1, by rw [set_ne (by decide), c6, c5]; exact (A3).2, _, _, _, _, rfl, by rw [set_ne (by decide), n7 107 (by decide)]; exact V7, by rw [set_ne (by decide), n7 108 (by decide)]; exact V8, by rw [set_ne (by decide), n7 109 (by decide)]; exact V9, by rw [set_eq]; exact v6⟩⟩⟩, fun w => absurd (show ¬ (1 : Int) = 0 by decide) w⟩
            · rw [if_pos z4] at sE
              rw [if_neg z4]
              exact ⟨⟨by decide, by decide⟩, fun w => absurd rfl w, fun _ => hbad I6 R4 sE z4 F6 (r6.2.2.1 z4)⟩
          · rw [show tolT B N 11 1 99 R2.2.2.1 = erT B N 2 R2.2.2.1 1 from if_neg w11] at sE
            have ek : (erT B N 2 R2.2.2.1 1).1 ≠ 0 := er_ne B N _
            rw [if_pos ek] at sE
            rw [show wdT B N 11 R2.2.2.1 = erT B N 2 R2.2.2.1 0 from if_neg w11] at r5 ⊢
            rw [if_neg (er_ne B N R2.2.2.1)]
            exact ⟨⟨by decide, by decide⟩, fun _ => hbad I5 _ sE ek F5 (r5.2.2.1 (er_ne B N _)), fun w => absurd rfl w⟩
      · rw [if_pos z2] at sE
        rw [if_neg z2]
        exact ⟨⟨by decide, by decide⟩, fun w => absurd rfl w, fun _ => hbad I3 R2 sE z2 F3 (r3.2.2.1 z2)⟩
    · rw [show tolT B N 9 1 9 R1.2.2.1 = erT B N 2 R1.2.2.1 1 from if_neg w9] at sE
      have ek : (erT B N 2 R1.2.2.1 1).1 ≠ 0 := er_ne B N _
      rw [if_pos ek] at sE
      rw [show wdT B N 9 R1.2.2.1 = erT B N 2 R1.2.2.1 0 from if_neg w9] at r2 ⊢
      rw [if_neg (er_ne B N R1.2.2.1)]
      exact ⟨⟨by decide, by decide⟩, fun _ => hbad I2 _ sE ek F2 (r2.2.2.1 (er_ne B N _)), fun w => absurd rfl w⟩
  · rw [if_pos z1] at sE
    rw [if_neg z1]
    exact ⟨⟨by decide, by decide⟩, fun w => absurd rfl w, fun _ => hbad I1 R1 sE z1 F1 (r1.2.2.1 z1)⟩
theorem ctrX5_readHit {l : Launch} (hst : l.stackTraces = false) (hT : mTxM l) : mCtr l calX5_readHit spX5_readHit :=
  mMet0 (T := TX5_readHit) (S := SX5_readHit) hst hT (by decide) okX5_readHit ⟨_, _, rfl, rfl⟩ (fun a => match a with
    | 0 => ctrX5_readNumber hst hT
    | 1 => ctrX5_readWord hst hT
    | 2 => ctrX5_isWord hst hT
    | 3 => ctrX5_advance hst hT
    | _ + 4 => mCtr_no) vcX5_readHit

end SPC36
