section SPCUT
/-- stacks that the machine below can't tell apart -/
def mSEq (st st' : mSt) : Prop := ∀ ρ : Nat → Nat, st.map (mc ρ) = st'.map (mc ρ)
/-- as mVC; at a cut another stack that looks the same may stand -/
def mVCE (S : Nat → mSp) (fl : Nat → Bool) (Q : mO → mM → Prop) (P : List mIn) (cuts : Nat → Option (List Bool)) (nL : Nat) (avs : List mV) (I : mM) : Prop :=
  (mArgs nL avs).length = nL ∧ ∃ C : Nat → Nat → mK,
    (∀ n t bs, cuts t = some bs → ∀ lv st I, C n t lv st I → ∃ st', mSEq st' st ∧ mWp S (mGo S Q (fun E _ I => Q (.inr E) I) fl mRo0 P cuts (fun t lv st I => ∃ n', n' < n ∧ C n' t lv st I) 60) Q (fun E _ I => Q (.inr E) I) fl mRo0 (mSfx t P) lv st' I) ∧
    mWp S (mGo S Q (fun E _ I => Q (.inr E) I) fl mRo0 P cuts (fun t lv st I => ∃ n, C n t lv st I) 60) Q (fun E _ I => Q (.inr E) I) fl mRo0 P (mArgs nL avs) [] I
theorem mMetE {l : Launch} (hst : l.stackTraces = false) (hT : mTxM l) {y : MethodName} {cc : ByteArray} {nL : Nat} {rt : Option FieldType} {rm : Nat × Nat × Nat × Nat} {T : Nat → mCal} {S : Nat → mSp} {acc acs : Nat → Nat} {P : List mIn} {sp : mSp} (cuts : Nat → Option (List Bool))
    (hy : plainName y.cls = true) (hP : mOK (y.cls, cc, T, rt, rm, nL, acc, acs) P = true) (h0 : ∃ q r, P = q :: r ∧ q.1 = 0) (ha0 : True) (hcl : ∀ t bs, cuts t = some bs → bs.length = nL)
    (hC : ∀ a, mCtr l (T a) (S a)) (hb : ∀ fl avs I Q, sp fl avs I Q → mVCE S fl Q P cuts nL avs I) : mCtr l (y, cc, nL, rt, rm) sp := by
  intro D cA ρ fl avs I Q hsp
  obtain ⟨hlen, C, hbody, hent⟩ := hb fl avs I Q hsp
  obtain ⟨yc, yn, yd⟩ := y
  dsimp only at hy hP
  refine vx_ofW hy rfl ?_
  intro p e s m args below meth c s₁ B hml hno hPc
  obtain ⟨hargs, hK, hPP, hD, hE⟩ := hPc
  have hts : ∀ w ∈ mBW, w.before args s = true := fun w hw => atoms_spec (ws := mWd ((⟨yc, yn, yd⟩ : MethodName), cc, nL, rt, rm)) B.pre w (List.mem_cons_of_mem _ hw)
  have F : mFx p s m args c cc nL yc D cA ρ fl mRo0 := ⟨B.exec, B.bytes, hml, findClass_of_methodNamed B.named, hts, hK, hE, mRo0_at hE⟩
  have hX : ∀ pc E (lv : mLv) I, acc (pc + 3) ≤ rm.2.2.1 ∧ acs (pc + 3) ≤ rm.2.2.2 → Q (.inr E) I → mXW p l e (mRm rm) s m args below meth c (vx_MQ below (mQc D cA ρ fl Q) (mXc D cA ρ fl Q) args s rm.2.2.1 rm.2.2.2 (mA ρ fl)) nL D cA ρ fl acc acs pc E lv I := by
    intro pc E lv I hm hq H locs ls cells slots rest ce q9 hc1 hs1 hP1 hD1 hS1 hl1 h1 h2 h3
    exact vx_out (fun x hx => (hno x hx).elim) B.notSynchronized h1 h2 h3 (fun t ht _ => ⟨I, hq, by rw [ht]; exact hP1, hS1.F ht⟩) hS1.2.2 (Nat.le_trans hc1 hm.1) (Nat.le_trans hs1 hm.2)
  have hret : mRetOK p l e (mRm rm) s m args below meth c (vx_MQ below (mQc D cA ρ fl Q) (mXc D cA ρ fl Q) args s rm.2.2.1 rm.2.2.2 (mA ρ fl)) nL D cA ρ fl acc acs cc rt rm Q := by
    intro pc a lv st I h hm hd
    match a with
    | 0 =>
      simp only [Bool.and_eq_true, decide_eq_true_eq] at hd
      exact so_ret_void F hm (by rw [B.returns]; exact hd.2) B.notSynchronized (mDc_of hd.1) h
    | 1 =>
      simp only [Bool.and_eq_true, decide_eq_true_eq] at hd
      exact so_ret_int F hm (by rw [B.returns]; exact hd.2) B.notSynchronized (mDc_of hd.1) h
    | 2 =>
      simp only [Bool.and_eq_true, decide_eq_true_eq] at hd
      exact so_ret_long F hm (by rw [B.returns]; exact hd.2) B.notSynchronized (mDc_of hd.1) h
    | 3 =>
      have hd := (Bool.and_eq_true _ _).mp hd
      match rt, hd.2, B with
      | some (.object n), _, B => exact so_ret_ref F hm B.returns (Or.inl ⟨n, rfl⟩) B.notSynchronized (mDc_of hd.1) h
      | some (.array t), _, B => exact so_ret_ref F hm B.returns (Or.inr ⟨t, rfl⟩) B.notSynchronized (mDc_of hd.1) h
    | 4 =>
      simp only [Bool.and_eq_true, decide_eq_true_eq] at hd
      exact so_ret_bool F hm (by rw [B.returns]; exact hd.2) B.notSynchronized (mDc_of hd.1) h
    | _ + 5 => exact absurd hd (by simp)
  have hthr : mThrOK p l e (mRm rm) s m args below meth c (vx_MQ below (mQc D cA ρ fl Q) (mXc D cA ρ fl Q) args s rm.2.2.1 rm.2.2.2 (mA ρ fl)) nL D cA ρ fl acc acs cc yc T rt rm (fun E _ I => Q (.inr E) I) := by
    intro pc a b c0 x ts lv st I h hq
    simp only [mChk, Bool.and_eq_true, List.any_eq_true, decide_eq_true_eq] at hq
    obtain ⟨⟨⟨⟨⟨⟨⟨⟨⟨e1, ha, e2⟩, w1⟩, w2⟩, ⟨o1, i1, t1, d1⟩, hmS, e3, e4⟩, hm⟩, hRf⟩, dd0⟩, dd3⟩, hz⟩ := hq
    dsimp only at e3 e4
    subst e3; subst e4; subst e1
    have hgw : ∀ w ∈ (mAt a).filter goodWord, w ∈ mBW := fun w hw => List.mem_filter.mpr ⟨of_decide_eq_true (List.all_eq_true.mp (mThr1 a ha) w hw), (List.mem_filter.mp hw).2⟩
    have hbw : ∀ w ∈ (mAt a).filter (fun w => !goodWord w), w ∈ mNG ∧ w.onTables = true := fun w hw => by
      have h9 := List.all_eq_true.mp (mThr2 a ha) w hw
      simp only [Bool.and_eq_true, decide_eq_true_eq] at h9
      exact h9
    have hot : ∀ w, w ∈ mBW → vx_ot w = true := fun w hw => by
      unfold vx_ot
      rw [(List.mem_filter.mp hw).2, Bool.or_true]
    have hgood : ∀ w ∈ Cond.classLink RX10 b (mEx a) :: Cond.initialized (mEx a) :: mAt a, vx_ot w = true := by
      intro w hw
      rcases List.mem_cons.mp hw with rfl | hw
      · exact hot _ (mB_in w1)
      · rcases List.mem_cons.mp hw with rfl | hw
        · exact hot _ (mB_in w2)
        · exact List.all_eq_true.mp (mThr3 a ha) w hw
    obtain ⟨hst0, h⟩ := h
    subst hst0
    have hlk := B.notSynchronized
    match hw : ts.getD 1 0 with
    | 0 =>
      rw [hw] at hz
      simp only [Bool.and_eq_true, decide_eq_true_eq] at hz
      obtain ⟨⟨⟨z0, z1⟩, z2⟩, z3⟩ := hz
      match a, ha, z0 with
      | 1, ha, _ => exact so_throw F hst hm ⟨Nat.le_refl _, Nat.le_refl _⟩ hRf hlk hno (mThr4 1 ha) (mB_in w1) (mB_in w2) hmS hgw hbw hgood (mDc_of dd0) (mDc_of dd3) (mDc_of z1) (mDc_of z2) (mDc_of z3) h
      | 2, ha, _ => exact so_throw F hst hm ⟨Nat.le_refl _, Nat.le_refl _⟩ hRf hlk hno (mThr4 2 ha) (mB_in w1) (mB_in w2) hmS hgw hbw hgood (mDc_of dd0) (mDc_of dd3) (mDc_of z1) (mDc_of z2) (mDc_of z3) h
      | 3, ha, _ => exact so_throw F hst hm ⟨Nat.le_refl _, Nat.le_refl _⟩ hRf hlk hno (mThr4 3 ha) (mB_in w1) (mB_in w2) hmS hgw hbw hgood (mDc_of dd0) (mDc_of dd3) (mDc_of z1) (mDc_of z2) (mDc_of z3) h
      | 0, _, z0 => exact absurd rfl z0
    | n + 1 =>
      rw [hw] at hz
      simp only [Bool.and_eq_true] at hz
      obtain ⟨⟨z1, z2⟩, z3⟩ := hz
      match a, ha with
      | 0, ha => exact so_throwN F hst hm ⟨Nat.le_refl _, Nat.le_refl _⟩ hRf hlk hno (mThr4 0 ha) (mB_in w1) (mB_in w2) hmS hgw hbw hgood (mDc_of dd0) (mDc_of dd3) (mDc_of z1) (mDc_of z2) (mDc_of z3) h
      | 1, ha => exact so_throwW F hst hm ⟨Nat.le_refl _, Nat.le_refl _⟩ hRf hlk hno (mThr4 1 ha) (mB_in w1) (mB_in w2) hmS hgw hbw hgood (mDc_of dd0) (mDc_of dd3) (mDc_of z1) (mDc_of z2) (mDc_of z3) h
      | 2, ha => exact so_throwW F hst hm ⟨Nat.le_refl _, Nat.le_refl _⟩ hRf hlk hno (mThr4 2 ha) (mB_in w1) (mB_in w2) hmS hgw hbw hgood (mDc_of dd0) (mDc_of dd3) (mDc_of z1) (mDc_of z2) (mDc_of z3) h
      | 3, ha => exact so_throwW F hst hm ⟨Nat.le_refl _, Nat.le_refl _⟩ hRf hlk hno (mThr4 3 ha) (mB_in w1) (mB_in w2) hmS hgw hbw hgood (mDc_of dd0) (mDc_of dd3) (mDc_of z1) (mDc_of z2) (mDc_of z3) h
  have hloop : ∀ n t bs, cuts t = some bs → ∀ lv st I, C n t lv st I → mAW p l e (mRm rm) s m args below meth c (vx_MQ below (mQc D cA ρ fl Q) (mXc D cA ρ fl Q) args s rm.2.2.1 rm.2.2.2 (mA ρ fl)) nL D cA ρ fl acc acs t lv st I := by
    intro n
    induction n using Nat.strongRecOn with
    | _ n ih =>
      intro t bs hbs lv st I hc
      obtain ⟨st', hse, h1⟩ := hbody n t bs hbs lv st I hc
      have hg := mGo_ok (X := fun E _ I => Q (.inr E) I) F rfl hC hT hX hret hthr hP (cuts := cuts) (C := fun t lv st I => ∃ n', n' < n ∧ C n' t lv st I) (fun t2 bs2 hbs2 lv2 st2 I2 ⟨n', hn, hc2⟩ => by
        intro H locs ls cells slots q1 q2 q3 q4 q5 q6
        exact ih n' hn t2 bs2 hbs2 _ _ _ hc2 H locs ls cells slots q1 q2 q3 q4 q5 (q6.mask (hcl t2 bs2 hbs2)))
      obtain ⟨q, r, e1, hw⟩ := mWp_ok (X := fun E _ I => Q (.inr E) I) F rfl hC hT hX hret hthr (hg 60) (mSfx t P) (mSfx_ok hP).1 lv st' I h1
      rw [(mSfx_ok hP).2 q r e1] at hw
      intro H locs ls cells slots q1 q2 q3 q4 q5 q6
      rw [← hse ρ]
      exact hw H locs ls cells slots q1 q2 q3 q4 q5 q6
  have hg := mGo_ok (X := fun E _ I => Q (.inr E) I) F rfl hC hT hX hret hthr hP (cuts := cuts) (C := fun t lv st I => ∃ n, C n t lv st I) (fun t2 bs2 hbs2 lv2 st2 I2 ⟨n', hc2⟩ => by
    intro H locs ls cells slots q1 q2 q3 q4 q5 q6
    exact hloop n' t2 bs2 hbs2 _ _ _ hc2 H locs ls cells slots q1 q2 q3 q4 q5 (q6.mask (hcl t2 bs2 hbs2)))
  obtain ⟨q, r, e1, hw⟩ := mWp_ok (X := fun E _ I => Q (.inr E) I) F rfl hC hT hX hret hthr (hg 60) P hP _ _ _ hent
  obtain ⟨q', r', e2, h00⟩ := h0
  rw [e1] at e2
  cases e2
  rw [h00] at hw
  have hfin := hw s.heap [] _ 0 0 (Nat.zero_le _) (Nat.zero_le _) hPP hD va_S.rf (mArgs_loc hlen)
  subst hargs
  rw [lg_entry_eq]
  exact hfin
end SPCUT
