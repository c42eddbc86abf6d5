section MMETHOD
/-- the rows from place t on -/
def mSfx (t : Nat) : List mIn → List mIn
  | [] => []
  | q :: r => if q.1 = t ∧ q.2.1 ≠ 43 then q :: r else mSfx t r
/-- what a jump to t asks: at a cut its predicate, else what the rows there ask -/
def mGo (S : Nat → mSp) (Q : mO → mM → Prop) (X : String → mLv → mM → Prop) (fl : Nat → Bool) (ro : mRo) (P : List mIn) (cuts : Nat → Option (List Bool)) (C : Nat → mK) : Nat → Nat → mK
  | 0, _ => fun _ _ _ => False
  | n + 1, t => fun lv st I => match cuts t with
    | some bs => C t (mMask bs lv) st I
    | none => mWp S (mGo S Q X fl ro P cuts C n) Q X fl ro (mSfx t P) lv st I
def mCon : List mIn → Bool
  | q :: q' :: r => (!(mFt q) || q'.1 == q.1 + mLn q) && mCon (q' :: r)
  | _ => true
def mOK (pm : mPm) (P : List mIn) : Bool := P.all (fun q => mChk pm q && mAc pm q) && mCon P
theorem mCon_tl {q : mIn} {r : List mIn} (h : mCon (q :: r) = true) : mCon r = true := by
  cases r with
  | nil => rfl
  | cons q' r =>
    simp only [mCon, Bool.and_eq_true] at h
    exact h.2
theorem mOK_tl {pm : mPm} {q : mIn} {r : List mIn} (h : mOK pm (q :: r) = true) : mOK pm r = true := by
  simp only [mOK, List.all_cons, Bool.and_eq_true] at h ⊢
  exact ⟨h.1.2, mCon_tl h.2⟩
theorem mSfx_ok {pm : mPm} {t : Nat} : ∀ {P : List mIn}, mOK pm P = true → mOK pm (mSfx t P) = true ∧ ∀ q r, mSfx t P = q :: r → q.1 = t
  | [], h => ⟨h, fun _ _ h => by cases h⟩
  | q :: r, h => by
    unfold mSfx
    by_cases hq : q.1 = t ∧ q.2.1 ≠ 43
    · rw [if_pos hq]
      exact ⟨h, fun q' r' e => by cases e; exact hq.1⟩
    · rw [if_neg hq]
      exact mSfx_ok (mOK_tl h)
def mArgs (nL : Nat) (avs : List mV) : mLv :=
  let l := avs.flatMap (fun v => if mKd v = 1 then [some v, none] else [some v])
  l ++ List.replicate (nL - l.length) none
theorem mArgs_at {ρ : Nat → Nat} : ∀ (avs : List mV) (k i : Nat) (w : mV), (avs.flatMap (fun v => if mKd v = 1 then [some v, none] else [some v]))[i]? = some (some w) → (k + i, mc ρ w) ∈ lv_args k (avs.map (mc ρ))
  | [], k, i, w, h => by simp at h
  | v :: avs, k, i, w, h => by
    rw [List.flatMap_cons] at h
    rw [List.map_cons]
    unfold lv_args
    by_cases hv : mKd v = 1
    · rw [if_pos hv] at h
      have hcat : (mc ρ v).category = 2 := by rw [mc_cat]; unfold mCatV; rw [if_pos hv]
      rw [hcat]
      match i, h with
      | 0, h =>
        simp only [List.cons_append, List.getElem?_cons_zero, Option.some.injEq] at h
        subst h
        exact List.mem_cons_self
      | 1, h => simp at h
      | i + 2, h =>
        simp only [List.cons_append, List.nil_append, List.getElem?_cons_succ] at h
        have h2 := mArgs_at (ρ := ρ) avs (k + 2) i w h
        rw [show k + (i + 2) = k + 2 + i by omega]
        exact List.mem_cons_of_mem _ h2
    · rw [if_neg hv] at h
      have hcat : (mc ρ v).category = 1 := by rw [mc_cat]; unfold mCatV; rw [if_neg hv]
      rw [hcat]
      match i, h with
      | 0, h =>
        simp only [List.cons_append, List.getElem?_cons_zero, Option.some.injEq] at h
        subst h
        exact List.mem_cons_self
      | i + 1, h =>
        simp only [List.cons_append, List.nil_append, List.getElem?_cons_succ] at h
        have h2 := mArgs_at (ρ := ρ) avs (k + 1) i w h
        rw [show k + (i + 1) = k + 1 + i by omega]
        exact List.mem_cons_of_mem _ h2
theorem mArgs_len {ρ : Nat → Nat} (avs : List mV) : (lg_sl (avs.map (mc ρ))).length = (avs.flatMap (fun v => if mKd v = 1 then [some v, none] else [some v])).length := by
  induction avs with
  | nil => rfl
  | cons v avs ih =>
    unfold lg_sl at ih ⊢
    rw [List.map_cons, List.flatMap_cons, List.flatMap_cons, List.length_append, List.length_append, ih]
    congr 1
    rw [mc_cat]
    unfold mCatV
    by_cases hv : mKd v = 1
    · rw [if_pos hv, if_pos hv, if_pos rfl]; rfl
    · rw [if_neg hv, if_neg hv, if_neg (by decide)]; rfl
theorem mArgs_loc {ρ : Nat → Nat} {nL : Nat} {avs : List mV} (h : (mArgs nL avs).length = nL) : mLoc ρ ((lg_sl (avs.map (mc ρ)) ++ List.replicate (nL - (lg_sl (avs.map (mc ρ))).length) Slot.unset).toArray) nL (mArgs nL avs) := by
  have hle : (avs.flatMap (fun v => if mKd v = 1 then [some v, none] else [some v])).length ≤ nL := by
    unfold mArgs at h
    dsimp only at h
    rw [List.length_append] at h
    omega
  have he := lv_entry (avs.map (mc ρ)) (n := nL) (by rw [mArgs_len]; exact hle)
  refine ⟨h, he.1, he.2.1, fun i w hi => ?_⟩
  unfold mArgs at hi
  dsimp only at hi
  rcases Nat.lt_or_ge i (avs.flatMap (fun v => if mKd v = 1 then [some v, none] else [some v])).length with hlt | hge
  · rw [List.getElem?_append_left hlt] at hi
    have := mArgs_at (ρ := ρ) avs 0 i w hi
    rw [Nat.zero_add] at this
    exact he.2.2 _ this
  · rw [List.getElem?_append_right hge, List.getElem?_replicate] at hi
    split at hi <;> cases hi
theorem mRo0_at {ρ : Nat → Nat} {fl : Nat → Bool} {U : State} {H : Heap} (h : mEnv ρ fl U H) : ∀ i n f, mRo0 i = some (n, f) → mRoAt (ρ i) n f (mA ρ fl) U H := by
  intro i n f hi
  obtain ⟨-, ⟨-, ⟨cx, x1, x2, x3, x4, x5, x6, x7⟩, -, ⟨cy, y1, y2, y3, y4, y5, y6, y7⟩⟩, -⟩ := h
  unfold mRo0 at hi
  by_cases h0 : i = 240
  · rw [if_pos h0] at hi
    subst h0
    cases hi
    exact ⟨cx, x1, x2, x3, x4, x5, fun j hj => by rw [x6 j hj]; rfl, x7, by decide⟩
  · rw [if_neg h0] at hi
    by_cases h1 : i = 241
    · rw [if_pos h1] at hi
      subst h1
      cases hi
      exact ⟨cy, y1, y2, y3, y4, y5, fun j hj => by rw [y6 j hj]; rfl, y7, by decide⟩
    · rw [if_neg h1] at hi; cases hi
section SO
variable {p : Program} {l : Launch} {e : Env} {R : Room} {s : State} {m : MethodId} {args : Array Value} {below : List Frame} {meth : Method} {c : Code} {nL : Nat} {D : va_G} {cA : Nat → ClassId} {ρ : Nat → Nat} {fl : Nat → Bool} {acc acs : Nat → Nat} {cc : ByteArray} {own : String} {ro : mRo} {T : Nat → mCal} {rt : Option FieldType} {rm : Nat × Nat × Nat × Nat} {Qs : State → Prop} {S : Nat → mSp} {Q : mO → mM → Prop} {X : String → mLv → mM → Prop}
abbrev mRetOK (p : Program) (l : Launch) (e : Env) (R : Room) (s : State) (m : MethodId) (args : Array Value) (below : List Frame) (meth : Method) (c : Code) (Qs : State → Prop) (nL : Nat) (D : va_G) (cA : Nat → ClassId) (ρ : Nat → Nat) (fl : Nat → Bool) (acc acs : Nat → Nat) (cc : ByteArray) (rt : Option FieldType) (rm : Nat × Nat × Nat × Nat) (Q : mO → mM → Prop) : Prop :=
  ∀ pc a lv st I, w_ret a Q lv st I → acc pc ≤ rm.2.2.1 ∧ acs pc ≤ rm.2.2.2 → (match a with
        | 0 => mDc cc pc .return_ 1 && decide (rt = none)
        | 1 => mDc cc pc .ireturn 1 && decide (rt = some .int)
        | 2 => mDc cc pc .lreturn 1 && decide (rt = some .long)
        | 3 => mDc cc pc .areturn 1 && (match rt with
          | some (.object _) => true
          | some (.array _) => true
          | _ => false)
        | 4 => mDc cc pc .ireturn 1 && decide (rt = some .boolean)
        | _ => false) = true → mAW p l e R s m args below meth c Qs nL D cA ρ fl acc acs pc lv st I
abbrev mThrOK (p : Program) (l : Launch) (e : Env) (R : Room) (s : State) (m : MethodId) (args : Array Value) (below : List Frame) (meth : Method) (c : Code) (Qs : State → Prop) (nL : Nat) (D : va_G) (cA : Nat → ClassId) (ρ : Nat → Nat) (fl : Nat → Bool) (acc acs : Nat → Nat) (cc : ByteArray) (own : String) (T : Nat → mCal) (rt : Option FieldType) (rm : Nat × Nat × Nat × Nat) (X : String → mLv → mM → Prop) : Prop :=
  ∀ (pc a b c0 : Nat) (x : Int) (ts : List Nat) lv st I, (st = [] ∧ X (mEx a) lv I) → mChk (own, cc, T, rt, rm, nL, acc, acs) (pc, 35, x, a, b, c0, ts) = true → mAW p l e R s m args below meth c Qs nL D cA ρ fl acc acs pc lv st I
theorem mWp_ok (F : mFx p s m args c cc nL own D cA ρ fl ro) (hR : R = mRm rm) (hC : ∀ a, mCtr l (T a) (S a)) (hT : mTxM l)
    (hX : ∀ pc E lv I, acc (pc + 3) ≤ rm.2.2.1 ∧ acs (pc + 3) ≤ rm.2.2.2 → X E lv I → mXW p l e R s m args below meth c Qs nL D cA ρ fl acc acs pc E lv I)
    (hret : mRetOK p l e R s m args below meth c Qs nL D cA ρ fl acc acs cc rt rm Q) (hthr : mThrOK p l e R s m args below meth c Qs nL D cA ρ fl acc acs cc own T rt rm X) {J : Nat → mK}
    (hJ : ∀ t lv st I, J t lv st I → mAW p l e R s m args below meth c Qs nL D cA ρ fl acc acs t lv st I) :
    ∀ (P : List mIn), mOK (own, cc, T, rt, rm, nL, acc, acs) P = true → ∀ lv st I, mWp S J Q X fl ro P lv st I → ∃ q r, P = q :: r ∧ mAW p l e R s m args below meth c Qs nL D cA ρ fl acc acs q.1 lv st I
  | [], _, _, _, _, h => absurd h id
  | q :: r, hok, lv, st, I, h => by
    refine ⟨q, r, rfl, ?_⟩
    have hok0 := hok
    simp only [mOK, List.all_cons, Bool.and_eq_true] at hok0
    refine mStep_ok F hR trivial (fun hf lv st I hr => ?_) (fun t _ => hJ t) (fun E lv I ha => hX _ E lv I ha) hC hT hret hthr hok0.1.1.1 hok0.1.1.2 h
    obtain ⟨q', r', e1, hw⟩ := mWp_ok F hR hC hT hX hret hthr hJ r (mOK_tl hok) lv st I hr
    subst e1
    have h2 := hok0.2
    simp only [mCon, hf, Bool.not_true, Bool.false_or, Bool.and_eq_true, beq_iff_eq] at h2
    rw [← h2.1]
    exact hw
theorem mGo_ok (F : mFx p s m args c cc nL own D cA ρ fl ro) (hR : R = mRm rm) (hC : ∀ a, mCtr l (T a) (S a)) (hT : mTxM l)
    (hX : ∀ pc E lv I, acc (pc + 3) ≤ rm.2.2.1 ∧ acs (pc + 3) ≤ rm.2.2.2 → X E lv I → mXW p l e R s m args below meth c Qs nL D cA ρ fl acc acs pc E lv I)
    (hret : mRetOK p l e R s m args below meth c Qs nL D cA ρ fl acc acs cc rt rm Q) (hthr : mThrOK p l e R s m args below meth c Qs nL D cA ρ fl acc acs cc own T rt rm X)
    {P : List mIn} (hP : mOK (own, cc, T, rt, rm, nL, acc, acs) P = true) {cuts : Nat → Option (List Bool)} {C : Nat → mK}
    (hcut : ∀ t bs, cuts t = some bs → ∀ lv st I, C t (mMask bs lv) st I → mAW p l e R s m args below meth c Qs nL D cA ρ fl acc acs t lv st I) :
    ∀ n t lv st I, mGo S Q X fl ro P cuts C n t lv st I → mAW p l e R s m args below meth c Qs nL D cA ρ fl acc acs t lv st I
  | 0, _, _, _, _, h => absurd h id
  | n + 1, t, lv, st, I, h => by
    unfold mGo at h
    cases hc : cuts t with
    | some bs =>
      rw [hc] at h
      exact hcut t bs hc lv st I h
    | none =>
      rw [hc] at h
      obtain ⟨q, r, e1, hw⟩ := mWp_ok F hR hC hT hX hret hthr (mGo_ok F hR hC hT hX hret hthr hP hcut n) (mSfx t P) (mSfx_ok hP).1 lv st I h
      rw [(mSfx_ok hP).2 q r e1] at hw
      exact hw
end SO
/-- what is owed of a method: at each cut, with a measure that falls, and at its entry -/
def mVC (S : Nat → mSp) (fl : Nat → Bool) (Q : mO → mM → Prop) (P : List mIn) (cuts : Nat → Option (List Bool)) (nL : Nat) (avs : List mV) (I : mM) : Prop :=
  (mArgs nL avs).length = nL ∧ ∃ C : Nat → Nat → mK,
    (∀ n t bs, cuts t = some bs → ∀ lv st I, C n t lv st I → mWp S (mGo S Q (fun E _ I => Q (.inr E) I) fl mRo0 P cuts (fun t lv st I => ∃ n', n' < n ∧ C n' t lv st I) 60) Q (fun E _ I => Q (.inr E) I) fl mRo0 (mSfx t P) lv st I) ∧
    mWp S (mGo S Q (fun E _ I => Q (.inr E) I) fl mRo0 P cuts (fun t lv st I => ∃ n, C n t lv st I) 60) Q (fun E _ I => Q (.inr E) I) fl mRo0 P (mArgs nL avs) [] I
theorem mMet {l : Launch} (hst : l.stackTraces = false) (hT : mTxM l) {y : MethodName} {cc : ByteArray} {nL : Nat} {rt : Option FieldType} {rm : Nat × Nat × Nat × Nat} {T : Nat → mCal} {S : Nat → mSp} {acc acs : Nat → Nat} {P : List mIn} {sp : mSp} (cuts : Nat → Option (List Bool))
    (hy : plainName y.cls = true) (hP : mOK (y.cls, cc, T, rt, rm, nL, acc, acs) P = true) (h0 : ∃ q r, P = q :: r ∧ q.1 = 0) (ha0 : True) (hcl : ∀ t bs, cuts t = some bs → bs.length = nL)
    (hC : ∀ a, mCtr l (T a) (S a)) (hb : ∀ fl avs I Q, sp fl avs I Q → mVC S fl Q P cuts nL avs I) : mCtr l (y, cc, nL, rt, rm) sp := by
  intro D cA ρ fl avs I Q hsp
  obtain ⟨hlen, C, hbody, hent⟩ := hb fl avs I Q hsp
  obtain ⟨yc, yn, yd⟩ := y
  dsimp only at hy hP
  refine vx_ofW hy rfl ?_
  intro p e s m args below meth c s₁ B hml hno hPc
  obtain ⟨hargs, hK, hPP, hD, hE⟩ := hPc
  have hts : ∀ w ∈ mBW, w.before args s = true := fun w hw => atoms_spec (ws := mWd ((⟨yc, yn, yd⟩ : MethodName), cc, nL, rt, rm)) B.pre w (List.mem_cons_of_mem _ hw)
  have F : mFx p s m args c cc nL yc D cA ρ fl mRo0 := ⟨B.exec, B.bytes, hml, findClass_of_methodNamed B.named, hts, hK, hE, mRo0_at hE⟩
  have hX : ∀ pc E (lv : mLv) I, acc (pc + 3) ≤ rm.2.2.1 ∧ acs (pc + 3) ≤ rm.2.2.2 → Q (.inr E) I → mXW p l e (mRm rm) s m args below meth c (vx_MQ below (mQc D cA ρ fl Q) (mXc D cA ρ fl Q) args s rm.2.2.1 rm.2.2.2 (mA ρ fl)) nL D cA ρ fl acc acs pc E lv I := by
    intro pc E lv I hm hq H locs ls cells slots rest ce q9 hc1 hs1 hP1 hD1 hS1 hl1 h1 h2 h3
    exact vx_out (fun x hx => (hno x hx).elim) B.notSynchronized h1 h2 h3 (fun t ht _ => ⟨I, hq, by rw [ht]; exact hP1, hS1.F ht⟩) hS1.2.2 (Nat.le_trans hc1 hm.1) (Nat.le_trans hs1 hm.2)
  have hret : mRetOK p l e (mRm rm) s m args below meth c (vx_MQ below (mQc D cA ρ fl Q) (mXc D cA ρ fl Q) args s rm.2.2.1 rm.2.2.2 (mA ρ fl)) nL D cA ρ fl acc acs cc rt rm Q := by
    intro pc a lv st I h hm hd
    match a with
    | 0 =>
      simp only [Bool.and_eq_true, decide_eq_true_eq] at hd
      exact so_ret_void F hm (by rw [B.returns]; exact hd.2) B.notSynchronized (mDc_of hd.1) h
    | 1 =>
      simp only [Bool.and_eq_true, decide_eq_true_eq] at hd
      exact so_ret_int F hm (by rw [B.returns]; exact hd.2) B.notSynchronized (mDc_of hd.1) h
    | 2 =>
      simp only [Bool.and_eq_true, decide_eq_true_eq] at hd
      exact so_ret_long F hm (by rw [B.returns]; exact hd.2) B.notSynchronized (mDc_of hd.1) h
    | 3 =>
      have hd := (Bool.and_eq_true _ _).mp hd
      match rt, hd.2, B with
      | some (.object n), _, B => exact so_ret_ref F hm B.returns (Or.inl ⟨n, rfl⟩) B.notSynchronized (mDc_of hd.1) h
      | some (.array t), _, B => exact so_ret_ref F hm B.returns (Or.inr ⟨t, rfl⟩) B.notSynchronized (mDc_of hd.1) h
    | 4 =>
      simp only [Bool.and_eq_true, decide_eq_true_eq] at hd
      exact so_ret_bool F hm (by rw [B.returns]; exact hd.2) B.notSynchronized (mDc_of hd.1) h
    | _ + 5 => exact absurd hd (by simp)
  have hthr : mThrOK p l e (mRm rm) s m args below meth c (vx_MQ below (mQc D cA ρ fl Q) (mXc D cA ρ fl Q) args s rm.2.2.1 rm.2.2.2 (mA ρ fl)) nL D cA ρ fl acc acs cc yc T rt rm (fun E _ I => Q (.inr E) I) := by
    intro pc a b c0 x ts lv st I h hq
    simp only [mChk, Bool.and_eq_true, List.any_eq_true, decide_eq_true_eq] at hq
    obtain ⟨⟨⟨⟨⟨⟨⟨⟨⟨e1, ha, e2⟩, w1⟩, w2⟩, ⟨o1, i1, t1, d1⟩, hmS, e3, e4⟩, hm⟩, hRf⟩, dd0⟩, dd3⟩, hz⟩ := hq
    dsimp only at e3 e4
    subst e3; subst e4; subst e1
    have hgw : ∀ w ∈ (mAt a).filter goodWord, w ∈ mBW := fun w hw => List.mem_filter.mpr ⟨of_decide_eq_true (List.all_eq_true.mp (mThr1 a ha) w hw), (List.mem_filter.mp hw).2⟩
    have hbw : ∀ w ∈ (mAt a).filter (fun w => !goodWord w), w ∈ mNG ∧ w.onTables = true := fun w hw => by
      have h9 := List.all_eq_true.mp (mThr2 a ha) w hw
      simp only [Bool.and_eq_true, decide_eq_true_eq] at h9
      exact h9
    have hot : ∀ w, w ∈ mBW → vx_ot w = true := fun w hw => by
      unfold vx_ot
      rw [(List.mem_filter.mp hw).2, Bool.or_true]
    have hgood : ∀ w ∈ Cond.classLink RX10 b (mEx a) :: Cond.initialized (mEx a) :: mAt a, vx_ot w = true := by
      intro w hw
      rcases List.mem_cons.mp hw with rfl | hw
      · exact hot _ (mB_in w1)
      · rcases List.mem_cons.mp hw with rfl | hw
        · exact hot _ (mB_in w2)
        · exact List.all_eq_true.mp (mThr3 a ha) w hw
    obtain ⟨hst0, h⟩ := h
    subst hst0
    have hlk := B.notSynchronized
    match hw : ts.getD 1 0 with
    | 0 =>
      rw [hw] at hz
      simp only [Bool.and_eq_true, decide_eq_true_eq] at hz
      obtain ⟨⟨⟨z0, z1⟩, z2⟩, z3⟩ := hz
      match a, ha, z0 with
      | 1, ha, _ => exact so_throw F hst hm ⟨Nat.le_refl _, Nat.le_refl _⟩ hRf hlk hno (mThr4 1 ha) (mB_in w1) (mB_in w2) hmS hgw hbw hgood (mDc_of dd0) (mDc_of dd3) (mDc_of z1) (mDc_of z2) (mDc_of z3) h
      | 2, ha, _ => exact so_throw F hst hm ⟨Nat.le_refl _, Nat.le_refl _⟩ hRf hlk hno (mThr4 2 ha) (mB_in w1) (mB_in w2) hmS hgw hbw hgood (mDc_of dd0) (mDc_of dd3) (mDc_of z1) (mDc_of z2) (mDc_of z3) h
      | 3, ha, _ => exact so_throw F hst hm ⟨Nat.le_refl _, Nat.le_refl _⟩ hRf hlk hno (mThr4 3 ha) (mB_in w1) (mB_in w2) hmS hgw hbw hgood (mDc_of dd0) (mDc_of dd3) (mDc_of z1) (mDc_of z2) (mDc_of z3) h
      | 0, _, z0 => exact absurd rfl z0
    | n + 1 =>
      rw [hw] at hz
      simp only [Bool.and_eq_true] at hz
      obtain ⟨⟨z1, z2⟩, z3⟩ := hz
      match a, ha with
      | 0, ha => exact so_throwN F hst hm ⟨Nat.le_refl _, Nat.le_refl _⟩ hRf hlk hno (mThr4 0 ha) (mB_in w1) (mB_in w2) hmS hgw hbw hgood (mDc_of dd0) (mDc_of dd3) (mDc_of z1) (mDc_of z2) (mDc_of z3) h
      | 1, ha => exact so_throwW F hst hm ⟨Nat.le_refl _, Nat.le_refl _⟩ hRf hlk hno (mThr4 1 ha) (mB_in w1) (mB_in w2) hmS hgw hbw hgood (mDc_of dd0) (mDc_of dd3) (mDc_of z1) (mDc_of z2) (mDc_of z3) h
      | 2, ha => exact so_throwW F hst hm ⟨Nat.le_refl _, Nat.le_refl _⟩ hRf hlk hno (mThr4 2 ha) (mB_in w1) (mB_in w2) hmS hgw hbw hgood (mDc_of dd0) (mDc_of dd3) (mDc_of z1) (mDc_of z2) (mDc_of z3) h
      | 3, ha => exact so_throwW F hst hm ⟨Nat.le_refl _, Nat.le_refl _⟩ hRf hlk hno (mThr4 3 ha) (mB_in w1) (mB_in w2) hmS hgw hbw hgood (mDc_of dd0) (mDc_of dd3) (mDc_of z1) (mDc_of z2) (mDc_of z3) h
  have hloop : ∀ n t bs, cuts t = some bs → ∀ lv st I, C n t lv st I → mAW p l e (mRm rm) s m args below meth c (vx_MQ below (mQc D cA ρ fl Q) (mXc D cA ρ fl Q) args s rm.2.2.1 rm.2.2.2 (mA ρ fl)) nL D cA ρ fl acc acs t lv st I := by
    intro n
    induction n using Nat.strongRecOn with
    | _ n ih =>
      intro t bs hbs lv st I hc
      have h1 := hbody n t bs hbs lv st I hc
      have hg := mGo_ok (X := fun E _ I => Q (.inr E) I) F rfl hC hT hX hret hthr hP (cuts := cuts) (C := fun t lv st I => ∃ n', n' < n ∧ C n' t lv st I) (fun t2 bs2 hbs2 lv2 st2 I2 ⟨n', hn, hc2⟩ => by
        intro H locs ls cells slots q1 q2 q3 q4 q5 q6
        exact ih n' hn t2 bs2 hbs2 _ _ _ hc2 H locs ls cells slots q1 q2 q3 q4 q5 (q6.mask (hcl t2 bs2 hbs2)))
      obtain ⟨q, r, e1, hw⟩ := mWp_ok (X := fun E _ I => Q (.inr E) I) F rfl hC hT hX hret hthr (hg 60) (mSfx t P) (mSfx_ok hP).1 lv st I h1
      rw [(mSfx_ok hP).2 q r e1] at hw
      exact hw
  have hg := mGo_ok (X := fun E _ I => Q (.inr E) I) F rfl hC hT hX hret hthr hP (cuts := cuts) (C := fun t lv st I => ∃ n, C n t lv st I) (fun t2 bs2 hbs2 lv2 st2 I2 ⟨n', hc2⟩ => by
    intro H locs ls cells slots q1 q2 q3 q4 q5 q6
    exact hloop n' t2 bs2 hbs2 _ _ _ hc2 H locs ls cells slots q1 q2 q3 q4 q5 (q6.mask (hcl t2 bs2 hbs2)))
  obtain ⟨q, r, e1, hw⟩ := mWp_ok (X := fun E _ I => Q (.inr E) I) F rfl hC hT hX hret hthr (hg 60) P hP _ _ _ hent
  obtain ⟨q', r', e2, h00⟩ := h0
  rw [e1] at e2
  cases e2
  rw [h00] at hw
  have hfin := hw s.heap [] _ 0 0 (Nat.zero_le _) (Nat.zero_le _) hPP hD va_S.rf (mArgs_loc hlen)
  subst hargs
  rw [lg_entry_eq]
  exact hfin
end MMETHOD
