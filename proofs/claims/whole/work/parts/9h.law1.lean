section LAW1
/-- weaker behind -/
def mUp (sp : mSp) : mSp := fun fl avs I Q => ∃ Q0 : mO → mM → Prop, sp fl avs I Q0 ∧ ∀ o I', Q0 o I' → Q o I'
theorem mCtr_up {l : Launch} {t : mCal} {sp : mSp} (h : mCtr l t sp) : mCtr l t (mUp sp) := by
  intro D cA ρ fl avs I Q ⟨Q0, h0, hQ⟩
  refine MetFree.mono (h D cA ρ fl avs I Q0 h0) (fun _ _ z => z) (fun _ _ _ _ _ z => z) (fun a s o s' _ z => ?_)
  rcases z with ⟨⟨⟨ov, I', e1, e2, e3⟩, e4⟩, e5⟩ | ⟨q, e1, E, ce, L, ⟨I', x1, x2, x3⟩, e3⟩
  · exact Or.inl ⟨⟨⟨ov, I', e1, hQ _ _ e2, e3⟩, e4⟩, e5⟩
  · exact Or.inr ⟨q, e1, E, ce, L, ⟨I', hQ _ _ x1, x2, x3⟩, e3⟩
/-- the thrown classes are no other's kin -/
def mNC (U : State) : Prop := ∀ a b : Nat, a < 4 → b < 4 → a ≠ b → va_Nc (mEx a) (mEx b) U
theorem mNC.to {s U : State} (h : mNC s) (hW : s.vm.Alike U.vm) : mNC U := fun a b ha hb hn => (h a b ha hb hn).moved hW
def mWdH (hh : List (Nat × Nat × Nat × Nat)) (t : mCal) : List Cond := Cond.codeWith t.1 t.2.1 t.2.2.1 t.2.2.2.1 hh :: mBW
def mPcH (D : va_G) (cA : Nat → ClassId) (ρ : Nat → Nat) (fl : Nat → Bool) (avs : List mV) (I : mM) : Array Value → State → Prop := fun v U => mPc D cA ρ fl avs I v U ∧ mNC U
/-- the contract of a method with a table -/
def mCtrH (l : Launch) (hh : List (Nat × Nat × Nat × Nat)) (t : mCal) (sp : mSp) : Prop := ∀ (D : va_G) (cA : Nat → ClassId) (ρ : Nat → Nat) (fl : Nat → Bool) (avs : List mV) (I : mM) (Q : mO → mM → Prop), sp fl avs I Q →
  vx_Met l t.1 (mWdH hh t) (mRm t.2.2.2.2) (mPcH D cA ρ fl avs I) (mQc D cA ρ fl Q) (mXc D cA ρ fl Q) t.2.2.2.2.2.2.1 t.2.2.2.2.2.2.2 (mA ρ fl)
theorem mCtrH_up {l : Launch} {hh : List (Nat × Nat × Nat × Nat)} {t : mCal} {sp : mSp} (h : mCtrH l hh t sp) : mCtrH l hh t (mUp sp) := by
  intro D cA ρ fl avs I Q ⟨Q0, h0, hQ⟩
  refine MetFree.mono (h D cA ρ fl avs I Q0 h0) (fun _ _ z => z) (fun _ _ _ _ _ z => z) (fun a s o s' _ z => ?_)
  rcases z with ⟨⟨⟨ov, I', e1, e2, e3⟩, e4⟩, e5⟩ | ⟨q, e1, E, ce, L, ⟨I', x1, x2, x3⟩, e3⟩
  · exact Or.inl ⟨⟨⟨ov, I', e1, hQ _ _ e2, e3⟩, e4⟩, e5⟩
  · exact Or.inr ⟨q, e1, E, ce, L, ⟨I', hQ _ _ x1, x2, x3⟩, e3⟩
theorem mPcH_blind {D : va_G} {cA : Nat → ClassId} {ρ : Nat → Nat} {fl : Nat → Bool} {avs : List mV} {I : mM} : FrameBlind (mPcH D cA ρ fl avs I) := fun a U g mk h =>
  ⟨mPc_blind a U g mk h.1, h.2.to (Vm.Alike.refl U.vm)⟩
-- rows that need no bounds
/-- two ints that are known to be equal -/
def w_eqI (j : mK) : mK := fun lv st I => match st with
  | .inl y :: .inl x :: s => x = y ∧ j lv s I
  | _ => False
def w_eqL (j : mK) : mK := fun lv st I => match st with
  | .inr (.inl y) :: .inr (.inl x) :: s => x = y ∧ j lv s I
  | _ => False
def wI (x : Int) : Int := (Int32.ofInt x).toInt
def w_i2x (k : mK) : mK := fun lv st I => match st with
  | .inl x :: s => k lv (mL (wI x) :: s) I
  | _ => False
def mStepL (S : Nat → mSp) (J : Nat → mK) (Q : mO → mM → Prop) (X : String → mLv → mM → Prop) (fl : Nat → Bool) (ro : mRo) (q : mIn) (k : mK) : mK :=
  match q.2.1 with
  | 45 => w_eqI (J q.2.2.2.2.1)
  | 46 => w_eqL (J q.2.2.2.2.1)
  | 47 => w_i2x k
  | _ => mStep S J Q X fl ro q k
def mWpL (S : Nat → mSp) (J : Nat → mK) (Q : mO → mM → Prop) (X : String → mLv → mM → Prop) (fl : Nat → Bool) (ro : mRo) : List mIn → mK
  | [] => fun _ _ _ => False
  | q :: r => mStepL S J Q X fl ro q (mWpL S J Q X fl ro r)
def mGoL (S : Nat → mSp) (Q : mO → mM → Prop) (X : String → mLv → mM → Prop) (fl : Nat → Bool) (ro : mRo) (P : List mIn) (cuts : Nat → Option (List Bool)) (C : Nat → mK) : Nat → Nat → mK
  | 0, _ => fun _ _ _ => False
  | n + 1, t => fun lv st I => match cuts t with
    | some bs => C t (mMask bs lv) st I
    | none => mWpL S (mGoL S Q X fl ro P cuts C n) Q X fl ro (mSfx t P) lv st I
def mFtL (q : mIn) : Bool := mFt q && !(q.2.1 == 45 || q.2.1 == 46)
def mConL : List mIn → Bool
  | q :: q' :: r => (!(mFtL q) || q'.1 == q.1 + mLn q) && mConL (q' :: r)
  | _ => true
/-- callees below 100 have tables -/
def mCkH (hh : List (Nat × Nat × Nat × Nat)) (T : Nat → mCal) (rm : Nat × Nat × Nat × Nat) (acc acs : Nat → Nat) (pc a np i : Nat) : Bool :=
  decide ((T a).1.cls ≠ "java/lang/invoke/MethodHandle" ∧ (T a).1.cls ≠ "java/lang/invoke/VarHandle" ∧ (parseMethodDescriptor (T a).1.desc).map (fun d => d.parameters.length) = some np) &&
  mB i (.codeWith (T a).1 (T a).2.1 (T a).2.2.1 (T a).2.2.2.1 hh) && decide ((T a).2.2.2.2.1 + 1 ≤ rm.1 ∧ 8 + ((T a).2.2.1 + 11) + (T a).2.2.2.2.2.1 ≤ rm.2.1) &&
  decide (acc pc + (T a).2.2.2.2.2.2.1 ≤ acc (pc + 3) ∧ acs pc + (T a).2.2.2.2.2.2.2 ≤ acs (pc + 3)) && decide (acc (pc + 3) ≤ rm.2.2.1 ∧ acs (pc + 3) ≤ rm.2.2.2)
def mChkL (hs : Nat → List (Nat × Nat × Nat × Nat)) (pm : mPm) (q : mIn) : Bool := match pm with
  | (own, cc, T, rt, rm, nL, acc, acs) => match q with
    | (pc, op, x, a, b, c, ts) =>
      if op = 45 then mDc cc pc (.if_icmp .eq ((b : Int) - (pc : Int))) 3 && mJp acc acs pc b
      else if op = 46 then mDc cc pc .lcmp 1 && mDc cc (pc + 1) (.ifCond .eq ((b : Int) - ((pc + 1 : Nat) : Int))) 3 && mJp acc acs pc b
      else if op = 47 then mDc cc pc .i2l 1
      else if op = 32 ∧ x = 4 then decide (a < 100) && mDc cc pc (.invokestatic c) 3 && mB (ts.getD 0 0) (.methodLink own c (T a).1) && mB (ts.getD 1 0) (.static (T a).1) && mB (ts.getD 2 0) (.initialized (T a).1.cls) && mCkH (hs a) T rm acc acs pc a b (ts.getD 3 0)
      else mChk pm (pc, op, x, a, b, c, ts) && (decide (op ≠ 32) || decide (100 ≤ a))
def mAcL (pm : mPm) (q : mIn) : Bool := !(mFtL q) || mJp pm.2.2.2.2.2.2.1 pm.2.2.2.2.2.2.2 q.1 (q.1 + mLn q)
def mOKL (hs : Nat → List (Nat × Nat × Nat × Nat)) (pm : mPm) (P : List mIn) : Bool := P.all (fun q => mChkL hs pm q && mAcL pm q) && mConL P
theorem mConL_tl {q : mIn} {r : List mIn} (h : mConL (q :: r) = true) : mConL r = true := by
  cases r with
  | nil => rfl
  | cons q' r =>
    simp only [mConL, Bool.and_eq_true] at h
    exact h.2
theorem mOKL_tl {hs : Nat → List (Nat × Nat × Nat × Nat)} {pm : mPm} {q : mIn} {r : List mIn} (h : mOKL hs pm (q :: r) = true) : mOKL hs pm r = true := by
  simp only [mOKL, List.all_cons, Bool.and_eq_true] at h ⊢
  exact ⟨h.1.2, mConL_tl h.2⟩
theorem mSfxL_ok {hs : Nat → List (Nat × Nat × Nat × Nat)} {pm : mPm} {t : Nat} : ∀ {P : List mIn}, mOKL hs pm P = true → mOKL hs pm (mSfx t P) = true ∧ (∀ q r, mSfx t P = q :: r → q.1 = t) ∧ ∀ q ∈ mSfx t P, q ∈ P
  | [], h => ⟨h, ⟨fun _ _ z => (by cases z), fun _ z => z⟩⟩
  | q :: r, h => by
    unfold mSfx
    by_cases hq : q.1 = t ∧ q.2.1 ≠ 43
    · rw [if_pos hq]
      exact ⟨h, fun q' r' e => by cases e; exact hq.1, fun _ z => z⟩
    · rw [if_neg hq]
      obtain ⟨h1, h2, h3⟩ := mSfxL_ok (t := t) (mOKL_tl h)
      exact ⟨h1, h2, fun x hx => List.mem_cons_of_mem _ (h3 x hx)⟩
theorem mStep_noX {S S' : Nat → mSp} {J : Nat → mK} {Q : mO → mM → Prop} {X X' : String → mLv → mM → Prop} {fl : Nat → Bool} {ro : mRo} {q : mIn} {k : mK} (h1 : q.2.1 ≠ 32) (h2 : q.2.1 ≠ 35) : mStep S J Q X fl ro q k = mStep S' J Q X' fl ro q k := by
  obtain ⟨pc, op, x, a, b, c, ts⟩ := q
  dsimp only at h1 h2
  unfold mStep
  dsimp only
  split <;> first | rfl | exact absurd rfl h1 | exact absurd rfl h2
theorem mStep_S {S S' : Nat → mSp} {J : Nat → mK} {Q : mO → mM → Prop} {X : String → mLv → mM → Prop} {fl : Nat → Bool} {ro : mRo} {pc : Nat} {x : Int} {a b c : Nat} {ts : List Nat} {k : mK} (h : S a = S' a) : mStep S J Q X fl ro (pc, 32, x, a, b, c, ts) k = mStep S' J Q X fl ro (pc, 32, x, a, b, c, ts) k := by
  show w_call fl S X a b _ k = w_call fl S' X a b _ k
  unfold w_call
  rw [h]
section SO
variable {p : Program} {l : Launch} {e : Env} {R : Room} {s : State} {m : MethodId} {args : Array Value} {below : List Frame} {meth : Method} {c : Code} {nL : Nat} {D : va_G} {cA : Nat → ClassId} {ρ : Nat → Nat} {fl : Nat → Bool} {acc acs : Nat → Nat} {cc : ByteArray} {own : String} {ro : mRo} {T : Nat → mCal} {rt : Option FieldType} {rm : Nat × Nat × Nat × Nat} {Qs : State → Prop} {S : Nat → mSp} {J : Nat → mK} {Q : mO → mM → Prop} {X : String → mLv → mM → Prop} {k : mK} {lv : mLv} {st : mSt} {I : mM} {pc : Nat}
theorem so_eqI {j : mK} {tgt : Nat} {off : Int} (F : mFx p s m args c cc nL own D cA ρ fl ro) (hj : ∀ lv st I, j lv st I → mAW p l e R s m args below meth c Qs nL D cA ρ fl acc acs (tgt) lv st I) (hja : acc pc ≤ acc tgt ∧ acs pc ≤ acs tgt) (hd : decode cc pc = .ok (.if_icmp .eq off, 3)) (ht : (pc : Int) + off = (tgt : Int)) (h : w_eqI j lv st I) : mAW p l e R s m args below meth c Qs nL D cA ρ fl acc acs (pc) lv st I := by
  obtain ⟨hx, hb, hml, hown, hts, hK, hE, hro⟩ := F
  intro H locs ls cells slots hc1 hs1 hP hD hS hl
  rcases st with _ | ⟨v, _ | ⟨w, st⟩⟩
  · exact absurd h id
  · rcases v with y | y | r <;> exact absurd h id
  rcases v with y | y | r <;> first | exact absurd h id | skip
  rcases w with x | x | r <;> first | exact absurd h id | skip
  obtain ⟨rfl, hA⟩ := h
  exact lv_icmp_eq hx hb hd ht (fun z => (hj _ _ _ hA H locs ls cells slots (Nat.le_trans hc1 hja.1) (Nat.le_trans hs1 hja.2) hP hD hS hl)) (fun z => absurd rfl z)
theorem so_eqL {j : mK} {tgt : Nat} {off : Int} (F : mFx p s m args c cc nL own D cA ρ fl ro) (hj : ∀ lv st I, j lv st I → mAW p l e R s m args below meth c Qs nL D cA ρ fl acc acs (tgt) lv st I) (hja : acc pc ≤ acc tgt ∧ acs pc ≤ acs tgt) (hd0 : decode cc pc = .ok (.lcmp, 1)) (hd : decode cc (pc + 1) = .ok (.ifCond .eq off, 3)) (ht : ((pc + 1 : Nat) : Int) + off = (tgt : Int)) (h : w_eqL j lv st I) : mAW p l e R s m args below meth c Qs nL D cA ρ fl acc acs (pc) lv st I := by
  obtain ⟨hx, hb, hml, hown, hts, hK, hE, hro⟩ := F
  intro H locs ls cells slots hc1 hs1 hP hD hS hl
  rcases st with _ | ⟨v, _ | ⟨w, st⟩⟩
  · exact absurd h id
  · rcases v with y | y | r <;> exact absurd h id
  rcases v with y | y | r <;> first | exact absurd h id | skip
  rcases w with x | x | r <;> first | exact absurd h id | skip
  obtain ⟨rfl, hA⟩ := h
  refine W.lcmp hx hb hd0 ?_
  exact lv_if_eq hx hb hd ht (fun z => (hj _ _ _ hA H locs ls cells slots (Nat.le_trans hc1 hja.1) (Nat.le_trans hs1 hja.2) hP hD hS hl)) (fun z => absurd ((lg_if _ _).1.mpr rfl) z)
theorem wI_l (x : Int) : (Int32.ofInt x).toInt64 = Int64.ofInt (wI x) := by
  unfold wI
  rw [Int64.ofInt_int32ToInt]
theorem so_i2x (F : mFx p s m args c cc nL own D cA ρ fl ro) (hk : ∀ lv st I, k lv st I → mAW p l e R s m args below meth c Qs nL D cA ρ fl acc acs (pc + 1) lv st I) (ha : acc pc ≤ acc (pc + 1) ∧ acs pc ≤ acs (pc + 1)) (hd : decode cc pc = .ok (.i2l, 1)) (h : w_i2x k lv st I) : mAW p l e R s m args below meth c Qs nL D cA ρ fl acc acs (pc) lv st I := by
  obtain ⟨hx, hb, hml, hown, hts, hK, hE, hro⟩ := F
  intro H locs ls cells slots hc1 hs1 hP hD hS hl
  rcases st with _ | ⟨v, st⟩
  · exact absurd h id
  rcases v with y | y | r <;> first | exact absurd h id | skip
  exact lv_i2l hx hb hd (wI_l y) (hk _ _ _ h H locs ls cells slots (Nat.le_trans hc1 ha.1) (Nat.le_trans hs1 ha.2) hP hD hS hl)
theorem mWdH_good {hh : List (Nat × Nat × Nat × Nat)} {t : mCal} (h : Cond.codeWith t.1 t.2.1 t.2.2.1 t.2.2.2.1 hh ∈ mBW) : GoodIn mBW (mWdH hh t) := by
  intro w hw
  rcases List.mem_cons.mp hw with rfl | hw
  · exact ⟨h, mBW_good h⟩
  · exact ⟨hw, mBW_good hw⟩
theorem so_callSH {hh : List (Nat × Nat × Nat × Nat)} {t : mCal} {a n np idx : Nat} (F : mFx p s m args c cc nL own D cA ρ fl ro) (hN : mNC s) (hk : ∀ lv st I, k lv st I → mAW p l e R s m args below meth c Qs nL D cA ρ fl acc acs (pc + 3) lv st I) (hC : mCtrH l hh t (S a)) (hX : ∀ E lv I, X E lv I → mXW p l e R s m args below meth c Qs nL D cA ρ fl acc acs pc E lv I) (hd : decode cc pc = .ok (.invokestatic idx, 3)) (hlk : Cond.methodLink own idx t.1 ∈ mBW) (hin : Cond.static t.1 ∈ mBW) (hini : Cond.initialized t.1.cls ∈ mBW) (hcd : Cond.codeWith t.1 t.2.1 t.2.2.1 t.2.2.2.1 hh ∈ mBW) (hd3 : t.1.cls ≠ "java/lang/invoke/MethodHandle" ∧ t.1.cls ≠ "java/lang/invoke/VarHandle" ∧ (parseMethodDescriptor t.1.desc).map (fun d => d.parameters.length) = some np) (hnp : np + 0 = n) (hR : t.2.2.2.2.1 + 1 ≤ R.frames ∧ 8 + (t.2.2.1 + 11) + t.2.2.2.2.2.1 ≤ R.locals) (hRc : acc (pc + 3) ≤ R.cells ∧ acs (pc + 3) ≤ R.slots) (hac : acc pc + t.2.2.2.2.2.2.1 ≤ acc (pc + 3) ∧ acs pc + t.2.2.2.2.2.2.2 ≤ acs (pc + 3)) (h : w_call fl S X a n none k lv st I) : mAW p l e R s m args below meth c Qs nL D cA ρ fl acc acs (pc) lv st I := by
  obtain ⟨hx, hb, hml, hown, hts, hK, hE, hro⟩ := F
  intro H locs ls cells slots hc1 hs1 hP hD hS hl
  obtain ⟨hn, hcat, hrc, hsp⟩ := h
  have hM := hC D cA ρ fl _ _ _ hsp
  have hlen := take_rev hn
  have happ := take_app n st
  generalize (st.take n).reverse = avs at hrc hM hlen happ
  have hpc : ∀ U : State, U.heap = H → s.WarmedH U.vm → mPcH D cA ρ fl avs I ((avs.map (mc ρ)).toArray) U := fun U hU hW => ⟨⟨rfl, va_K.moved hW.alike hK, by rw [hU]; exact hP, hD, by rw [hU]; exact hE.to hW hS.2.1⟩, hN.to hW.alike⟩
  have hroom : 2 * (F0 m pc ls (st.map (mc ρ))).monitorRoom + (((st.drop n).map (mc ρ)).map fun v => v.category).sum ≤ 8 := lv_room (by rw [mc_cats]; exact hcat)
  have hgood := mWdH_good hcd
  refine so_after (Q := _) (vx_runSX (As := avs.map (mc ρ)) (rest := (st.drop n).map (mc ρ)) ⟨hx, hb, hml, hown, hts⟩ hM ⟨⟨rfl, rfl, hR.1, hR.2, pay_in hts hgood, List.mem_cons_self⟩, hts _ hcd, hts _ hini, ⟨hd3.1, hd3.2.1⟩, fun sig h => ?_, hts _ hlk, hts _ hin⟩ ⟨mPcH_blind, hpc⟩ rfl (by rw [List.length_map]) hl.2.1 (by rw [← List.map_reverse, ← List.map_append, ← happ]) hroom hd ⟨by omega, by omega⟩) hD hS hl (by omega) (by omega) (fun v I1 hq => hk _ _ _ hq) (fun I1 hq => hk _ _ _ hq) (fun E I1 hq => hX _ _ _ hq)
  have h2 := hd3.2.2
  rw [h] at h2
  have h3 : sig.parameters.length = np := Option.some.inj h2
  rw [h3]; omega
theorem thr_no (hown : own ≠ RX10) : mThrOK p l e R s m args below meth c Qs nL D cA ρ fl acc acs cc own T rt rm X := by
  intro pc a b c0 x ts lv st I _ hq
  simp only [mChk, Bool.and_eq_true, decide_eq_true_eq] at hq
  exact absurd hq.1.1.1.1.1.1.1.1.1 hown
end SO
section SO
variable {p : Program} {l : Launch} {e : Env} {R : Room} {s : State} {m : MethodId} {args : Array Value} {below : List Frame} {meth : Method} {c : Code} {nL : Nat} {D : va_G} {cA : Nat → ClassId} {ρ : Nat → Nat} {fl : Nat → Bool} {acc acs : Nat → Nat} {cc : ByteArray} {own : String} {ro : mRo} {T : Nat → mCal} {rt : Option FieldType} {rm : Nat × Nat × Nat × Nat} {Qs : State → Prop} {S : Nat → mSp} {J : Nat → mK} {Q : mO → mM → Prop} {X : String → mLv → mM → Prop} {k : mK} {lv : mLv} {st : mSt} {I : mM} {pc : Nat} {hs : Nat → List (Nat × Nat × Nat × Nat)}
def mOnly (S : Nat → mSp) : Nat → mSp := fun a => if 100 ≤ a then S a else fun _ _ _ _ => False
theorem mOnly_ok (hC : ∀ a, 100 ≤ a → mCtr l (T a) (S a)) : ∀ a, mCtr l (T a) (mOnly S a) := fun a => by
  unfold mOnly
  by_cases h : 100 ≤ a
  · rw [if_pos h]; exact hC a h
  · rw [if_neg h]; exact mCtr_no
theorem mStepL_else {q : mIn} (h1 : q.2.1 ≠ 45) (h2 : q.2.1 ≠ 46) (h3 : q.2.1 ≠ 47) : mStepL S J Q X fl ro q k = mStep S J Q X fl ro q k := by
  unfold mStepL
  split
  · rename_i h; exact absurd h h1
  · rename_i h; exact absurd h h2
  · rename_i h; exact absurd h h3
  · rfl
theorem mStepL_ok {q : mIn} (F : mFx p s m args c cc nL own D cA ρ fl ro) (hR : R = mRm rm) (hN : mNC s) (hown : own ≠ RX10) (hk : mFtL q = true → ∀ lv st I, k lv st I → mAW p l e R s m args below meth c Qs nL D cA ρ fl acc acs (q.1 + mLn q) lv st I) (hJ : ∀ t lv st I, J t lv st I → mAW p l e R s m args below meth c Qs nL D cA ρ fl acc acs (t) lv st I) (hX : q.2.1 = 32 → ∀ E lv I, acc (q.1 + 3) ≤ rm.2.2.1 ∧ acs (q.1 + 3) ≤ rm.2.2.2 → X E lv I → mXW p l e R s m args below meth c Qs nL D cA ρ fl acc acs q.1 E lv I) (hC : ∀ a, 100 ≤ a → mCtr l (T a) (S a)) (hCH : ∀ a, a < 100 → mCtrH l (hs a) (T a) (S a)) (hT : mTxM l)
    (hret : mRetOK p l e R s m args below meth c Qs nL D cA ρ fl acc acs cc rt rm Q)
    (hq : mChkL hs (own, cc, T, rt, rm, nL, acc, acs) q = true) (ha : mAcL (own, cc, T, rt, rm, nL, acc, acs) q = true) (h : mStepL S J Q X fl ro q k lv st I) : mAW p l e R s m args below meth c Qs nL D cA ρ fl acc acs (q.1) lv st I := by
  obtain ⟨pc, op, x, a, b, c0, ts⟩ := q
  have hac : mFtL (pc, op, x, a, b, c0, ts) = true → acc pc ≤ acc (pc + mLn (pc, op, x, a, b, c0, ts)) ∧ acs pc ≤ acs (pc + mLn (pc, op, x, a, b, c0, ts)) := fun hf => by
    unfold mAcL at ha
    rw [hf] at ha
    exact mJp_of ha
  unfold mChkL at hq
  dsimp only at hq
  by_cases h45 : op = 45
  · subst h45
    rw [if_pos rfl] at hq
    simp only [Bool.and_eq_true] at hq
    exact so_eqI F (hJ b) (mJp_of hq.2) (mDc_of hq.1) (by omega) h
  rw [if_neg h45] at hq
  by_cases h46 : op = 46
  · subst h46
    rw [if_pos rfl] at hq
    simp only [Bool.and_eq_true] at hq
    exact so_eqL F (hJ b) (mJp_of hq.2) (mDc_of hq.1.1) (mDc_of hq.1.2) (by omega) h
  rw [if_neg h46] at hq
  by_cases h47 : op = 47
  · subst h47
    rw [if_pos rfl] at hq
    exact so_i2x F (hk rfl) (hac rfl) (mDc_of hq) h
  rw [if_neg h47] at hq
  rw [mStepL_else h45 h46 h47] at h
  by_cases h4 : op = 32 ∧ x = 4
  · rw [if_pos h4] at hq
    obtain ⟨rfl, rfl⟩ := h4
    simp only [Bool.and_eq_true, decide_eq_true_eq, mCkH] at hq
    obtain ⟨⟨⟨⟨⟨ha0, hd⟩, w0⟩, w1⟩, w2⟩, ⟨⟨⟨⟨hd3, w3⟩, hR2⟩, hac2⟩, hRc⟩⟩ := hq
    exact so_callSH (np := b) (n := b) F hN (hk rfl) (hCH a ha0) (hX rfl · · · (hRc)) (mDc_of hd) (mB_in w0) (mB_in w1) (mB_in w2) (mB_in w3) hd3 rfl (by rw [hR]; exact hR2) (by rw [hR]; exact hRc) hac2 h
  rw [if_neg h4] at hq
  simp only [Bool.and_eq_true] at hq
  have hft : mFt (pc, op, x, a, b, c0, ts) = mFtL (pc, op, x, a, b, c0, ts) := by
    have e1 : (op == 45) = false := beq_eq_false_iff_ne.mpr h45
    have e2 : (op == 46) = false := beq_eq_false_iff_ne.mpr h46
    unfold mFtL
    dsimp only
    rw [e1, e2]
    simp
  have ha' : mAc (own, cc, T, rt, rm, nL, acc, acs) (pc, op, x, a, b, c0, ts) = true := by
    unfold mAcL at ha
    unfold mAc
    rw [hft]; exact ha
  by_cases h32 : op = 32
  · subst h32
    have ha0 : 100 ≤ a := by
      have := hq.2
      simp at this
      exact this
    have e1 : S a = mOnly S a := by unfold mOnly; rw [if_pos ha0]
    rw [mStep_S e1] at h
    exact mStep_ok (X := X) F hR trivial (fun hf => hk (hft ▸ hf)) (fun t _ => hJ t) (fun E lv I hm => hX rfl E lv I hm) (mOnly_ok hC) hT hret (thr_no hown) hq.1 ha' h
  · by_cases h35 : op = 35
    · subst h35
      have h9 := hq.1
      simp only [mChk, Bool.and_eq_true, decide_eq_true_eq] at h9
      exact absurd h9.1.1.1.1.1.1.1.1.1 hown
    rw [mStep_noX (S' := mOnly S) (X' := fun _ _ _ => False) h32 h35] at h
    exact mStep_ok (X := fun _ _ _ => False) F hR trivial (fun hf => hk (hft ▸ hf)) (fun t _ => hJ t) (fun E lv I hm hf => hf.elim) (mOnly_ok hC) hT hret (fun _ _ _ _ _ _ _ _ _ hf _ => hf.2.elim) hq.1 ha' h
theorem mWpL_ok (F : mFx p s m args c cc nL own D cA ρ fl ro) (hR : R = mRm rm) (hN : mNC s) (hown : own ≠ RX10) (hC : ∀ a, 100 ≤ a → mCtr l (T a) (S a)) (hCH : ∀ a, a < 100 → mCtrH l (hs a) (T a) (S a)) (hT : mTxM l) {cp : Nat → Prop}
    (hX : ∀ pc, cp pc → ∀ E lv I, acc (pc + 3) ≤ rm.2.2.1 ∧ acs (pc + 3) ≤ rm.2.2.2 → X E lv I → mXW p l e R s m args below meth c Qs nL D cA ρ fl acc acs pc E lv I)
    (hret : mRetOK p l e R s m args below meth c Qs nL D cA ρ fl acc acs cc rt rm Q) {J : Nat → mK}
    (hJ : ∀ t lv st I, J t lv st I → mAW p l e R s m args below meth c Qs nL D cA ρ fl acc acs t lv st I) :
    ∀ (P : List mIn), mOKL hs (own, cc, T, rt, rm, nL, acc, acs) P = true → (∀ q ∈ P, q.2.1 = 32 → cp q.1) → ∀ lv st I, mWpL S J Q X fl ro P lv st I → ∃ q r, P = q :: r ∧ mAW p l e R s m args below meth c Qs nL D cA ρ fl acc acs q.1 lv st I
  | [], _, _, _, _, _, h => absurd h id
  | q :: r, hok, hcp, lv, st, I, h => by
    refine ⟨q, r, rfl, ?_⟩
    have hok0 := hok
    simp only [mOKL, List.all_cons, Bool.and_eq_true] at hok0
    refine mStepL_ok F hR hN hown (fun hf lv st I hr => ?_) hJ (fun h32 E lv I ha => hX _ (hcp q List.mem_cons_self h32) E lv I ha) hC hCH hT hret hok0.1.1.1 hok0.1.1.2 h
    obtain ⟨q', r', e1, hw⟩ := mWpL_ok F hR hN hown hC hCH hT hX hret hJ r (mOKL_tl hok) (fun q hq => hcp q (List.mem_cons_of_mem _ hq)) lv st I hr
    subst e1
    have h2 := hok0.2
    simp only [mConL, hf, Bool.not_true, Bool.false_or, Bool.and_eq_true, beq_iff_eq] at h2
    rw [← h2.1]
    exact hw
theorem mGoL_ok (F : mFx p s m args c cc nL own D cA ρ fl ro) (hR : R = mRm rm) (hN : mNC s) (hown : own ≠ RX10) (hC : ∀ a, 100 ≤ a → mCtr l (T a) (S a)) (hCH : ∀ a, a < 100 → mCtrH l (hs a) (T a) (S a)) (hT : mTxM l) {cp : Nat → Prop}
    (hX : ∀ pc, cp pc → ∀ E lv I, acc (pc + 3) ≤ rm.2.2.1 ∧ acs (pc + 3) ≤ rm.2.2.2 → X E lv I → mXW p l e R s m args below meth c Qs nL D cA ρ fl acc acs pc E lv I)
    (hret : mRetOK p l e R s m args below meth c Qs nL D cA ρ fl acc acs cc rt rm Q)
    {P : List mIn} (hP : mOKL hs (own, cc, T, rt, rm, nL, acc, acs) P = true) (hcp : ∀ q ∈ P, q.2.1 = 32 → cp q.1) {cuts : Nat → Option (List Bool)} {C : Nat → mK}
    (hcut : ∀ t bs, cuts t = some bs → ∀ lv st I, C t (mMask bs lv) st I → mAW p l e R s m args below meth c Qs nL D cA ρ fl acc acs t lv st I) :
    ∀ n t lv st I, mGoL S Q X fl ro P cuts C n t lv st I → mAW p l e R s m args below meth c Qs nL D cA ρ fl acc acs t lv st I
  | 0, _, _, _, _, h => absurd h id
  | n + 1, t, lv, st, I, h => by
    unfold mGoL at h
    cases hc : cuts t with
    | some bs =>
      rw [hc] at h
      exact hcut t bs hc lv st I h
    | none =>
      rw [hc] at h
      obtain ⟨q, r, e1, hw⟩ := mWpL_ok F hR hN hown hC hCH hT hX hret (mGoL_ok F hR hN hown hC hCH hT hX hret hP hcp hcut n) (mSfx t P) (mSfxL_ok hP).1 (fun q hq => hcp q ((mSfxL_ok hP).2.2 q hq)) lv st I h
      rw [(mSfxL_ok hP).2.1 q r e1] at hw
      exact hw
end SO
/-- a thrown class's place in the list of the caught ones -/
def hIx : List Nat → Nat → Option Nat
  | [], _ => none
  | b :: r, a => if b = a then some 1 else (hIx r a).map (fun k => k + 1)
theorem hIx_at : ∀ (L : List (Nat × Nat × Nat × Nat)) (a k : Nat), hIx (L.map (fun q => q.1)) a = some k → ∃ L1 q L2, L = L1 ++ q :: L2 ∧ q.1 = a ∧ (∀ z ∈ L1, z.1 ≠ a) ∧ k = L1.length + 1
  | [], _, _, h => by simp [hIx] at h
  | q :: r, a, k, h => by
    simp only [List.map_cons, hIx] at h
    by_cases hq : q.1 = a
    · rw [if_pos hq] at h
      cases h
      exact ⟨[], q, r, rfl, hq, fun z hz => (by cases hz), rfl⟩
    · rw [if_neg hq] at h
      cases h9 : hIx (r.map (fun q => q.1)) a with
      | none => rw [h9] at h; cases h
      | some k' =>
        rw [h9] at h
        cases h
        obtain ⟨L1, q', L2, e1, e2, e3, e4⟩ := hIx_at r a k' h9
        refine ⟨q :: L1, q', L2, by rw [e1]; rfl, e2, fun z hz => ?_, by rw [e4]; rfl⟩
        rcases List.mem_cons.mp hz with rfl | hz
        · exact hq
        · exact e3 z hz
/-- the handler at hp: it keeps what is thrown in the place n, and answers k -/
def hBd (cc : ByteArray) (hp k n : Nat) : Bool :=
  (decide (n < 4) && mDc cc hp (.astore_n (Fin.ofNat 4 n)) 1 && mDc cc (hp + 1) (.iconst k) 1 && mDc cc (hp + 2) .ireturn 1) || (mDc cc hp (.astore n) 2 && mDc cc (hp + 2) (.iconst k) 1 && mDc cc (hp + 3) .ireturn 1)
def hBds (own : String) (cc : ByteArray) (n : Nat) : Nat → List (Nat × Nat × Nat × Nat) → Bool
  | _, [] => true
  | k, q :: r => hBd cc q.2.1 (k + 1) n && decide (q.1 < 4 ∧ q.2.2.1 ≠ 0) && mB q.2.2.2 (.classLink own q.2.2.1 (mEx q.1)) && hBds own cc n (k + 1) r
theorem hBds_at {own : String} {cc : ByteArray} {n : Nat} : ∀ (L1 : List (Nat × Nat × Nat × Nat)) (q : Nat × Nat × Nat × Nat) (L2 : List (Nat × Nat × Nat × Nat)) (k : Nat), hBds own cc n k (L1 ++ q :: L2) = true → (hBd cc q.2.1 (k + L1.length + 1) n = true ∧ (q.1 < 4 ∧ q.2.2.1 ≠ 0) ∧ Cond.classLink own q.2.2.1 (mEx q.1) ∈ mBW) ∧ ∀ z ∈ L1, (z.1 < 4 ∧ z.2.2.1 ≠ 0) ∧ Cond.classLink own z.2.2.1 (mEx z.1) ∈ mBW
  | [], q, L2, k, h => by
    simp only [List.nil_append, hBds, Bool.and_eq_true, decide_eq_true_eq] at h
    exact ⟨⟨h.1.1.1, h.1.1.2, mB_in h.1.2⟩, fun z hz => (by cases hz)⟩
  | y :: L1, q, L2, k, h => by
    simp only [List.cons_append, hBds, Bool.and_eq_true, decide_eq_true_eq] at h
    obtain ⟨h1, h2⟩ := hBds_at L1 q L2 (k + 1) h.2
    refine ⟨⟨by rw [List.length_cons, show k + (L1.length + 1) + 1 = k + 1 + L1.length + 1 by omega]; exact h1.1, h1.2⟩, fun z hz => ?_⟩
    rcases List.mem_cons.mp hz with rfl | hz
    · exact ⟨h.1.1.2, mB_in h.1.2⟩
    · exact h2 z hz
def hTab (st0 en0 : Nat) (L : List (Nat × Nat × Nat × Nat)) : List (Nat × Nat × Nat × Nat) := L.map (fun q => (st0, en0, q.2.1, q.2.2.1))
section SO
variable {p : Program} {l : Launch} {e : Env} {R : Room} {s : State} {m : MethodId} {args : Array Value} {below : List Frame} {meth : Method} {c : Code} {nL : Nat} {D : va_G} {cA : Nat → ClassId} {ρ : Nat → Nat} {fl : Nat → Bool} {acc acs : Nat → Nat} {cc : ByteArray} {own : String} {ro : mRo} {T : Nat → mCal} {rt : Option FieldType} {rm : Nat × Nat × Nat × Nat} {Qs : State → Prop} {S : Nat → mSp} {J : Nat → mK} {Q : mO → mM → Prop} {X : String → mLv → mM → Prop} {k : mK} {lv : mLv} {st : mSt} {I : mM} {pc : Nat} {hs : Nat → List (Nat × Nat × Nat × Nat)}
theorem mc_none {ls : Array Slot} {lv' : List (Nat × Value)} (h : lv_has ls nL lv') : mLoc ρ ls nL (List.replicate nL none) :=
  ⟨List.length_replicate, h.1, h.2.1, fun i v hi => by
    rw [List.getElem?_replicate] at hi
    split at hi <;> cases hi⟩
/-- the handler, from its entry -/
theorem so_hand {Q : mO → mM → Prop} {mc0 ms0 hp k n : Nat} (F : mFx p s m args c cc nL own D cA ρ fl ro) (hn : n < nL) (hr : meth.sig.returnType = some .int) (hlk : meth.locks = false) (hd : hBd cc hp k n = true) (h : Q (.inl (some (mI k))) I)
    {H : Heap} {locs : List Loc} {ls : Array Slot} {cells slots q9 : Nat} (hc : cells ≤ mc0) (hs : slots ≤ ms0) (hP : va_P D vwCl (mWs cA ρ fl I) H) (hD : va_D (mA ρ fl) (mWs cA ρ fl I)) (hS : va_S (mA ρ fl) s.heap H locs) (hl : mLoc ρ ls nL lv) :
    W p l e R s m args below meth c H locs cells slots (vx_MQ below (mQc D cA ρ fl Q) (mXc D cA ρ fl Q) args s mc0 ms0 (mA ρ fl)) (F0 m hp ls [.ref q9]) := by
  have ret : ∀ (pc : Nat) (ls : Array Slot), mLoc ρ ls nL (List.replicate nL none) → decode cc pc = .ok (.ireturn, 1) → W p l e R s m args below meth c H locs cells slots (vx_MQ below (mQc D cA ρ fl Q) (mXc D cA ρ fl Q) args s mc0 ms0 (mA ρ fl)) (F0 m pc ls [.int (Int32.ofInt k)]) := fun pc ls hl d =>
    so_ret_int (acc := fun _ => mc0) (acs := fun _ => ms0) (lv := List.replicate nL none) (st := [mI k]) (I := I) F ⟨Nat.le_refl _, Nat.le_refl _⟩ hr hlk d h H locs ls cells slots hc hs hP hD hS hl
  obtain ⟨hx, hb, hml, hown, hts, hK, hE, hro⟩ := F
  unfold hBd at hd
  simp only [Bool.or_eq_true, Bool.and_eq_true, decide_eq_true_eq] at hd
  rcases hd with ⟨⟨⟨h4, d0⟩, d1⟩, d2⟩ | ⟨⟨d0, d1⟩, d2⟩
  · refine lv_astore_n hx hb (mDc_of d0) (i := n) (by show n % 4 = n; omega) hl.has hn rfl (fun ls1 hl1 => ?_)
    refine lv_iconst hx hb (mDc_of d1) rfl ?_
    exact ret _ _ (mc_none hl1) (mDc_of d2)
  · refine lv_astore hx hb (mDc_of d0) hl.has hn rfl (fun ls1 hl1 => ?_)
    refine lv_iconst hx hb (mDc_of d1) rfl ?_
    exact ret _ _ (mc_none hl1) (mDc_of d2)
end SO
/-- what a wrapper does with what is thrown -/
def xH (tb : List Nat) (Q : mO → mM → Prop) : String → mLv → mM → Prop := fun E _ I => ∃ a, a < 4 ∧ E = mEx a ∧ ∃ k, hIx tb a = some k ∧ Q (.inl (some (mI (k : Int)))) I
def mVCH (tb : List Nat) (S : Nat → mSp) (fl : Nat → Bool) (Q : mO → mM → Prop) (P : List mIn) (nL : Nat) (avs : List mV) (I : mM) : Prop :=
  (mArgs nL avs).length = nL ∧ mWpL S (mGoL S Q (xH tb Q) fl mRo0 P mNoCut (fun _ _ _ _ => False) 60) Q (xH tb Q) fl mRo0 P (mArgs nL avs) [] I
theorem mEx_cast : ∀ a : Nat, a < 4 → Cond.castable (mEx a) (mEx a) ∈ mNG ∧ (Cond.castable (mEx a) (mEx a)).onTables = true := by decide +kernel
theorem mMetH {l : Launch} (hT : mTxM l) {y : MethodName} {cc : ByteArray} {nL : Nat} {rm : Nat × Nat × Nat × Nat} {T : Nat → mCal} {S : Nat → mSp} {acc acs : Nat → Nat} {P : List mIn} {sp : mSp} {hs : Nat → List (Nat × Nat × Nat × Nat)}
    (L : List (Nat × Nat × Nat × Nat)) (st0 en0 cp n : Nat)
    (hy : plainName y.cls = true) (hP : mOKL hs (y.cls, cc, T, some .int, rm, nL, acc, acs) P = true) (h0 : ∃ q r, P = q :: r ∧ q.1 = 0)
    (hcp : P.all (fun q => decide (q.2.1 = 32 → q.1 = cp)) = true) (hL : (hBds y.cls cc n 0 L && decide (n < nL ∧ st0 ≤ cp ∧ cp < en0 ∧ y.cls ≠ RX10)) = true)
    (hC : ∀ a, 100 ≤ a → mCtr l (T a) (S a)) (hCH : ∀ a, a < 100 → mCtrH l (hs a) (T a) (S a)) (hb : ∀ fl avs I Q, sp fl avs I Q → mVCH (L.map (fun q => q.1)) S fl Q P nL avs I) : mCtrH l (hTab st0 en0 L) (y, cc, nL, some .int, rm) sp := by
  intro D cA ρ fl avs I Q hsp
  obtain ⟨hlen, hent⟩ := hb fl avs I Q hsp
  simp only [Bool.and_eq_true, decide_eq_true_eq] at hL
  obtain ⟨hL, hn, hst0, hen0, hyo⟩ := hL
  have hcp' : ∀ q ∈ P, q.2.1 = 32 → q.1 = cp := fun q hq h32 => of_decide_eq_true (List.all_eq_true.mp hcp q hq) h32
  obtain ⟨yc, yn, yd⟩ := y
  dsimp only at hy hP hL hyo
  refine vx_ofWH hy rfl ?_
  intro p e s m args below meth c s₁ B hml hPc
  obtain ⟨⟨hargs, hK, hPP, hD, hE⟩, hN⟩ := hPc
  have hws := atoms_spec (ws := mWdH (hTab st0 en0 L) ((⟨yc, yn, yd⟩ : MethodName), cc, nL, some .int, rm)) B.pre
  have hts : ∀ w ∈ mBW, w.before args s = true := fun w hw => hws w (List.mem_cons_of_mem _ hw)
  have htab : c.exceptionTable.toList = tableOf (hTab st0 en0 L) := vx_table (x := (⟨yc, yn, yd⟩ : MethodName)) B (hws _ List.mem_cons_self)
  have F : mFx p s m args c cc nL yc D cA ρ fl mRo0 := ⟨B.exec, B.bytes, hml, findClass_of_methodNamed B.named, hts, hK, hE, mRo0_at hE⟩
  have hret : mRetOK p l e (mRm rm) s m args below meth c (vx_MQ below (mQc D cA ρ fl Q) (mXc D cA ρ fl Q) args s rm.2.2.1 rm.2.2.2 (mA ρ fl)) nL D cA ρ fl acc acs cc (some .int) rm Q := by
    intro pc a lv st I h hm hd
    match a with
    | 0 => simp at hd
    | 1 =>
      simp only [Bool.and_eq_true, decide_eq_true_eq] at hd
      exact so_ret_int F hm (by rw [B.returns]) B.notSynchronized (mDc_of hd.1) h
    | 2 => simp at hd
    | 3 => simp at hd
    | 4 => simp at hd
    | _ + 5 => exact absurd hd (by simp)
  have hX : ∀ pc, pc = cp → ∀ E (lv : mLv) I, acc (pc + 3) ≤ rm.2.2.1 ∧ acs (pc + 3) ≤ rm.2.2.2 → xH (L.map (fun q => q.1)) Q E lv I → mXW p l e (mRm rm) s m args below meth c (vx_MQ below (mQc D cA ρ fl Q) (mXc D cA ρ fl Q) args s rm.2.2.1 rm.2.2.2 (mA ρ fl)) nL D cA ρ fl acc acs pc E lv I := by
    intro pc hpc E lv I hm hq H locs ls cells slots rest ce q9 hc1 hs1 hP1 hD1 hS1 hl1 h1 h2 h3
    subst hpc
    obtain ⟨a, ha, rfl, k, hk, hq⟩ := hq
    obtain ⟨L1, q, L2, rfl, e2, e3, e4⟩ := hIx_at L a k hk
    obtain ⟨⟨b1, ⟨b2, b3⟩, b4⟩, b5⟩ := hBds_at L1 q L2 0 hL
    subst e2
    refine vx_catch F.2.2.2.1 (tableOf (hTab st0 en0 L1)) ⟨st0, en0, q.2.1, q.2.2.1⟩ (tableOf (hTab st0 en0 L2)) (by rw [htab]; simp [tableOf, hTab]) (fun z hz => ?_) (by simp only [covers, Bool.and_eq_true, decide_eq_true_eq]; exact ⟨hst0, hen0⟩) b3 (hts _ b4) (va_Nw.use (mEx_cast _ b2).2 (hE.1 _ (mEx_cast _ b2).1)) h1 h2 h3 ?_
    · obtain ⟨z1, hz1, rfl⟩ := List.mem_map.mp hz
      obtain ⟨z2, hz2, rfl⟩ := List.mem_map.mp hz1
      obtain ⟨⟨y1, y2⟩, y3⟩ := b5 z2 hz2
      exact Or.inr ⟨y2, _, hts _ y3, hN q.1 z2.1 b2 y1 (fun e9 => e3 z2 hz2 e9.symm)⟩
    · refine so_hand (k := k) F hn (by rw [B.returns]) B.notSynchronized (by rw [e4]; have := b1; rwa [Nat.zero_add] at this) hq (Nat.le_trans hc1 hm.1) (Nat.le_trans hs1 hm.2) hP1 hD1 hS1 hl1
  have hg := mGoL_ok (X := xH (L.map (fun q => q.1)) Q) F rfl hN hyo hC hCH hT hX hret hP hcp' (cuts := mNoCut) (C := fun _ _ _ _ => False) (fun t2 bs2 hbs2 => by cases hbs2)
  obtain ⟨q, r, e1, hw⟩ := mWpL_ok (X := xH (L.map (fun q => q.1)) Q) F rfl hN hyo hC hCH hT hX hret (hg 60) P hP hcp' _ _ _ hent
  obtain ⟨q', r', e2, h00⟩ := h0
  rw [e1] at e2
  cases e2
  rw [h00] at hw
  have hfin := hw s.heap [] _ 0 0 (Nat.zero_le _) (Nat.zero_le _) hPP hD va_S.rf (mArgs_loc hlen)
  subst hargs
  rw [lg_entry_eq]
  exact hfin
end LAW1
section LAW2
theorem mJp_sh {acc acs : Nat → Nat} {B B' pc b : Nat} : mJp (fun p => B + acc p) (fun p => B' + acs p) pc b = mJp acc acs pc b := by
  simp only [mJp, Nat.add_le_add_iff_left]
theorem mChk_sh {own : String} {cc : ByteArray} {T : Nat → mCal} {rt : Option FieldType} {f lo ce sl nL : Nat} {acc acs : Nat → Nat} (B B' : Nat) {q : mIn} (h : mChk (own, cc, T, rt, (f, lo, ce, sl), nL, acc, acs) q = true) : mChk (own, cc, T, rt, (f, lo, B + ce, B' + sl), nL, fun p => B + acc p, fun p => B' + acs p) q = true := by
  obtain ⟨pc, op, x, a, b, c, ts⟩ := q
  match op, h with
  | 0, h => exact h
  | 1, h => exact h
  | 2, h => exact h
  | 3, h => exact h
  | 4, h => exact h
  | 5, h => exact h
  | 6, h => exact h
  | 7, h => exact h
  | 8, h => exact h
  | 9, h => exact h
  | 10, h => exact h
  | 11, h => exact h
  | 12, h => exact h
  | 13, h => exact h
  | 14, h => exact h
  | 15, h => exact h
  | 16, h => exact h
  | 17, h => exact h
  | 18, h => exact h
  | 19, h => simpa only [mChk, mJp, mCk, mMt, Nat.add_assoc, Nat.add_le_add_iff_left] using h
  | 20, h => simpa only [mChk, mJp, mCk, mMt, Nat.add_assoc, Nat.add_le_add_iff_left] using h
  | 21, h => simpa only [mChk, mJp, mCk, mMt, Nat.add_assoc, Nat.add_le_add_iff_left] using h
  | 22, h => simpa only [mChk, mJp, mCk, mMt, Nat.add_assoc, Nat.add_le_add_iff_left] using h
  | 23, h => simpa only [mChk, mJp, mCk, mMt, Nat.add_assoc, Nat.add_le_add_iff_left] using h
  | 24, h => exact h
  | 25, h => exact h
  | 26, h => exact h
  | 27, h => exact h
  | 28, h => exact h
  | 29, h => exact h
  | 30, h => exact h
  | 31, h => exact h
  | 32, h => simpa only [mChk, mJp, mCk, mMt, Nat.add_assoc, Nat.add_le_add_iff_left] using h
  | 33, h => simpa only [mChk, mJp, mCk, mMt, Nat.add_assoc, Nat.add_le_add_iff_left] using h
  | 34, h => simpa only [mChk, mJp, mCk, mMt, Nat.add_assoc, Nat.add_le_add_iff_left] using h
  | 35, h => simpa only [mChk, mJp, mCk, mMt, Nat.add_assoc, Nat.add_le_add_iff_left] using h
  | 36, h => exact h
  | 37, h => exact h
  | 38, h => simpa only [mChk, mJp, mCk, mMt, Nat.add_assoc, Nat.add_le_add_iff_left] using h
  | 39, h => simpa only [mChk, mJp, mCk, mMt, Nat.add_assoc, Nat.add_le_add_iff_left] using h
  | 40, h => simpa only [mChk, mJp, mCk, mMt, Nat.add_assoc, Nat.add_le_add_iff_left] using h
  | 41, h => exact h
  | 42, h => exact h
  | 43, h => simpa only [mChk, mJp, mCk, mMt, Nat.add_assoc, Nat.add_le_add_iff_left] using h
  | n + 44, h => exact h
theorem mOKL_sh {hs : Nat → List (Nat × Nat × Nat × Nat)} {own : String} {cc : ByteArray} {T : Nat → mCal} {rt : Option FieldType} {f lo ce sl nL : Nat} {acc acs : Nat → Nat} (B B' : Nat) {P : List mIn} (h : mOKL hs (own, cc, T, rt, (f, lo, ce, sl), nL, acc, acs) P = true) : mOKL hs (own, cc, T, rt, (f, lo, B + ce, B' + sl), nL, fun p => B + acc p, fun p => B' + acs p) P = true := by
  simp only [mOKL, Bool.and_eq_true, List.all_eq_true] at h ⊢
  refine ⟨fun q hq => ?_, h.2⟩
  obtain ⟨h1, h2⟩ := h.1 q hq
  refine ⟨?_, ?_⟩
  · obtain ⟨pc, op, x, a, b, c, ts⟩ := q
    unfold mChkL at h1 ⊢
    dsimp only at h1 ⊢
    split
    · rename_i e; rw [if_pos e] at h1; rw [mJp_sh]; exact h1
    · rename_i e; rw [if_neg e] at h1
      split
      · rename_i e; rw [if_pos e] at h1; rw [mJp_sh]; exact h1
      · rename_i e; rw [if_neg e] at h1
        split
        · rename_i e; rw [if_pos e] at h1; exact h1
        · rename_i e; rw [if_neg e] at h1
          split
          · rename_i e; rw [if_pos e] at h1
            simpa only [mCkH, Nat.add_assoc, Nat.add_le_add_iff_left] using h1
          · rename_i e; rw [if_neg e] at h1
            simp only [Bool.and_eq_true] at h1 ⊢
            exact ⟨mChk_sh B B' h1.1, h1.2⟩
  · unfold mAcL at h2 ⊢
    dsimp only at h2 ⊢
    rw [mJp_sh]; exact h2
end LAW2
section MWL
variable {S : Nat → mSp} {J : Nat → mK} {Q : mO → mM → Prop} {X : String → mLv → mM → Prop} {fl : Nat → Bool} {ro : mRo} {r : List mIn} {lv : mLv} {st : mSt} {I : mM} {pc a b c : Nat} {x : Int} {ts : List Nat}
theorem wl_ic  : mWpL S J Q X fl ro ((pc, 0, x, a, b, c, ts) :: r) lv st I = mWpL S J Q X fl ro r lv (mI x :: st) I := propext Iff.rfl
theorem wl_lc  : mWpL S J Q X fl ro ((pc, 1, x, a, b, c, ts) :: r) lv st I = mWpL S J Q X fl ro r lv (mL x :: st) I := propext Iff.rfl
theorem wl_ld_i  : mWpL S J Q X fl ro ((pc, 2, x, a, b, c, ts) :: r) lv st I = (w_ld a 0 (mWpL S J Q X fl ro r) lv st I) := propext Iff.rfl
theorem wl_st_i {y : Int} : mWpL S J Q X fl ro ((pc, 5, x, a, b, c, ts) :: r) lv (mI y :: st) I = (w_st a 0 (mWpL S J Q X fl ro r) lv (mI y :: st) I) := propext Iff.rfl
theorem wl_ld_l  : mWpL S J Q X fl ro ((pc, 3, x, a, b, c, ts) :: r) lv st I = (w_ld a 1 (mWpL S J Q X fl ro r) lv st I) := propext Iff.rfl
theorem wl_st_l {y : Int} : mWpL S J Q X fl ro ((pc, 6, x, a, b, c, ts) :: r) lv (mL y :: st) I = (w_st a 1 (mWpL S J Q X fl ro r) lv (mL y :: st) I) := propext Iff.rfl
theorem wl_ld_a  : mWpL S J Q X fl ro ((pc, 4, x, a, b, c, ts) :: r) lv st I = (w_ld a 2 (mWpL S J Q X fl ro r) lv st I) := propext Iff.rfl
theorem wl_st_a {y : Option Nat} : mWpL S J Q X fl ro ((pc, 7, x, a, b, c, ts) :: r) lv (mR y :: st) I = (w_st a 2 (mWpL S J Q X fl ro r) lv (mR y :: st) I) := propext Iff.rfl
theorem wl_ib {y z : Int} : mWpL S J Q X fl ro ((pc, 9, x, a, b, c, ts) :: r) lv (mI y :: mI z :: st) I = mWpL S J Q X fl ro r lv (mI (ib a z y) :: st) I := propext Iff.rfl
theorem wl_lb {y z : Int} : mWpL S J Q X fl ro ((pc, 11, x, a, b, c, ts) :: r) lv (mL y :: mL z :: st) I = mWpL S J Q X fl ro r lv (mL (lb a z y) :: st) I := propext Iff.rfl
theorem wl_i2l {y : Int} : mWpL S J Q X fl ro ((pc, 13, x, a, b, c, ts) :: r) lv (mI y :: st) I = (mrg y ∧ mWpL S J Q X fl ro r lv (mL y :: st) I) := propext Iff.rfl
theorem wl_lsh {y z : Int} : mWpL S J Q X fl ro ((pc, 18, x, a, b, c, ts) :: r) lv (mI y :: mL z :: st) I = mWpL S J Q X fl ro r lv (mL (lsh a z y) :: st) I := propext Iff.rfl
theorem wl_icmp {y z : Int} : mWpL S J Q X fl ro ((pc, 19, x, a, b, c, ts) :: r) lv (mI y :: mI z :: st) I = ((mrg z ∧ mrg y) ∧ (mCmp a z y → J b lv st I) ∧ (¬ mCmp a z y → mWpL S J Q X fl ro r lv st I)) := propext Iff.rfl
theorem wl_if {z : Int} : mWpL S J Q X fl ro ((pc, 20, x, a, b, c, ts) :: r) lv (mI z :: st) I = (mrg z ∧ (mCmp a z 0 → J b lv st I) ∧ (¬ mCmp a z 0 → mWpL S J Q X fl ro r lv st I)) := propext Iff.rfl
theorem wl_lcmp {y z : Int} : mWpL S J Q X fl ro ((pc, 21, x, a, b, c, ts) :: r) lv (mL y :: mL z :: st) I = ((mrl z ∧ mrl y) ∧ (mCmp a z y → J b lv st I) ∧ (¬ mCmp a z y → mWpL S J Q X fl ro r lv st I)) := propext Iff.rfl
theorem wl_goto  : mWpL S J Q X fl ro ((pc, 22, x, a, b, c, ts) :: r) lv st I = J b lv st I := propext Iff.rfl
theorem wl_ald  : mWpL S J Q X fl ro ((pc, 26, x, a, b, c, ts) :: r) lv st I = (w_ald fl ro a (mWpL S J Q X fl ro r) lv st I) := propext Iff.rfl
theorem wl_astI {i : Nat} {y j : Int} : mWpL S J Q X fl ro ((pc, 27, x, a, b, c, ts) :: r) lv (mI y :: mI j :: mR (some i) :: st) I = ((sk i = a ∧ al fl i = true) ∧ (0 ≤ j ∧ j < sn i) ∧ (a = 20 ∨ (a = 21 ∧ -128 ≤ y ∧ y < 128) ∨ (a = 22 ∧ (y = 0 ∨ y = 1))) ∧ mWpL S J Q X fl ro r lv st (mSet I i j y)) := propext Iff.rfl
theorem wl_astL {i : Nat} {y j : Int} : mWpL S J Q X fl ro ((pc, 27, x, a, b, c, ts) :: r) lv (mL y :: mI j :: mR (some i) :: st) I = ((sk i = a ∧ al fl i = true) ∧ (0 ≤ j ∧ j < sn i) ∧ a = 23 ∧ mWpL S J Q X fl ro r lv st (mSet I i j y)) := propext Iff.rfl
theorem wl_len  : mWpL S J Q X fl ro ((pc, 28, x, a, b, c, ts) :: r) lv st I = (w_len fl ro (mWpL S J Q X fl ro r) lv st I) := propext Iff.rfl
theorem wl_callV1_0 {i : Nat} {q : Nat} : mWpL S J Q X fl ro ((pc, 32, 0, a, 1, c, q :: ts) :: r) lv (mR (some i) :: st) I = (1 ≤ (mR (some i) :: st).length ∧ mCat st ≤ 8 ∧ (sk i = q + 1 ∧ al fl i = true) ∧ S a fl [mR (some i)] I (fun o I' => match o with | .inl (some v) => mWpL S J Q X fl ro r lv (v :: st) I' | .inl none => mWpL S J Q X fl ro r lv st I' | .inr E => X E lv I')) := propext Iff.rfl
theorem wl_callV2_0 {i : Nat} {v1 : mV} {q : Nat} : mWpL S J Q X fl ro ((pc, 32, 0, a, 2, c, q :: ts) :: r) lv (v1 :: mR (some i) :: st) I = (2 ≤ (v1 :: mR (some i) :: st).length ∧ mCat st ≤ 8 ∧ (sk i = q + 1 ∧ al fl i = true) ∧ S a fl [mR (some i), v1] I (fun o I' => match o with | .inl (some v) => mWpL S J Q X fl ro r lv (v :: st) I' | .inl none => mWpL S J Q X fl ro r lv st I' | .inr E => X E lv I')) := propext Iff.rfl
theorem wl_callV3_0 {i : Nat} {v1 v2 : mV} {q : Nat} : mWpL S J Q X fl ro ((pc, 32, 0, a, 3, c, q :: ts) :: r) lv (v2 :: v1 :: mR (some i) :: st) I = (3 ≤ (v2 :: v1 :: mR (some i) :: st).length ∧ mCat st ≤ 8 ∧ (sk i = q + 1 ∧ al fl i = true) ∧ S a fl [mR (some i), v1, v2] I (fun o I' => match o with | .inl (some v) => mWpL S J Q X fl ro r lv (v :: st) I' | .inl none => mWpL S J Q X fl ro r lv st I' | .inr E => X E lv I')) := propext Iff.rfl
theorem wl_callV4_0 {i : Nat} {v1 v2 v3 : mV} {q : Nat} : mWpL S J Q X fl ro ((pc, 32, 0, a, 4, c, q :: ts) :: r) lv (v3 :: v2 :: v1 :: mR (some i) :: st) I = (4 ≤ (v3 :: v2 :: v1 :: mR (some i) :: st).length ∧ mCat st ≤ 8 ∧ (sk i = q + 1 ∧ al fl i = true) ∧ S a fl [mR (some i), v1, v2, v3] I (fun o I' => match o with | .inl (some v) => mWpL S J Q X fl ro r lv (v :: st) I' | .inl none => mWpL S J Q X fl ro r lv st I' | .inr E => X E lv I')) := propext Iff.rfl
theorem wl_callV5_0 {i : Nat} {v1 v2 v3 v4 : mV} {q : Nat} : mWpL S J Q X fl ro ((pc, 32, 0, a, 5, c, q :: ts) :: r) lv (v4 :: v3 :: v2 :: v1 :: mR (some i) :: st) I = (5 ≤ (v4 :: v3 :: v2 :: v1 :: mR (some i) :: st).length ∧ mCat st ≤ 8 ∧ (sk i = q + 1 ∧ al fl i = true) ∧ S a fl [mR (some i), v1, v2, v3, v4] I (fun o I' => match o with | .inl (some v) => mWpL S J Q X fl ro r lv (v :: st) I' | .inl none => mWpL S J Q X fl ro r lv st I' | .inr E => X E lv I')) := propext Iff.rfl
theorem wl_callV6_0 {i : Nat} {v1 v2 v3 v4 v5 : mV} {q : Nat} : mWpL S J Q X fl ro ((pc, 32, 0, a, 6, c, q :: ts) :: r) lv (v5 :: v4 :: v3 :: v2 :: v1 :: mR (some i) :: st) I = (6 ≤ (v5 :: v4 :: v3 :: v2 :: v1 :: mR (some i) :: st).length ∧ mCat st ≤ 8 ∧ (sk i = q + 1 ∧ al fl i = true) ∧ S a fl [mR (some i), v1, v2, v3, v4, v5] I (fun o I' => match o with | .inl (some v) => mWpL S J Q X fl ro r lv (v :: st) I' | .inl none => mWpL S J Q X fl ro r lv st I' | .inr E => X E lv I')) := propext Iff.rfl
theorem wl_callV7_0 {i : Nat} {v1 v2 v3 v4 v5 v6 : mV} {q : Nat} : mWpL S J Q X fl ro ((pc, 32, 0, a, 7, c, q :: ts) :: r) lv (v6 :: v5 :: v4 :: v3 :: v2 :: v1 :: mR (some i) :: st) I = (7 ≤ (v6 :: v5 :: v4 :: v3 :: v2 :: v1 :: mR (some i) :: st).length ∧ mCat st ≤ 8 ∧ (sk i = q + 1 ∧ al fl i = true) ∧ S a fl [mR (some i), v1, v2, v3, v4, v5, v6] I (fun o I' => match o with | .inl (some v) => mWpL S J Q X fl ro r lv (v :: st) I' | .inl none => mWpL S J Q X fl ro r lv st I' | .inr E => X E lv I')) := propext Iff.rfl
theorem wl_callS1_4 {v0 : mV} : mWpL S J Q X fl ro ((pc, 32, 4, a, 1, c, ts) :: r) lv (v0 :: st) I = (1 ≤ (v0 :: st).length ∧ mCat st ≤ 8 ∧ True ∧ S a fl [v0] I (fun o I' => match o with | .inl (some v) => mWpL S J Q X fl ro r lv (v :: st) I' | .inl none => mWpL S J Q X fl ro r lv st I' | .inr E => X E lv I')) := propext Iff.rfl
theorem wl_callS2_4 {v0 v1 : mV} : mWpL S J Q X fl ro ((pc, 32, 4, a, 2, c, ts) :: r) lv (v1 :: v0 :: st) I = (2 ≤ (v1 :: v0 :: st).length ∧ mCat st ≤ 8 ∧ True ∧ S a fl [v0, v1] I (fun o I' => match o with | .inl (some v) => mWpL S J Q X fl ro r lv (v :: st) I' | .inl none => mWpL S J Q X fl ro r lv st I' | .inr E => X E lv I')) := propext Iff.rfl
theorem wl_callS3_4 {v0 v1 v2 : mV} : mWpL S J Q X fl ro ((pc, 32, 4, a, 3, c, ts) :: r) lv (v2 :: v1 :: v0 :: st) I = (3 ≤ (v2 :: v1 :: v0 :: st).length ∧ mCat st ≤ 8 ∧ True ∧ S a fl [v0, v1, v2] I (fun o I' => match o with | .inl (some v) => mWpL S J Q X fl ro r lv (v :: st) I' | .inl none => mWpL S J Q X fl ro r lv st I' | .inr E => X E lv I')) := propext Iff.rfl
theorem wl_callS4_4 {v0 v1 v2 v3 : mV} : mWpL S J Q X fl ro ((pc, 32, 4, a, 4, c, ts) :: r) lv (v3 :: v2 :: v1 :: v0 :: st) I = (4 ≤ (v3 :: v2 :: v1 :: v0 :: st).length ∧ mCat st ≤ 8 ∧ True ∧ S a fl [v0, v1, v2, v3] I (fun o I' => match o with | .inl (some v) => mWpL S J Q X fl ro r lv (v :: st) I' | .inl none => mWpL S J Q X fl ro r lv st I' | .inr E => X E lv I')) := propext Iff.rfl
theorem wl_callS5_4 {v0 v1 v2 v3 v4 : mV} : mWpL S J Q X fl ro ((pc, 32, 4, a, 5, c, ts) :: r) lv (v4 :: v3 :: v2 :: v1 :: v0 :: st) I = (5 ≤ (v4 :: v3 :: v2 :: v1 :: v0 :: st).length ∧ mCat st ≤ 8 ∧ True ∧ S a fl [v0, v1, v2, v3, v4] I (fun o I' => match o with | .inl (some v) => mWpL S J Q X fl ro r lv (v :: st) I' | .inl none => mWpL S J Q X fl ro r lv st I' | .inr E => X E lv I')) := propext Iff.rfl
theorem wl_callS6_4 {v0 v1 v2 v3 v4 v5 : mV} : mWpL S J Q X fl ro ((pc, 32, 4, a, 6, c, ts) :: r) lv (v5 :: v4 :: v3 :: v2 :: v1 :: v0 :: st) I = (6 ≤ (v5 :: v4 :: v3 :: v2 :: v1 :: v0 :: st).length ∧ mCat st ≤ 8 ∧ True ∧ S a fl [v0, v1, v2, v3, v4, v5] I (fun o I' => match o with | .inl (some v) => mWpL S J Q X fl ro r lv (v :: st) I' | .inl none => mWpL S J Q X fl ro r lv st I' | .inr E => X E lv I')) := propext Iff.rfl
theorem wl_callS7_4 {v0 v1 v2 v3 v4 v5 v6 : mV} : mWpL S J Q X fl ro ((pc, 32, 4, a, 7, c, ts) :: r) lv (v6 :: v5 :: v4 :: v3 :: v2 :: v1 :: v0 :: st) I = (7 ≤ (v6 :: v5 :: v4 :: v3 :: v2 :: v1 :: v0 :: st).length ∧ mCat st ≤ 8 ∧ True ∧ S a fl [v0, v1, v2, v3, v4, v5, v6] I (fun o I' => match o with | .inl (some v) => mWpL S J Q X fl ro r lv (v :: st) I' | .inl none => mWpL S J Q X fl ro r lv st I' | .inr E => X E lv I')) := propext Iff.rfl
theorem wl_ret1 {y : Int} : mWpL S J Q X fl ro ((pc, 33, x, 1, b, c, ts) :: r) lv [mI y] I = Q (.inl (some (mI y))) I := propext Iff.rfl
theorem wl_sw {y : Int} : mWpL S J Q X fl ro ((pc, 34, x, a, b, c, ts) :: r) lv (mI y :: st) I = (mrg y ∧ mSw J lv st I y b x ts) := propext Iff.rfl
theorem wl_eqI {y z : Int} : mWpL S J Q X fl ro ((pc, 45, x, a, b, c, ts) :: r) lv (mI y :: mI z :: st) I = (z = y ∧ J b lv st I) := propext Iff.rfl
theorem wl_eqL {y z : Int} : mWpL S J Q X fl ro ((pc, 46, x, a, b, c, ts) :: r) lv (mL y :: mL z :: st) I = (z = y ∧ J b lv st I) := propext Iff.rfl
theorem wl_i2x {y : Int} : mWpL S J Q X fl ro ((pc, 47, x, a, b, c, ts) :: r) lv (mI y :: st) I = mWpL S J Q X fl ro r lv (mL (wI y) :: st) I := propext Iff.rfl
theorem mGoL_n {P : List mIn} {cuts : Nat → Option (List Bool)} {C : Nat → mK} {n t : Nat} (hf : 0 < n) (h : cuts t = none) : mGoL S Q X fl ro P cuts C n t lv st I = mWpL S (mGoL S Q X fl ro P cuts C (n - 1)) Q X fl ro (mSfx t P) lv st I := by
  obtain ⟨n, rfl⟩ : ∃ q, n = q + 1 := ⟨n - 1, by omega⟩
  show (match cuts t with
    | some bs => C t (mMask bs lv) st I
    | none => _) = _
  rw [h]
  rfl
theorem mGoL_c {P : List mIn} {cuts : Nat → Option (List Bool)} {C : Nat → mK} {n t : Nat} {bs : List Bool} (hf : 0 < n) (h : cuts t = some bs) : mGoL S Q X fl ro P cuts C n t lv st I = C t (mMask bs lv) st I := by
  obtain ⟨n, rfl⟩ : ∃ q, n = q + 1 := ⟨n - 1, by omega⟩
  show (match cuts t with
    | some bs => C t (mMask bs lv) st I
    | none => _) = _
  rw [h]
end MWL
