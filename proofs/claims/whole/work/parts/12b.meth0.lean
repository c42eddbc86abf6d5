section MMETH0
def mLk (t : Nat) : List (Nat × List Bool) → Option (List Bool)
  | [] => none
  | q :: r => if q.1 = t then some q.2 else mLk t r
def mNoCut : Nat → Option (List Bool) := fun _ => none
theorem mNoCut_ (t : Nat) : mNoCut t = none := by cases t <;> rfl
def mAcf (l : List (Nat × Nat)) (pc : Nat) : Nat := ((l.filter (fun q => decide (q.1 < pc))).map (fun q => q.2)).sum
/-- a method without cuts -/
def mVC0 (S : Nat → mSp) (fl : Nat → Bool) (Q : mO → mM → Prop) (P : List mIn) (nL : Nat) (avs : List mV) (I : mM) : Prop :=
  (mArgs nL avs).length = nL ∧ mWp S (mGo S Q (fun E _ I => Q (.inr E) I) fl mRo0 P mNoCut (fun _ _ _ _ => False) 60) Q (fun E _ I => Q (.inr E) I) fl mRo0 P (mArgs nL avs) [] I
theorem mMet0 {l : Launch} (hst : l.stackTraces = false) (hT : mTxM l) {y : MethodName} {cc : ByteArray} {nL : Nat} {rt : Option FieldType} {rm : Nat × Nat × Nat × Nat} {T : Nat → mCal} {S : Nat → mSp} {acc acs : Nat → Nat} {P : List mIn} {sp : mSp}
    (hy : plainName y.cls = true) (hP : mOK (y.cls, cc, T, rt, rm, nL, acc, acs) P = true) (h0 : ∃ q r, P = q :: r ∧ q.1 = 0)
    (hC : ∀ a, mCtr l (T a) (S a)) (hb : ∀ fl avs I Q, sp fl avs I Q → mVC0 S fl Q P nL avs I) : mCtr l (y, cc, nL, rt, rm) sp := by
  refine mMet hst hT mNoCut hy hP h0 trivial (fun t bs h => by cases h) hC (fun fl avs I Q hsp => ?_)
  obtain ⟨h1, h2⟩ := hb fl avs I Q hsp
  refine ⟨h1, fun _ _ _ _ _ => False, fun n t bs h => (by cases h), ?_⟩
  have e : (fun (t : Nat) (lv : mLv) (st : mSt) (I : mM) => ∃ n : Nat, False) = (fun _ _ _ _ => False) := by
    funext t lv st I
    exact propext ⟨fun ⟨_, h⟩ => h, fun h => h.elim⟩
  rw [e]
  exact h2
theorem mCtr_no {l : Launch} {t : mCal} : mCtr l t (fun _ _ _ _ => False) := fun _ _ _ _ _ _ _ h => h.elim
section EV
variable {S : Nat → mSp} {Q : mO → mM → Prop} {X : String → mLv → mM → Prop} {fl : Nat → Bool} {ro : mRo} {P : List mIn} {cuts : Nat → Option (List Bool)} {C : Nat → mK} {n t : Nat} {lv : mLv} {st : mSt} {I : mM} {k : mK}
theorem mGo_n (hf : 0 < n) (h : cuts t = none) : mGo S Q X fl ro P cuts C n t lv st I = mWp S (mGo S Q X fl ro P cuts C (n - 1)) Q X fl ro (mSfx t P) lv st I := by
  obtain ⟨n, rfl⟩ : ∃ q, n = q + 1 := ⟨n - 1, by omega⟩
  show (match cuts t with
    | some bs => C t (mMask bs lv) st I
    | none => _) = _
  rw [h]
  rfl
theorem mGo_c {bs : List Bool} (hf : 0 < n) (h : cuts t = some bs) : mGo S Q X fl ro P cuts C n t lv st I = C t (mMask bs lv) st I := by
  obtain ⟨n, rfl⟩ : ∃ q, n = q + 1 := ⟨n - 1, by omega⟩
  show (match cuts t with
    | some bs => C t (mMask bs lv) st I
    | none => _) = _
  rw [h]
-- loads from a list of locals
theorem w_ld_0 {v : mV} {r : mLv} {kd : Nat} (h : mKd v = kd) : w_ld 0 kd k (some v :: r) st I = k (some v :: r) (v :: st) I := by
  show (mKd v = kd ∧ _) = _
  simp only [h, true_and]
end EV
end MMETH0
