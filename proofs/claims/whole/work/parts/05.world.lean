section MWORLD
def mc (ρ : Nat → Nat) : mV → Value
  | .inl x => .int (Int32.ofInt x)
  | .inr (.inl x) => .long (Int64.ofInt x)
  | .inr (.inr none) => .null
  | .inr (.inr (some i)) => .ref (ρ i)
theorem mc_I (ρ : Nat → Nat) (x : Int) : mc ρ (mI x) = .int (Int32.ofInt x) := rfl
theorem mc_L (ρ : Nat → Nat) (x : Int) : mc ρ (mL x) = .long (Int64.ofInt x) := rfl
theorem mc_R (ρ : Nat → Nat) (r : Option Nat) : mc ρ (mR r) = va_rf (r.map ρ) := by cases r <;> rfl
theorem mc_cat (ρ : Nat → Nat) (v : mV) : (mc ρ v).category = mCatV v := by
  rcases v with x | x | _ | i <;> rfl
theorem mc_cats (ρ : Nat → Nat) (st : mSt) : ((st.map (mc ρ)).map fun v => v.category).sum = mCat st := by
  induction st with
  | nil => rfl
  | cons v s ih =>
    show (mc ρ v).category + _ = mCatV v + mCat s
    rw [mc_cat]
    exact congrArg _ ih
theorem mc_cat1 {ρ : Nat → Nat} {v : mV} (h : mKd v = 0 ∨ mKd v = 2) : (mc ρ v).category = 1 := by
  rcases v with x | x | _ | i <;> first | rfl | (rcases h with h | h <;> cases h)
/-- the locals -/
def mLoc (ρ : Nat → Nat) (ls : Array Slot) (nL : Nat) (lv : mLv) : Prop := lv.length = nL ∧ ls.size = nL ∧ lv_wf ls ∧ ∀ (i : Nat) (v : mV), lv[i]? = some (some v) → ls[i]? = some (.val (mc ρ v))
def mAs (ρ : Nat → Nat) (nL : Nat) (lv : mLv) : List (Nat × Value) := (List.range nL).filterMap (fun i => (lv.getD i none).map (fun v => (i, mc ρ v)))
theorem mAs_mem {ρ : Nat → Nat} {nL : Nat} {lv : mLv} {i : Nat} {v : mV} (hi : i < nL) (h : lv[i]? = some (some v)) : (i, mc ρ v) ∈ mAs ρ nL lv :=
  List.mem_filterMap.mpr ⟨i, List.mem_range.mpr hi, by rw [List.getD_eq_getElem?_getD, h]; rfl⟩
theorem mLoc.has {ρ : Nat → Nat} {ls : Array Slot} {nL : Nat} {lv : mLv} (h : mLoc ρ ls nL lv) : lv_has ls nL (mAs ρ nL lv) := by
  refine ⟨h.2.1, h.2.2.1, fun q hq => ?_⟩
  obtain ⟨i, -, hi⟩ := List.mem_filterMap.mp hq
  cases hv : lv.getD i none with
  | none => rw [hv] at hi; cases hi
  | some v =>
    rw [hv] at hi
    cases hi
    refine h.2.2.2 i v ?_
    rw [List.getD_eq_getElem?_getD] at hv
    cases hl : lv[i]? with
    | none => rw [hl] at hv; cases hv
    | some w => rw [hl] at hv; exact congrArg some hv
theorem mLoc.lt {ρ : Nat → Nat} {ls : Array Slot} {nL : Nat} {lv : mLv} (h : mLoc ρ ls nL lv) {i : Nat} {w : Option mV} (hi : lv[i]? = some w) : i < nL := by
  rw [← h.1]; exact (List.getElem?_eq_some_iff.mp hi).1
theorem getD_some {lv : mLv} {a : Nat} {v : mV} (h : lv.getD a none = some v) : lv[a]? = some (some v) := by
  rw [List.getD_eq_getElem?_getD] at h
  cases hl : lv[a]? with
  | none => rw [hl] at h; cases h
  | some w => rw [hl] at h; exact congrArg some h
theorem mPut_len (lv : mLv) (a : Nat) (v : mV) : (mPut lv a v).length = lv.length := by
  unfold mPut
  dsimp only
  split <;> (try split) <;> (try split) <;> simp
theorem mIsL_cat {ρ : Nat → Nat} {v : mV} : ((mc ρ v).category == 2) = mIsL (some v) := by
  rcases v with x | x | _ | i <;> rfl
/-- what stands in the locals behind a write -/
theorem mPut_at {lv : mLv} {a i : Nat} {v w : mV} (ha : a < lv.length) (h : (mPut lv a v)[i]? = some (some w)) : (i = a ∧ w = v) ∨ (i ≠ a ∧ lv[i]? = some (some w) ∧ ¬ (i + 1 = a ∧ mIsL (some w) = true) ∧ (mKd v = 1 → i ≠ a + 1)) := by
  unfold mPut at h
  dsimp only at h
  by_cases hia : i = a
  · subst hia
    left
    refine ⟨rfl, ?_⟩
    split at h <;> split at h <;> (try split at h) <;> simp_all
  · right
    have key : (if a = 0 then lv else if mIsL (lv.getD (a - 1) none) = true then lv.set (a - 1) none else lv)[i]? = some (some w) ∧ (mKd v = 1 → i ≠ a + 1) := by
      by_cases hk : mKd v = 1
      · rw [if_pos hk] at h
        by_cases hi2 : i = a + 1
        · subst hi2
          rw [List.getElem?_set, if_pos rfl] at h
          split at h <;> simp at h
        · rw [List.getElem?_set_ne (by omega), List.getElem?_set_ne (by omega)] at h
          exact ⟨h, fun _ => hi2⟩
      · rw [if_neg hk, List.getElem?_set_ne (by omega)] at h
        exact ⟨h, fun z => absurd z hk⟩
    obtain ⟨k1, k2⟩ := key
    by_cases h0 : a = 0
    · rw [if_pos h0] at k1
      exact ⟨hia, k1, fun z => by omega, k2⟩
    · rw [if_neg h0] at k1
      by_cases hl : mIsL (lv.getD (a - 1) none) = true
      · rw [if_pos hl] at k1
        by_cases hi3 : i = a - 1
        · subst hi3
          rw [List.getElem?_set, if_pos rfl] at k1
          split at k1 <;> simp at k1
        · rw [List.getElem?_set_ne (by omega)] at k1
          exact ⟨hia, k1, fun z => by omega, k2⟩
      · rw [if_neg hl] at k1
        refine ⟨hia, k1, fun z => hl ?_, k2⟩
        have e : a - 1 = i := by omega
        rw [e, List.getD_eq_getElem?_getD, k1]
        exact z.2
theorem mLoc.put {ρ : Nat → Nat} {ls ls' : Array Slot} {nL a : Nat} {lv : mLv} {v : mV} (h : mLoc ρ ls nL lv) (ha : a < nL) (hk : ¬ mKd v = 1)
    (h' : lv_has ls' nL ((a, mc ρ v) :: (mAs ρ nL lv).filter (fun q => !(q.1 == a) && !(q.1 + 1 == a && q.2.category == 2)))) : mLoc ρ ls' nL (mPut lv a v) := by
  refine ⟨by rw [mPut_len]; exact h.1, h'.1, h'.2.1, fun i w hi => ?_⟩
  rcases mPut_at (by rw [h.1]; exact ha) hi with ⟨rfl, rfl⟩ | ⟨h1, h2, h3, -⟩
  · exact h'.2.2 _ List.mem_cons_self
  · refine h'.2.2 (i, mc ρ w) (List.mem_cons_of_mem _ (List.mem_filter.mpr ⟨mAs_mem (h.lt h2) h2, ?_⟩))
    dsimp only
    rw [mIsL_cat]
    have e1 : (i == a) = false := beq_eq_false_iff_ne.mpr h1
    rw [e1]
    cases hb : (i + 1 == a) with
    | false => rfl
    | true =>
      cases hm : mIsL (some w) with
      | false => rfl
      | true => exact absurd ⟨beq_iff_eq.mp hb, hm⟩ h3
theorem mLoc.putL {ρ : Nat → Nat} {ls ls' : Array Slot} {nL a : Nat} {lv : mLv} {v : mV} (h : mLoc ρ ls nL lv) (ha : a + 1 < nL) (hk : mKd v = 1)
    (h' : lv_has ls' nL ((a, mc ρ v) :: (mAs ρ nL lv).filter (fun q => !(q.1 == a) && (!(q.1 == a + 1) && !(q.1 + 1 == a && q.2.category == 2))))) : mLoc ρ ls' nL (mPut lv a v) := by
  refine ⟨by rw [mPut_len]; exact h.1, h'.1, h'.2.1, fun i w hi => ?_⟩
  rcases mPut_at (by rw [h.1]; omega) hi with ⟨rfl, rfl⟩ | ⟨h1, h2, h3, h4⟩
  · exact h'.2.2 _ List.mem_cons_self
  · refine h'.2.2 (i, mc ρ w) (List.mem_cons_of_mem _ (List.mem_filter.mpr ⟨mAs_mem (h.lt h2) h2, ?_⟩))
    dsimp only
    rw [mIsL_cat]
    have e1 : (i == a) = false := beq_eq_false_iff_ne.mpr h1
    have e2 : (i == a + 1) = false := beq_eq_false_iff_ne.mpr (h4 hk)
    rw [e1, e2]
    cases hb : (i + 1 == a) with
    | false => rfl
    | true =>
      cases hm : mIsL (some w) with
      | false => rfl
      | true => exact absurd ⟨beq_iff_eq.mp hb, hm⟩ h3
theorem mMask_at : ∀ (bs : List Bool) (lv : mLv) (i : Nat) (w : mV), (mMask bs lv)[i]? = some (some w) → lv[i]? = some (some w)
  | [], _, _, _, h => by simp [mMask] at h
  | _ :: _, [], _, _, h => by simp [mMask] at h
  | b :: bs, v :: vs, 0, w, h => by
    simp only [mMask, List.getElem?_cons_zero] at h ⊢
    split at h
    · exact h
    · cases h
  | b :: bs, v :: vs, i + 1, w, h => by
    simp only [mMask, List.getElem?_cons_succ] at h ⊢
    exact mMask_at bs vs i w h
theorem mMask_len : ∀ (bs : List Bool) (lv : mLv), bs.length = lv.length → (mMask bs lv).length = lv.length
  | [], [], _ => rfl
  | [], _ :: _, h => by cases h
  | _ :: _, [], h => by cases h
  | b :: bs, v :: vs, h => by
    simp only [mMask, List.length_cons] at h ⊢
    rw [mMask_len bs vs (Nat.succ.inj h)]
theorem mLoc.mask {ρ : Nat → Nat} {ls : Array Slot} {nL : Nat} {lv : mLv} (h : mLoc ρ ls nL lv) {bs : List Bool} (hb : bs.length = nL) : mLoc ρ ls nL (mMask bs lv) :=
  ⟨by rw [mMask_len _ _ (by rw [hb, h.1]), h.1], h.2.1, h.2.2.1, fun i v hi => h.2.2.2 i v (mMask_at bs lv i v hi)⟩
-- the cells
def mFv (ρ : Nat → Nat) (fl : Nat → Bool) (f : Int → Int) (i c k : Nat) : Value := match fk c k with
  | 0 => .int (Int32.ofInt (f k))
  | 1 => .long (Int64.ofInt (f k))
  | 2 => va_rf ((RF fl i k).map ρ)
  | _ => .int (Int32.ofInt (f k))
def mNf (c : Nat) : Nat := (mTF.getD c []).length
def mAr (ρ : Nat → Nat) (fl : Nat → Bool) (f : Int → Int) (i : Nat) : (Nat → Int32) ⊕ (Nat → Int64) ⊕ (Nat → UInt32) ⊕ (Nat → UInt64) ⊕ (Nat → Option Nat) :=
  if sk i < 23 then .inl (fun j => Int32.ofInt (f j)) else if sk i = 23 then .inr (.inl (fun j => Int64.ofInt (f j))) else .inr (.inr (.inr (.inr (fun j => (RF fl i j).map ρ))))
def mE (cA : Nat → ClassId) (ρ : Nat → Nat) (fl : Nat → Bool) (f : Int → Int) (i : Nat) : va_E :=
  if sk i < 20 then .inr (sk i - 1, (List.range (mNf (sk i - 1))).map (fun k => mFv ρ fl f i (sk i - 1) k)) else .inl (cA (sk i), (sn i, mAr ρ fl f i))
def mIds (fl : Nat → Bool) : List Nat := (List.range 240).filter (al fl)
def mWs (cA : Nat → ClassId) (ρ : Nat → Nat) (fl : Nat → Bool) (I : mM) : va_W := (mIds fl).map (fun i => (ρ i, mE cA ρ fl (I i) i))
def mA (ρ : Nat → Nat) (fl : Nat → Bool) : Nat → Prop := fun q => ∃ i, al fl i = true ∧ q = ρ i
def mTys (cA : Nat → ClassId) : List (ClassId × FieldType) := [(cA 20, .int), (cA 21, .byte), (cA 22, .boolean), (cA 23, .long), (cA 24, .object "NineOnGrass$State"), (cA 25, .object "NineOnGrass$Tray")]
theorem al_lt {fl : Nat → Bool} {i : Nat} (h : al fl i = true) : i < 240 := by
  rcases Nat.lt_or_ge i 240 with q | q
  · exact q
  · unfold al at h
    have hl : mTA.length = 240 := by decide +kernel
    have e : mTA.getD i 0 = 0 := by
      rw [List.getD_eq_getElem?_getD, List.getElem?_eq_none (by omega)]; rfl
    rw [e] at h; cases h
theorem mIds_at {fl : Nat → Bool} {i : Nat} (h : al fl i = true) : ∃ q0 : Nat, (mIds fl)[q0]? = some i :=
  List.getElem?_of_mem (List.mem_filter.mpr ⟨List.mem_range.mpr (al_lt h), h⟩)
theorem mIds_nd (fl : Nat → Bool) : (mIds fl).Nodup := List.Nodup.sublist List.filter_sublist List.nodup_range
theorem mWs_at (cA : Nat → ClassId) (ρ : Nat → Nat) {fl : Nat → Bool} (I : mM) {i q0 : Nat} (h : (mIds fl)[q0]? = some i) : (mWs cA ρ fl I)[q0]? = some (ρ i, mE cA ρ fl (I i) i) := by
  unfold mWs
  rw [List.getElem?_map, h]; rfl
theorem mWs_set (cA : Nat → ClassId) (ρ : Nat → Nat) {fl : Nat → Bool} {I I' : mM} {i q0 : Nat} (h : (mIds fl)[q0]? = some i) (ho : ∀ j, j ≠ i → I' j = I j) : (mWs cA ρ fl I).set q0 (ρ i, mE cA ρ fl (I' i) i) = mWs cA ρ fl I' := by
  apply List.ext_getElem?
  intro k
  rw [List.getElem?_set]
  by_cases hk : q0 = k
  · subst hk
    have hl : q0 < (mWs cA ρ fl I).length := by
      unfold mWs; rw [List.length_map]; exact (List.getElem?_eq_some_iff.mp h).1
    rw [if_pos rfl, if_pos hl, mWs_at cA ρ I' h]
  · rw [if_neg hk]
    unfold mWs
    rw [List.getElem?_map, List.getElem?_map]
    cases hj : (mIds fl)[k]? with
    | none => rfl
    | some j =>
      have hne : j ≠ i := fun e => by
        subst e
        have h1 := List.getElem?_eq_some_iff.mp h
        have h2 := List.getElem?_eq_some_iff.mp hj
        exact hk ((List.getElem_inj (mIds_nd fl) (h₀ := h1.1) (h₁ := h2.1)).mp (h1.2.trans h2.2.symm))
      show some (ρ j, mE cA ρ fl (I j) j) = some (ρ j, mE cA ρ fl (I' j) j)
      rw [ho j hne]
theorem mWs_ad (cA : Nat → ClassId) (ρ : Nat → Nat) (fl : Nat → Bool) (I : mM) {k : Nat} {q : Nat × va_E} (h : (mWs cA ρ fl I)[k]? = some q) : ∃ i, (mIds fl)[k]? = some i ∧ al fl i = true ∧ q = (ρ i, mE cA ρ fl (I i) i) := by
  unfold mWs at h
  rw [List.getElem?_map] at h
  cases hj : (mIds fl)[k]? with
  | none => rw [hj] at h; cases h
  | some i =>
    rw [hj] at h
    exact ⟨i, rfl, (List.mem_filter.mp (List.mem_of_getElem? hj)).2, (Option.some.inj h).symm⟩
theorem mD_any {cA : Nat → ClassId} {ρ : Nat → Nat} {fl : Nat → Bool} {I I' : mM} {A : Nat → Prop} (h : va_D A (mWs cA ρ fl I)) : va_D A (mWs cA ρ fl I') := by
  refine ⟨fun i j p q hp hq e => ?_, fun k q hk => ?_⟩
  · obtain ⟨i1, h1, -, rfl⟩ := mWs_ad cA ρ fl I' hp
    obtain ⟨j1, h2, -, rfl⟩ := mWs_ad cA ρ fl I' hq
    exact h.1 i j _ _ (mWs_at cA ρ I h1) (mWs_at cA ρ I h2) e
  · obtain ⟨i1, h1, -, rfl⟩ := mWs_ad cA ρ fl I' hk
    show A (ρ i1)
    exact h.2 k (ρ i1, mE cA ρ fl (I i1) i1) (mWs_at cA ρ I h1)
theorem mE_obj {cA : Nat → ClassId} {ρ : Nat → Nat} {fl : Nat → Bool} {f : Int → Int} {i a : Nat} (h : sk i = a + 1) (ha : a < 12) : mE cA ρ fl f i = .inr (a, (List.range (mNf a)).map (fun k => mFv ρ fl f i a k)) := by
  unfold mE
  rw [if_pos (by omega), h]; rfl
theorem mE_arr {cA : Nat → ClassId} {ρ : Nat → Nat} {fl : Nat → Bool} {f : Int → Int} {i : Nat} (h : 20 ≤ sk i) : mE cA ρ fl f i = .inl (cA (sk i), (sn i, mAr ρ fl f i)) := by
  unfold mE
  rw [if_neg (by omega)]
theorem mAr_i {ρ : Nat → Nat} {fl : Nat → Bool} {f : Int → Int} {i : Nat} (h : sk i < 23) : mAr ρ fl f i = .inl (fun j => Int32.ofInt (f j)) := by
  unfold mAr; rw [if_pos h]
theorem mAr_l {ρ : Nat → Nat} {fl : Nat → Bool} {f : Int → Int} {i : Nat} (h : sk i = 23) : mAr ρ fl f i = .inr (.inl (fun j => Int64.ofInt (f j))) := by
  unfold mAr; rw [if_neg (by omega), if_pos h]
theorem mAr_q {ρ : Nat → Nat} {fl : Nat → Bool} {f : Int → Int} {i : Nat} (h : 23 < sk i) : mAr ρ fl f i = .inr (.inr (.inr (.inr (fun j => (RF fl i j).map ρ)))) := by
  unfold mAr; rw [if_neg (by omega), if_neg (by omega)]
theorem mTys_at {cA : Nat → ClassId} {k : Nat} (h1 : 20 ≤ k) (h2 : k ≤ 25) : ∃ ty, (mTys cA)[k - 20]? = some (cA k, ty) := by
  have : k = 20 ∨ k = 21 ∨ k = 22 ∨ k = 23 ∨ k = 24 ∨ k = 25 := by omega
  rcases this with rfl | rfl | rfl | rfl | rfl | rfl <;> exact ⟨_, rfl⟩
theorem sk_cases (i : Nat) : sk i ≤ 12 ∨ (20 ≤ sk i ∧ sk i ≤ 25) := by
  rcases Nat.lt_or_ge i 240 with q | q
  · have h : ∀ i, i < 240 → sk i ≤ 12 ∨ (20 ≤ sk i ∧ sk i ≤ 25) := by decide +kernel
    exact h i q
  · left
    have hl : mTK.length = 240 := by decide +kernel
    have e : sk i = 0 := by
      unfold sk
      rw [List.getD_eq_getElem?_getD, List.getElem?_eq_none (by omega)]; rfl
    omega
end MWORLD
