section MSOUND4
/-- String.length and charAt of the texts that are read sign by sign -/
def mTxM (l : Launch) : Prop :=
  (∀ (ρ : Nat → Nat) (fl : Nat → Bool) (i : Nat), i < 12 → Met l yJ0_length_8abf5 (mWd (yJ0_length_8abf5, cJ0_length_8abf5, 1, some .int, (0, 0, 0, 0))) (mRm (1, 40, 0, 0)) (fun v U => v = #[.ref (ρ (250 + i))] ∧ mEnv ρ fl U U.heap) (fun _ st o t => o = .returned (some (.int (Int32.ofInt (mTxLen i : Int)))) ∧ t.heap = st.heap) 0 0 (fun _ => False)) ∧
  (∀ (ρ : Nat → Nat) (fl : Nat → Bool) (i : Nat) (j : Int), i < 12 → 0 ≤ j → j < mTxLen i → Met l yJ0_charAt_5068e (mWd (yJ0_charAt_5068e, cJ0_charAt_5068e, 2, some .char, (0, 0, 0, 0))) (mRm (4, 120, 0, 0)) (fun v U => v = #[.ref (ρ (250 + i)), .int (Int32.ofInt j)] ∧ mEnv ρ fl U U.heap) (fun _ st o t => o = .returned (some (.int (Int32.ofInt (mTxCh i j)))) ∧ t.heap = st.heap) 0 0 (fun _ => False))
section SO
variable {p : Program} {l : Launch} {e : Env} {R : Room} {s : State} {m : MethodId} {args : Array Value} {below : List Frame} {meth : Method} {c : Code} {Qs : State → Prop} {nL : Nat} {D : va_G} {cA : Nat → ClassId} {ρ : Nat → Nat} {fl : Nat → Bool} {acc acs : Nat → Nat} {cc : ByteArray} {own : String} {ro : mRo} {pc : Nat} {lv : mLv} {st : mSt} {I : mM} {k : mK}
theorem so_gsX {idx : Nat} (F : mFx p s m args c cc nL own D cA ρ fl ro) (hk : ∀ lv st I, k lv st I → mAW p l e R s m args below meth c Qs nL D cA ρ fl acc acs (pc + 3) lv st I) (ha : acc pc ≤ acc (pc + 3) ∧ acs pc ≤ acs (pc + 3)) (hd : decode cc pc = .ok (.getstatic idx, 3)) (hw : Cond.fieldLinkNest own idx "NineOnGrass" "STEP_X" "[I" "NineOnGrass" ∈ mNG) (h : (fun lv st I => k lv (mR (some (240 + 0)) :: st) I) lv st I) : mAW p l e R s m args below meth c Qs nL D cA ρ fl acc acs (pc) lv st I := by
  obtain ⟨hx, hb, hml, hown, hts, hK, hE, hro⟩ := F
  intro H locs ls cells slots hc1 hs1 hP hD hS hl
  exact va_getsN hx hb hE.2.1.1 hS hown (va_Nw.use rfl (hE.1 _ hw)) (fun _ z => z) hd (hk _ _ _ h H locs ls cells slots (Nat.le_trans hc1 ha.1) (Nat.le_trans hs1 ha.2) hP hD hS hl)
theorem so_gsY {idx : Nat} (F : mFx p s m args c cc nL own D cA ρ fl ro) (hk : ∀ lv st I, k lv st I → mAW p l e R s m args below meth c Qs nL D cA ρ fl acc acs (pc + 3) lv st I) (ha : acc pc ≤ acc (pc + 3) ∧ acs pc ≤ acs (pc + 3)) (hd : decode cc pc = .ok (.getstatic idx, 3)) (hw : Cond.fieldLinkNest own idx "NineOnGrass" "STEP_Y" "[I" "NineOnGrass" ∈ mNG) (h : (fun lv st I => k lv (mR (some (240 + 1)) :: st) I) lv st I) : mAW p l e R s m args below meth c Qs nL D cA ρ fl acc acs (pc) lv st I := by
  obtain ⟨hx, hb, hml, hown, hts, hK, hE, hro⟩ := F
  intro H locs ls cells slots hc1 hs1 hP hD hS hl
  exact va_getsN hx hb hE.2.1.2.2.1 hS hown (va_Nw.use rfl (hE.1 _ hw)) (fun _ z => z) hd (hk _ _ _ h H locs ls cells slots (Nat.le_trans hc1 ha.1) (Nat.le_trans hs1 ha.2) hP hD hS hl)
theorem so_tx {idx a : Nat} {tx : String} (F : mFx p s m args c cc nL own D cA ρ fl ro) (hk : ∀ lv st I, k lv st I → mAW p l e R s m args below meth c Qs nL D cA ρ fl acc acs (pc + 2) lv st I) (ha : acc pc ≤ acc (pc + 2) ∧ acs pc ≤ acs (pc + 2)) (hd : decode cc pc = .ok (.ldc idx, 2)) (hw : (own, idx, tx, 250 + a) ∈ mStr) (h : (fun lv st I => k lv (mR (some (250 + a)) :: st) I) lv st I) : mAW p l e R s m args below meth c Qs nL D cA ρ fl acc acs (pc) lv st I := by
  obtain ⟨hx, hb, hml, hown, hts, hK, hE, hro⟩ := F
  intro H locs ls cells slots hc1 hs1 hP hD hS hl
  exact va_ldcS hx hb hown (hE.2.2.2.1 _ hw) hd (hk _ _ _ h H locs ls cells slots (Nat.le_trans hc1 ha.1) (Nat.le_trans hs1 ha.2) hP hD hS hl)
theorem so_mmax {idx : Nat} (F : mFx p s m args c cc nL own D cA ρ fl ro) (hk : ∀ lv st I, k lv st I → mAW p l e R s m args below meth c Qs nL D cA ρ fl acc acs (pc + 3) lv st I) (ha : acc pc ≤ acc (pc + 3) ∧ acs pc ≤ acs (pc + 3)) (hd : decode cc pc = .ok (.invokestatic idx, 3)) (w1 : Cond.methodLink own idx Lib.Math.max.name ∈ mBW) (w2 : Cond.static Lib.Math.max.name ∈ mBW) (w3 : Cond.initialized "java/lang/Math" ∈ mBW) (w4 : Cond.code Lib.Math.max.name Lib.Math.max.code 2 (some .int) ∈ mBW) (hR : 1 ≤ R.frames ∧ 23 ≤ R.locals) (hRc : acc (pc + 3) ≤ R.cells ∧ acs (pc + 3) ≤ R.slots) (h : w_mth 0 k lv st I) : mAW p l e R s m args below meth c Qs nL D cA ρ fl acc acs (pc) lv st I := by
  obtain ⟨hx, hb, hml, hown, hts, hK, hE, hro⟩ := F
  intro H locs ls cells slots hc1 hs1 hP hD hS hl
  rcases st with _ | ⟨v, _ | ⟨w, st⟩⟩
  · exact absurd h id
  · rcases v with y | y | r <;> exact absurd h id
  rcases v with y | y | r <;> first | exact absurd h id | skip
  rcases w with x | x | r <;> first | exact absurd h id | skip
  obtain ⟨⟨h1, h2⟩, hcat, h3⟩ := h
  have hh := (hk _ _ _ h3 H locs ls cells slots (Nat.le_trans hc1 ha.1) (Nat.le_trans hs1 ha.2) hP hD hS hl)
  rw [List.map_cons, mc_I, (mi_max h1 h2).symm] at hh
  exact va_mmax hx hb (by rw [hml, hl.2.1]) hown (hts _ w1) (hts _ w2) (hts _ w3) (hts _ w4) hR.1 (by rw [mc_cats]; omega) (by omega) (by omega) hd hh
theorem mi_min {x y : Int} (hx : mrg x) (hy : mrg y) : (if Int32.ofInt y < Int32.ofInt x then Int32.ofInt y else Int32.ofInt x) = Int32.ofInt (min x y) := by
  by_cases h : y < x
  · rw [if_pos ((mi_lt hy hx).mpr h), Int.min_eq_right (by omega)]
  · rw [if_neg (fun z => h ((mi_lt hy hx).mp z)), Int.min_eq_left (by omega)]
theorem so_mmin {idx : Nat} (F : mFx p s m args c cc nL own D cA ρ fl ro) (hk : ∀ lv st I, k lv st I → mAW p l e R s m args below meth c Qs nL D cA ρ fl acc acs (pc + 3) lv st I) (ha : acc pc ≤ acc (pc + 3) ∧ acs pc ≤ acs (pc + 3)) (hd : decode cc pc = .ok (.invokestatic idx, 3)) (w1 : Cond.methodLink own idx Lib.Math.min.name ∈ mBW) (w2 : Cond.static Lib.Math.min.name ∈ mBW) (w3 : Cond.initialized "java/lang/Math" ∈ mBW) (w4 : Cond.code Lib.Math.min.name Lib.Math.min.code 2 (some .int) ∈ mBW) (hR : 1 ≤ R.frames ∧ 23 ≤ R.locals) (hRc : acc (pc + 3) ≤ R.cells ∧ acs (pc + 3) ≤ R.slots) (h : w_mth 1 k lv st I) : mAW p l e R s m args below meth c Qs nL D cA ρ fl acc acs (pc) lv st I := by
  obtain ⟨hx, hb, hml, hown, hts, hK, hE, hro⟩ := F
  intro H locs ls cells slots hc1 hs1 hP hD hS hl
  rcases st with _ | ⟨v, _ | ⟨w, st⟩⟩
  · exact absurd h id
  · rcases v with y | y | r <;> exact absurd h id
  rcases v with y | y | r <;> first | exact absurd h id | skip
  rcases w with x | x | r <;> first | exact absurd h id | skip
  obtain ⟨⟨h1, h2⟩, hcat, h3⟩ := h
  have hh := (hk _ _ _ h3 H locs ls cells slots (Nat.le_trans hc1 ha.1) (Nat.le_trans hs1 ha.2) hP hD hS hl)
  rw [List.map_cons, mc_I, (mi_min h1 h2).symm] at hh
  exact va_mmin hx hb (by rw [hml, hl.2.1]) hown (hts _ w1) (hts _ w2) (hts _ w3) (hts _ w4) hR.1 (by rw [mc_cats]; omega) (by omega) (by omega) hd hh
theorem ml_max {x y : Int} (hx : mrl x) (hy : mrl y) : (if Int64.ofInt y < Int64.ofInt x then Int64.ofInt x else Int64.ofInt y) = Int64.ofInt (max x y) := by
  by_cases h : y < x
  · rw [if_pos ((ml_lt hy hx).mpr h), Int.max_eq_left (by omega)]
  · rw [if_neg (fun z => h ((ml_lt hy hx).mp z)), Int.max_eq_right (by omega)]
theorem mi_abs {x : Int} (hx : mrg x) (h0 : x ≠ -2147483648) : (if 0 ≤ Int32.ofInt x then Int32.ofInt x else 0 - Int32.ofInt x) = Int32.ofInt (if 0 ≤ x then x else -x) := by
  by_cases h : 0 ≤ x
  · rw [if_pos (show 0 ≤ Int32.ofInt x from (mi_le mrg_0 hx).mpr h), if_pos h]
  · rw [if_neg (show ¬ 0 ≤ Int32.ofInt x from fun z => h ((mi_le mrg_0 hx).mp z)), if_neg h, Int32.ofInt_neg, Int32.zero_sub]
theorem so_lmax {idx : Nat} (F : mFx p s m args c cc nL own D cA ρ fl ro) (hk : ∀ lv st I, k lv st I → mAW p l e R s m args below meth c Qs nL D cA ρ fl acc acs (pc + 3) lv st I) (ha : acc pc ≤ acc (pc + 3) ∧ acs pc ≤ acs (pc + 3)) (hd : decode cc pc = .ok (.invokestatic idx, 3)) (w1 : Cond.methodLink own idx Lib.MathLoose.max_long.x ∈ mBW) (w2 : Cond.static Lib.MathLoose.max_long.x ∈ mBW) (w3 : Cond.initialized "java/lang/Math" ∈ mBW) (w4 : Cond.code Lib.MathLoose.max_long.x Lib.MathLoose.max_long.code 4 (some .long) ∈ mBW) (hR : 1 ≤ R.frames ∧ 23 ≤ R.locals) (hRc : acc (pc + 3) ≤ R.cells ∧ acs (pc + 3) ≤ R.slots) (h : w_mth 3 k lv st I) : mAW p l e R s m args below meth c Qs nL D cA ρ fl acc acs (pc) lv st I := by
  obtain ⟨hx, hb, hml, hown, hts, hK, hE, hro⟩ := F
  intro H locs ls cells slots hc1 hs1 hP hD hS hl
  rcases st with _ | ⟨v, _ | ⟨w, st⟩⟩
  · exact absurd h id
  · rcases v with y | y | r <;> exact absurd h id
  rcases v with y | y | r <;> first | exact absurd h id | skip
  rcases w with x | x | r <;> first | exact absurd h id | skip
  obtain ⟨⟨h1, h2⟩, hcat, h3⟩ := h
  have hh := (hk _ _ _ h3 H locs ls cells slots (Nat.le_trans hc1 ha.1) (Nat.le_trans hs1 ha.2) hP hD hS hl)
  rw [List.map_cons, mc_L, (ml_max h1 h2).symm] at hh
  exact va_mmax_long hx hb (by rw [hml, hl.2.1]) hown (hts _ w1) (hts _ w2) (hts _ w3) (hts _ w4) hR.1 (by rw [mc_cats]; omega) (by omega) (by omega) hd hh
theorem so_mabs {idx : Nat} (F : mFx p s m args c cc nL own D cA ρ fl ro) (hk : ∀ lv st I, k lv st I → mAW p l e R s m args below meth c Qs nL D cA ρ fl acc acs (pc + 3) lv st I) (ha : acc pc ≤ acc (pc + 3) ∧ acs pc ≤ acs (pc + 3)) (hd : decode cc pc = .ok (.invokestatic idx, 3)) (w1 : Cond.methodLink own idx Lib.Math.abs.name ∈ mBW) (w2 : Cond.static Lib.Math.abs.name ∈ mBW) (w3 : Cond.initialized "java/lang/Math" ∈ mBW) (w4 : Cond.code Lib.Math.abs.name Lib.Math.abs.code 1 (some .int) ∈ mBW) (hR : 1 ≤ R.frames ∧ 23 ≤ R.locals) (hRc : acc (pc + 3) ≤ R.cells ∧ acs (pc + 3) ≤ R.slots) (h : w_mth 2 k lv st I) : mAW p l e R s m args below meth c Qs nL D cA ρ fl acc acs (pc) lv st I := by
  obtain ⟨hx, hb, hml, hown, hts, hK, hE, hro⟩ := F
  intro H locs ls cells slots hc1 hs1 hP hD hS hl
  rcases st with _ | ⟨v, st⟩
  · exact absurd h id
  rcases v with x | x | r <;> first | exact absurd h id | skip
  obtain ⟨⟨h1, h2⟩, hcat, h3⟩ := h
  have hh := (hk _ _ _ h3 H locs ls cells slots (Nat.le_trans hc1 ha.1) (Nat.le_trans hs1 ha.2) hP hD hS hl)
  rw [List.map_cons, mc_I, (mi_abs h1 h2).symm] at hh
  exact va_mabs hx hb (by rw [hml, hl.2.1]) hown (hts _ w1) (hts _ w2) (hts _ w3) (hts _ w4) hR.1 (by rw [mc_cats]; omega) (by omega) (by omega) hd hh
theorem so_cpy {idx : Nat} (F : mFx p s m args c cc nL own D cA ρ fl ro) (hk : ∀ lv st I, k lv st I → mAW p l e R s m args below meth c Qs nL D cA ρ fl acc acs (pc + 3) lv st I) (ha : acc pc ≤ acc (pc + 3) ∧ acs pc ≤ acs (pc + 3)) (hd : decode cc pc = .ok (.invokestatic idx, 3)) (w1 : Cond.methodLink own idx arraycopyName ∈ mBW) (w2 : Cond.native arraycopyName ∈ mBW) (w3 : Cond.static arraycopyName ∈ mBW) (w4 : Cond.initialized "java/lang/System" ∈ mBW) (hR : 1 ≤ R.frames ∧ 60 ≤ R.locals) (h : w_cpy fl k lv st I) : mAW p l e R s m args below meth c Qs nL D cA ρ fl acc acs (pc) lv st I := by
  obtain ⟨hx, hb, hml, hown, hts, hK, hE, hro⟩ := F
  intro H locs ls cells slots hc1 hs1 hP hD hS hl
  rcases st with _ | ⟨v1, _ | ⟨v2, _ | ⟨v3, _ | ⟨v4, _ | ⟨v5, st⟩⟩⟩⟩⟩
  · exact absurd h id
  · rcases v1 with y | y | r <;> exact absurd h id
  · rcases v1 with y | y | r <;> (try exact absurd h id) <;> (rcases v2 with y | y | r <;> exact absurd h id)
  · rcases v1 with y | y | r <;> (try exact absurd h id) <;> (rcases v2 with y | y | r <;> (try exact absurd h id)) <;> (rcases v3 with y | y | _ | r <;> exact absurd h id)
  · rcases v1 with y | y | r <;> (try exact absurd h id) <;> (rcases v2 with y | y | r <;> (try exact absurd h id)) <;> (rcases v3 with y | y | _ | r <;> (try exact absurd h id)) <;> (rcases v4 with y | y | r <;> exact absurd h id)
  rcases v1 with n | n | n <;> first | exact absurd h id | skip
  rcases v2 with dp | dp | dp <;> first | exact absurd h id | skip
  rcases v3 with j | j | _ | j <;> first | exact absurd h id | skip
  rcases v4 with sp | sp | sp <;> first | exact absurd h id | skip
  rcases v5 with i | i | _ | i <;> first | exact absurd h id | skip
  obtain ⟨⟨i1, i2⟩, ⟨j1, j2⟩, ⟨k1, k2, k3, k4, k5⟩, hcat, h3⟩ := h
  obtain ⟨q0, hq0⟩ := mIds_at i2
  obtain ⟨q1, hq1⟩ := mIds_at j2
  have ha0 := mWs_at cA ρ I hq0
  have ha1 := mWs_at cA ρ I hq1
  rw [mE_arr (by omega), mAr_i (by omega), i1] at ha0
  rw [mE_arr (by omega), mAr_i (by omega), j1] at ha1
  have li := sn_lt i
  have lj := sn_lt j
  have rs : mrg sp := ⟨by omega, by omega⟩
  have rd : mrg dp := ⟨by omega, by omega⟩
  have rn : mrg n := ⟨by omega, by omega⟩
  have cs := mi_clamp (j := sp) k1 (by omega)
  have cd := mi_clamp (j := dp) k2 (by omega)
  have cn := mi_clamp (j := n) k3 (by omega)
  have hneg : ∀ {x : Int}, mrg x → 0 ≤ x → ¬ Int32.ofInt x < 0 := fun hx h0 z => by have := (mi_lt hx mrg_0).mp z; omega
  refine va_copyi hx hb (by rw [hml, hl.2.1]) hown (hts _ w1) (hts _ w2) (hts _ w3) (hts _ w4) hK hP hD hS q0 q1 0 0 ha0 ha1 rfl rfl rfl (hneg rs k1) (hneg rd k2) (hneg rn k3) (by rw [cs, cn]; omega) (by rw [cd, cn]; omega) (fun _ _ => rfl) hR.1 (by rw [mc_cats]; exact Nat.le_trans (Nat.add_le_add_right hcat _) (Nat.le_trans (by decide +kernel) hR.2)) hd ?_
  intro H1 locs1 hP1 hD1 hS1
  rw [cs, cd, cn] at hP1 hD1
  have e : (ρ j, (.inl (cA 20, (sn j, .inl (va_cpy (fun b => Int32.ofInt (I i b)) (fun b => Int32.ofInt (I j b)) sp.toNat dp.toNat n.toNat))) : va_E)) = (ρ j, mE cA ρ fl (mCpy I i j sp dp n j) j) := by
    rw [mE_arr (by omega), mAr_i (by omega), j1]
    congr 4
    congr 1
    funext b
    unfold va_cpy mCpy
    by_cases hb9 : dp.toNat ≤ b ∧ b < dp.toNat + n.toNat
    · rw [if_pos hb9, if_pos ⟨rfl, by omega, by omega⟩]
      have e5 : ((sp.toNat + (b - dp.toNat) : Nat) : Int) = sp + ((b : Int) - dp) := by omega
      dsimp only
      rw [e5]
    · rw [if_neg hb9, if_neg (fun z => hb9 ⟨by omega, by omega⟩)]
  rw [e, mWs_set cA ρ hq1 (fun j2 hj => by funext b; unfold mCpy; rw [if_neg (fun z => hj z.1)])] at hP1 hD1
  exact hk _ _ _ h3 H1 locs1 ls cells slots (Nat.le_trans hc1 ha.1) (Nat.le_trans hs1 ha.2) hP1 hD1 hS1 hl
theorem mSw_in {J : Nat → mK} {lv : mLv} {s : mSt} {I : mM} {y : Int} {d : Nat} : ∀ {x : Int} {ts : List Nat}, mSw J lv s I y d x ts → ∀ (n t : Nat), ts[n]? = some t → y = x + n → J t lv s I
  | _, [], _, n, t, h, _ => by simp at h
  | x, t0 :: ts, hh, 0, t, h, e => by
    simp only [List.getElem?_cons_zero, Option.some.injEq] at h
    subst h
    exact hh.1 (by omega)
  | x, t0 :: ts, hh, n + 1, t, h, e => by
    simp only [List.getElem?_cons_succ] at h
    exact mSw_in (hh.2 (by omega)) n t h (by omega)
theorem mSw_out {J : Nat → mK} {lv : mLv} {s : mSt} {I : mM} {y : Int} {d : Nat} : ∀ {x : Int} {ts : List Nat}, mSw J lv s I y d x ts → (y < x ∨ x + ts.length ≤ y) → J d lv s I
  | _, [], h, _ => h
  | x, t0 :: ts, hh, e => by
    simp only [List.length_cons] at e
    exact mSw_out (hh.2 (by omega)) (by omega)
theorem so_sw {J : Nat → mK} {lo : Int} {d len : Nat} {ts : List Nat} (F : mFx p s m args c cc nL own D cA ρ fl ro) (hJ : ∀ t, (t = d ∨ t ∈ ts) → (∀ lv st I, J t lv st I → mAW p l e R s m args below meth c Qs nL D cA ρ fl acc acs (t) lv st I) ∧ acc pc ≤ acc t ∧ acs pc ≤ acs t) (hd : decode cc pc = .ok (.tableswitch ((d : Int) - pc) lo (lo + (ts.length : Int) - 1) (ts.map (fun t => ((t : Nat) : Int) - pc)).toArray, len)) (h : w_sw J lo d ts lv st I) : mAW p l e R s m args below meth c Qs nL D cA ρ fl acc acs (pc) lv st I := by
  obtain ⟨hx, hb, hml, hown, hts, hK, hE, hro⟩ := F
  intro H locs ls cells slots hc1 hs1 hP hD hS hl
  rcases st with _ | ⟨v, st⟩
  · exact absurd h id
  rcases v with y | y | r <;> first | exact absurd h id | skip
  obtain ⟨hr, hsw⟩ := h
  by_cases hin : y < lo ∨ lo + (ts.length : Int) - 1 < y
  · obtain ⟨j1, j2, j3⟩ := hJ d (Or.inl rfl)
    exact lv_tableOut hx hb hd (by rw [mrg_to hr]; exact hin) (by omega) (j1 _ _ _ (mSw_out hsw (by omega)) H locs ls cells slots (by omega) (by omega) hP hD hS hl)
  · have hn : (y - lo).toNat < ts.length := by omega
    obtain ⟨t, ht⟩ : ∃ t, ts[(y - lo).toNat]? = some t := ⟨_, List.getElem?_eq_getElem hn⟩
    obtain ⟨j1, j2, j3⟩ := hJ t (Or.inr (List.mem_of_getElem? ht))
    refine lv_tableIn hx hb hd (by rw [mrg_to hr]; omega) (by rw [mrg_to hr]; omega) (off := (t : Int) - pc) ?_ (by omega) (j1 _ _ _ (mSw_in hsw _ t ht (by omega)) H locs ls cells slots (by omega) (by omega) hP hD hS hl)
    rw [mrg_to hr, List.getElem?_toArray, List.getElem?_map, ht]
    rfl
theorem so_txAfter {H : Heap} {locs : List Loc} {ls : Array Slot} {cells slots : Nat} {st0 : List Value} {rest : mSt} {v : Int} {free : Addr → Prop} (hf : ∀ q, ¬ free q) {Qa : State → Outcome → State → Prop}
    (hQ : ∀ st o t, Qa st o t → o = .returned (some (.int (Int32.ofInt v))) ∧ t.heap = st.heap)
    (hr : va_Run p l e R s m args below meth c H locs cells slots 0 0 (F0 m pc ls st0) (rest.map (mc ρ)) Qa free) (hP : va_P D vwCl (mWs cA ρ fl I) H)
    (hD : va_D (mA ρ fl) (mWs cA ρ fl I)) (hS : va_S (mA ρ fl) s.heap H locs) (hl : mLoc ρ ls nL lv) (hc : cells ≤ acc (pc + 3)) (hs : slots ≤ acs (pc + 3))
    (h1 : mAW p l e R s m args below meth c Qs nL D cA ρ fl acc acs (pc + 3) lv (mI v :: rest) I) : W p l e R s m args below meth c H locs cells slots Qs (F0 m pc ls st0) := by
  intro T hT X
  obtain ⟨v0, st₀, t, T', L, h0, X', hL, e1, e2, hq, st⟩ := hr T hT X
  obtain ⟨hv, hh⟩ := hQ _ _ _ hq
  cases hv
  have hL0 : L = [] := by
    cases L with
    | nil => rfl
    | cons a L => exact absurd (hL a List.mem_cons_self) (hf _)
  subst hL0
  have hH : T'.heap = H := by rw [e1, hh, h0]
  rw [List.append_nil] at X'
  obtain ⟨t2, a1, b1⟩ := h1 H locs ls (cells + 0) (slots + 0) hc hs hP hD hS hl T' hH X'
  exact ⟨t2, st t2 a1, b1⟩
theorem so_txl {idx : Nat} (F : mFx p s m args c cc nL own D cA ρ fl ro) (hT : mTxM l) (hk : ∀ lv st I, k lv st I → mAW p l e R s m args below meth c Qs nL D cA ρ fl acc acs (pc + 3) lv st I) (ha : acc pc ≤ acc (pc + 3) ∧ acs pc ≤ acs (pc + 3)) (hd : decode cc pc = .ok (.invokevirtual idx, 3)) (w1 : Cond.methodLink own idx yJ0_length_8abf5 ∈ mBW) (w2 : Cond.instanceMethod yJ0_length_8abf5 ∈ mBW) (w3 : Cond.selects "java/lang/String" yJ0_length_8abf5 yJ0_length_8abf5 ∈ mBW) (w4 : Cond.initialized "java/lang/String" ∈ mBW) (w5 : Cond.code yJ0_length_8abf5 cJ0_length_8abf5 1 (some .int) ∈ mBW) (hR : 2 ≤ R.frames ∧ 60 ≤ R.locals) (hRc : acc (pc + 3) ≤ R.cells ∧ acs (pc + 3) ≤ R.slots) (h : w_txl k lv st I) : mAW p l e R s m args below meth c Qs nL D cA ρ fl acc acs (pc) lv st I := by
  obtain ⟨hx, hb, hml, hown, hts, hK, hE, hro⟩ := F
  intro H locs ls cells slots hc1 hs1 hP hD hS hl
  rcases st with _ | ⟨v, st⟩
  · exact absurd h id
  rcases v with y | y | _ | i <;> first | exact absurd h id | skip
  obtain ⟨⟨hi1, hi2⟩, hcat, h3⟩ := h
  have hi3 : i - 250 < 12 := by have : mTx.length = 12 := rfl; omega
  have e9 : 250 + (i - 250) = i := by omega
  have hS0 := hE.2.2.2.2.1.kept hS.2.1
  obtain ⟨cell, o1, o2, o3, o4⟩ := (hS0.1 (i - 250) hi3).1
  dsimp only at o1
  rw [e9] at o1
  have hM := hT.1 ρ fl (i - 250) hi3
  rw [e9] at hM
  refine so_txAfter (rest := st) (v := mTxLen (i - 250)) (fun _ z => z) (fun _ _ _ z => z) (va_runV (C := "java/lang/String") (b := ρ i) (As := []) (rest := st.map (mc ρ)) ⟨hx, hb, hml, hown, hts⟩ hM ⟨callB_of 0 hts (mWd_good (t := (yJ0_length_8abf5, cJ0_length_8abf5, 1, some .int, (0, 0, 0, 0))) w5) rfl rfl rfl (hts _ w4) (hts _ w1) (by decide +kernel) ⟨hR.1, Nat.le_trans (by decide +kernel) hR.2⟩, hts _ w2, hts _ w3⟩ ⟨fun a U g mk hp => ⟨hp.1, hp.2.to (U := U.calling g mk a) (State.WarmedH.refl U) (fun _ _ _ => rfl)⟩, ⟨cell, o1, o2, o3⟩, fun U hU hW => ⟨rfl, by rw [hU]; exact hE.to hW hS.2.1⟩⟩ rfl rfl hl.2.1 rfl (lv_room (by rw [mc_cats]; exact hcat)) hd ⟨by omega, by omega⟩) hP hD hS hl (Nat.le_trans hc1 ha.1) (Nat.le_trans hs1 ha.2) (hk _ _ _ h3)
theorem so_txc {idx : Nat} (F : mFx p s m args c cc nL own D cA ρ fl ro) (hT : mTxM l) (hk : ∀ lv st I, k lv st I → mAW p l e R s m args below meth c Qs nL D cA ρ fl acc acs (pc + 3) lv st I) (ha : acc pc ≤ acc (pc + 3) ∧ acs pc ≤ acs (pc + 3)) (hd : decode cc pc = .ok (.invokevirtual idx, 3)) (w1 : Cond.methodLink own idx yJ0_charAt_5068e ∈ mBW) (w2 : Cond.instanceMethod yJ0_charAt_5068e ∈ mBW) (w3 : Cond.selects "java/lang/String" yJ0_charAt_5068e yJ0_charAt_5068e ∈ mBW) (w4 : Cond.initialized "java/lang/String" ∈ mBW) (w5 : Cond.code yJ0_charAt_5068e cJ0_charAt_5068e 2 (some .char) ∈ mBW) (hR : 5 ≤ R.frames ∧ 141 ≤ R.locals) (hRc : acc (pc + 3) ≤ R.cells ∧ acs (pc + 3) ≤ R.slots) (h : w_txc k lv st I) : mAW p l e R s m args below meth c Qs nL D cA ρ fl acc acs (pc) lv st I := by
  obtain ⟨hx, hb, hml, hown, hts, hK, hE, hro⟩ := F
  intro H locs ls cells slots hc1 hs1 hP hD hS hl
  rcases st with _ | ⟨v, _ | ⟨w, st⟩⟩
  · exact absurd h id
  · rcases v with y | y | r <;> exact absurd h id
  rcases v with j | j | r <;> first | exact absurd h id | skip
  rcases w with y | y | _ | i <;> first | exact absurd h id | skip
  obtain ⟨⟨hi1, hi2⟩, ⟨hj1, hj2⟩, hcat, h3⟩ := h
  have hi3 : i - 250 < 12 := by have : mTx.length = 12 := rfl; omega
  have e9 : 250 + (i - 250) = i := by omega
  have hS0 := hE.2.2.2.2.1.kept hS.2.1
  obtain ⟨cell, o1, o2, o3, o4⟩ := (hS0.1 (i - 250) hi3).1
  dsimp only at o1
  rw [e9] at o1
  have hM := hT.2 ρ fl (i - 250) j hi3 hj1 hj2
  rw [e9] at hM
  refine so_txAfter (rest := st) (v := mTxCh (i - 250) j) (fun _ z => z) (fun _ _ _ z => z) (va_runV (C := "java/lang/String") (b := ρ i) (As := [.int (Int32.ofInt j)]) (rest := st.map (mc ρ)) ⟨hx, hb, hml, hown, hts⟩ hM ⟨callB_of 1 hts (mWd_good (t := (yJ0_charAt_5068e, cJ0_charAt_5068e, 2, some .char, (0, 0, 0, 0))) w5) rfl rfl rfl (hts _ w4) (hts _ w1) (by decide +kernel) ⟨hR.1, Nat.le_trans (by decide +kernel) hR.2⟩, hts _ w2, hts _ w3⟩ ⟨fun a U g mk hp => ⟨hp.1, hp.2.to (U := U.calling g mk a) (State.WarmedH.refl U) (fun _ _ _ => rfl)⟩, ⟨cell, o1, o2, o3⟩, fun U hU hW => ⟨rfl, by rw [hU]; exact hE.to hW hS.2.1⟩⟩ rfl rfl hl.2.1 rfl (lv_room (by rw [mc_cats]; exact hcat)) hd ⟨by omega, by omega⟩) hP hD hS hl (Nat.le_trans hc1 ha.1) (Nat.le_trans hs1 ha.2) (hk _ _ _ h3)
end SO
end MSOUND4
