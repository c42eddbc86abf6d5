section MSOUND2
theorem mU_in0 : ∀ w ∈ wsX00 ++ wsX10 ++ wsX20 ++ wsX30 ++ wsX40 ++ wsX50 ++ wsX60 ++ wsX70 ++ wsX80 ++ wsX90 ++ wsX100 ++ wsX110, w ∈ lw_tbl ∧ goodWord w = true := by decide +kernel
theorem mU_in {a : Nat} {r : vw_C} (h : vwCl[a]? = some r) : ∀ w ∈ u_ws r.1 r.2.1 r.2.2, w ∈ mBW := by
  intro w hw
  have key : w ∈ wsX00 ++ wsX10 ++ wsX20 ++ wsX30 ++ wsX40 ++ wsX50 ++ wsX60 ++ wsX70 ++ wsX80 ++ wsX90 ++ wsX100 ++ wsX110 := by
    simp only [List.mem_append]
    match a, h with
    | 0, h => cases h; exact Or.inl (Or.inl (Or.inl (Or.inl (Or.inl (Or.inl (Or.inl (Or.inl (Or.inl (Or.inl (Or.inl (hw)))))))))))
    | 1, h => cases h; exact Or.inl (Or.inl (Or.inl (Or.inl (Or.inl (Or.inl (Or.inl (Or.inl (Or.inl (Or.inl (Or.inr hw))))))))))
    | 2, h => cases h; exact Or.inl (Or.inl (Or.inl (Or.inl (Or.inl (Or.inl (Or.inl (Or.inl (Or.inl (Or.inr hw)))))))))
    | 3, h => cases h; exact Or.inl (Or.inl (Or.inl (Or.inl (Or.inl (Or.inl (Or.inl (Or.inl (Or.inr hw))))))))
    | 4, h => cases h; exact Or.inl (Or.inl (Or.inl (Or.inl (Or.inl (Or.inl (Or.inl (Or.inr hw)))))))
    | 5, h => cases h; exact Or.inl (Or.inl (Or.inl (Or.inl (Or.inl (Or.inl (Or.inr hw))))))
    | 6, h => cases h; exact Or.inl (Or.inl (Or.inl (Or.inl (Or.inl (Or.inr hw)))))
    | 7, h => cases h; exact Or.inl (Or.inl (Or.inl (Or.inl (Or.inr hw))))
    | 8, h => cases h; exact Or.inl (Or.inl (Or.inl (Or.inr hw)))
    | 9, h => cases h; exact Or.inl (Or.inl (Or.inr hw))
    | 10, h => cases h; exact Or.inl (Or.inr hw)
    | 11, h => cases h; exact Or.inr hw
    | a + 12, h => simp [vwCl] at h
  have h2 := mU_in0 w key
  exact List.mem_filter.mpr h2
theorem mU_nm {a : Nat} {r : vw_C} (h : vwCl[a]? = some r) : ∀ x, x < r.2.2 → ∀ y, y < r.2.2 → x ≠ y → (r.2.1 x).2.1 ≠ (r.2.1 y).2.1 := by
  match a, h with
  | 0, h => cases h; exact nmX0
  | 1, h => cases h; exact nmX1
  | 2, h => cases h; exact nmX2
  | 3, h => cases h; exact nmX3
  | 4, h => cases h; exact nmX4
  | 5, h => cases h; exact nmX5
  | 6, h => cases h; exact nmX6
  | 7, h => cases h; exact nmX7
  | 8, h => cases h; exact nmX8
  | 9, h => cases h; exact nmX9
  | 10, h => cases h; exact nmX10
  | 11, h => cases h; exact nmX11
  | a + 12, h => simp [vwCl] at h
def mTy (r : vw_C) (k : Nat) : FieldType := (parseFieldDescriptor (r.2.1 k).2.2.1).getD .int
theorem mU_ty {a : Nat} {r : vw_C} (h : vwCl[a]? = some r) : ∀ k, k < r.2.2 → parseFieldDescriptor (r.2.1 k).2.2.1 = some (mTy r k) := by
  intro k hk
  have e : ∃ ty, parseFieldDescriptor (r.2.1 k).2.2.1 = some ty := by
    match a, h with
    | 0, h => cases h; exact ⟨_, tyX0_ok k hk⟩
    | 1, h => cases h; exact ⟨_, tyX1_ok k hk⟩
    | 2, h => cases h; exact ⟨_, tyX2_ok k hk⟩
    | 3, h => cases h; exact ⟨_, tyX3_ok k hk⟩
    | 4, h => cases h; exact ⟨_, tyX4_ok k hk⟩
    | 5, h => cases h; exact ⟨_, tyX5_ok k hk⟩
    | 6, h => cases h; exact ⟨_, tyX6_ok k hk⟩
    | 7, h => cases h; exact ⟨_, tyX7_ok k hk⟩
    | 8, h => cases h; exact ⟨_, tyX8_ok k hk⟩
    | 9, h => cases h; exact ⟨_, tyX9_ok k hk⟩
    | 10, h => cases h; exact ⟨_, tyX10_ok k hk⟩
    | 11, h => cases h; exact ⟨_, tyX11_ok k hk⟩
    | a + 12, h => simp [vwCl] at h
  obtain ⟨ty, e⟩ := e
  unfold mTy
  rw [e]; rfl
theorem mU_n {a : Nat} {r : vw_C} (h : vwCl[a]? = some r) : mNf a = r.2.2 ∧ a < 12 := by
  match a, h with
  | 0, h => cases h; exact ⟨rfl, by omega⟩
  | 1, h => cases h; exact ⟨rfl, by omega⟩
  | 2, h => cases h; exact ⟨rfl, by omega⟩
  | 3, h => cases h; exact ⟨rfl, by omega⟩
  | 4, h => cases h; exact ⟨rfl, by omega⟩
  | 5, h => cases h; exact ⟨rfl, by omega⟩
  | 6, h => cases h; exact ⟨rfl, by omega⟩
  | 7, h => cases h; exact ⟨rfl, by omega⟩
  | 8, h => cases h; exact ⟨rfl, by omega⟩
  | 9, h => cases h; exact ⟨rfl, by omega⟩
  | 10, h => cases h; exact ⟨rfl, by omega⟩
  | 11, h => cases h; exact ⟨rfl, by omega⟩
  | a + 12, h => simp [vwCl] at h
theorem mFv_get {ρ : Nat → Nat} {fl : Nat → Bool} {I : mM} {i a b : Nat} : mFv ρ fl (I i) i a b = mc ρ (mGet fl I i b (fk a b)) := by
  unfold mFv mGet
  generalize fk a b = q
  match q with
  | 0 => rfl
  | 1 => rfl
  | 2 => exact (mc_R ρ _).symm
  | _ + 3 => rfl
theorem mObj_at {ρ : Nat → Nat} {fl : Nat → Bool} {I : mM} {i a b : Nat} (hb : b < mNf a) : ((List.range (mNf a)).map (fun k => mFv ρ fl (I i) i a k))[b]? = some (mc ρ (mGet fl I i b (fk a b))) := by
  rw [List.getElem?_map, List.getElem?_range hb, ← mFv_get]; rfl
theorem mSet_at {I : mM} {i : Nat} {k v : Int} : mSet I i k v i = fun b => if b = k then v else I i b := by
  funext b; unfold mSet; simp
theorem mSet_ne {I : mM} {i j : Nat} {k v : Int} (h : j ≠ i) : mSet I i k v j = I j := by
  funext b; unfold mSet; rw [if_neg (fun z => h z.1)]
theorem mObj_set {ρ : Nat → Nat} {fl : Nat → Bool} {I : mM} {i a b : Nat} {x : Int} (v : Value) (hv : mFv ρ fl (mSet I i b x i) i a b = v) : ((List.range (mNf a)).map (fun k => mFv ρ fl (I i) i a k)).set b v = (List.range (mNf a)).map (fun k => mFv ρ fl (mSet I i b x i) i a k) := by
  apply List.ext_getElem?
  intro n
  rw [List.getElem?_set]
  by_cases hn : b = n
  · subst hn
    rw [if_pos rfl]
    by_cases hl : b < mNf a
    · rw [if_pos (by rw [List.length_map, List.length_range]; exact hl), List.getElem?_map, List.getElem?_range hl, ← hv]; rfl
    · rw [if_neg (by rw [List.length_map, List.length_range]; exact hl), List.getElem?_map, List.getElem?_eq_none (by rw [List.length_range]; omega)]; rfl
  · rw [if_neg hn, List.getElem?_map, List.getElem?_map]
    by_cases hl : n < mNf a
    · rw [List.getElem?_range hl]
      show some (mFv ρ fl (I i) i a n) = some (mFv ρ fl (mSet I i b x i) i a n)
      have e : mSet I i b x i n = I i n := by unfold mSet; rw [if_neg (by omega)]
      unfold mFv
      rw [e]
    · rw [List.getElem?_eq_none (by rw [List.length_range]; omega)]
      rfl
section SO
variable {p : Program} {l : Launch} {e : Env} {R : Room} {s : State} {m : MethodId} {args : Array Value} {below : List Frame} {meth : Method} {c : Code} {Qs : State → Prop} {nL : Nat} {D : va_G} {cA : Nat → ClassId} {ρ : Nat → Nat} {fl : Nat → Bool} {acc acs : Nat → Nat} {cc : ByteArray} {own : String} {ro : mRo} {pc : Nat} {lv : mLv} {st : mSt} {I : mM} {k : mK}
theorem so_get {a b idx : Nat} {r : vw_C} (F : mFx p s m args c cc nL own D cA ρ fl ro) (hk : ∀ lv st I, k lv st I → mAW p l e R s m args below meth c Qs nL D cA ρ fl acc acs (pc + 3) lv st I) (ha : acc pc ≤ acc (pc + 3) ∧ acs pc ≤ acs (pc + 3)) (hr : vwCl[a]? = some r) (hb2 : b < r.2.2) (hd : decode cc pc = .ok (.getfield idx, 3)) (hw : Cond.fieldLink own idx (r.2.1 b).1 (r.2.1 b).2.1 (r.2.1 b).2.2.1 ∈ mBW) (h : w_get fl a b (fk a b) k lv st I) : mAW p l e R s m args below meth c Qs nL D cA ρ fl acc acs (pc) lv st I := by
  obtain ⟨hx, hb, hml, hown, hts, hK, hE, hro⟩ := F
  intro H locs ls cells slots hc1 hs1 hP hD hS hl
  rcases st with _ | ⟨v, st⟩
  · exact absurd h id
  rcases v with y | y | _ | i <;> first | exact absurd h id | skip
  obtain ⟨⟨h1, h2⟩, h3⟩ := h
  obtain ⟨q0, hq⟩ := mIds_at h2
  have hat := mWs_at cA ρ I hq
  rw [mE_obj h1 (mU_n hr).2] at hat
  exact va_get hx hb hts (mU_in hr) hown hK hP q0 hat hr b hb2 (hts _ hw) (fun _ z => z) (mObj_at (by rw [(mU_n hr).1]; exact hb2)) hd (hk _ _ _ h3 H locs ls cells slots (Nat.le_trans hc1 ha.1) (Nat.le_trans hs1 ha.2) hP hD hS hl)
theorem so_getN {a b idx : Nat} {r : vw_C} {host : String} (F : mFx p s m args c cc nL own D cA ρ fl ro) (hk : ∀ lv st I, k lv st I → mAW p l e R s m args below meth c Qs nL D cA ρ fl acc acs (pc + 3) lv st I) (ha : acc pc ≤ acc (pc + 3) ∧ acs pc ≤ acs (pc + 3)) (hr : vwCl[a]? = some r) (hb2 : b < r.2.2) (hd : decode cc pc = .ok (.getfield idx, 3)) (hw : Cond.fieldLinkNest own idx (r.2.1 b).1 (r.2.1 b).2.1 (r.2.1 b).2.2.1 host ∈ mNG) (h : w_get fl a b (fk a b) k lv st I) : mAW p l e R s m args below meth c Qs nL D cA ρ fl acc acs (pc) lv st I := by
  obtain ⟨hx, hb, hml, hown, hts, hK, hE, hro⟩ := F
  intro H locs ls cells slots hc1 hs1 hP hD hS hl
  rcases st with _ | ⟨v, st⟩
  · exact absurd h id
  rcases v with y | y | _ | i <;> first | exact absurd h id | skip
  obtain ⟨⟨h1, h2⟩, h3⟩ := h
  obtain ⟨q0, hq⟩ := mIds_at h2
  have hat := mWs_at cA ρ I hq
  rw [mE_obj h1 (mU_n hr).2] at hat
  exact va_getN hx hb hts (mU_in hr) hown hK hP q0 hat hr b hb2 (va_Nw.use rfl (hE.1 _ hw)) (fun _ z => z) (mObj_at (by rw [(mU_n hr).1]; exact hb2)) hd (hk _ _ _ h3 H locs ls cells slots (Nat.le_trans hc1 ha.1) (Nat.le_trans hs1 ha.2) hP hD hS hl)
theorem so_putI {a b idx : Nat} {r : vw_C} (F : mFx p s m args c cc nL own D cA ρ fl ro) (hk : ∀ lv st I, k lv st I → mAW p l e R s m args below meth c Qs nL D cA ρ fl acc acs (pc + 3) lv st I) (ha : acc pc ≤ acc (pc + 3) ∧ acs pc ≤ acs (pc + 3)) (hf : fk a b = 0) (hr : vwCl[a]? = some r) (hb2 : b < r.2.2) (hfin : (r.2.1 b).2.2.2 = false) (hd2 : parseFieldDescriptor (r.2.1 b).2.2.1 = some .int) (hd : decode cc pc = .ok (.putfield idx, 3)) (hw : Cond.fieldLink own idx (r.2.1 b).1 (r.2.1 b).2.1 (r.2.1 b).2.2.1 ∈ mBW) (h : w_put fl a b (fk a b) k lv st I) : mAW p l e R s m args below meth c Qs nL D cA ρ fl acc acs (pc) lv st I := by
  obtain ⟨hx, hb, hml, hown, hts, hK, hE, hro⟩ := F
  intro H locs ls cells slots hc1 hs1 hP hD hS hl
  rcases st with _ | ⟨v, _ | ⟨w, st⟩⟩
  · exact absurd h id
  · rcases v with y | y | r <;> exact absurd h id
  rcases v with x | x | r <;> first | exact absurd h id | skip
  all_goals (rcases w with y | y | _ | i <;> first | exact absurd h id | skip)
  all_goals (obtain ⟨⟨h1, h2⟩, h3, h4⟩ := h; rw [hf] at h3)
  · obtain ⟨q0, hq⟩ := mIds_at h2
    have hat := mWs_at cA ρ I hq
    rw [mE_obj h1 (mU_n hr).2] at hat
    refine va_put hx hb hts (mU_in hr) (mTy r) (mU_ty hr) (mU_nm hr) hown hK hP hD hS q0 hat hr b hb2 (hts _ hw) (fun _ z => z) hfin hd2 (v := mc ρ (mI x)) rfl rfl (by rw [List.length_map, List.length_range, (mU_n hr).1]; exact hb2) hd ?_
    intro H1 locs1 hP1 hD1 hS1
    have hset := mObj_set (ρ := ρ) (fl := fl) (I := I) (i := i) (a := a) (b := b) (x := x) (mc ρ (mI x)) (by unfold mFv; rw [hf, mSet_at]; dsimp only; rw [if_pos rfl]; rfl)
    rw [hset, ← mE_obj (cA := cA) h1 (mU_n hr).2, mWs_set cA ρ hq (fun j hj => mSet_ne hj)] at hP1 hD1
    exact hk _ _ _ h4 H1 locs1 ls cells slots (Nat.le_trans hc1 ha.1) (Nat.le_trans hs1 ha.2) hP1 hD1 hS1 hl
  · omega

theorem so_putZ {a b idx : Nat} {r : vw_C} (F : mFx p s m args c cc nL own D cA ρ fl ro) (hk : ∀ lv st I, k lv st I → mAW p l e R s m args below meth c Qs nL D cA ρ fl acc acs (pc + 3) lv st I) (ha : acc pc ≤ acc (pc + 3) ∧ acs pc ≤ acs (pc + 3)) (hf : fk a b = 3) (hr : vwCl[a]? = some r) (hb2 : b < r.2.2) (hfin : (r.2.1 b).2.2.2 = false) (hd2 : parseFieldDescriptor (r.2.1 b).2.2.1 = some .boolean) (hd : decode cc pc = .ok (.putfield idx, 3)) (hw : Cond.fieldLink own idx (r.2.1 b).1 (r.2.1 b).2.1 (r.2.1 b).2.2.1 ∈ mBW) (h : w_put fl a b (fk a b) k lv st I) : mAW p l e R s m args below meth c Qs nL D cA ρ fl acc acs (pc) lv st I := by
  obtain ⟨hx, hb, hml, hown, hts, hK, hE, hro⟩ := F
  intro H locs ls cells slots hc1 hs1 hP hD hS hl
  rcases st with _ | ⟨v, _ | ⟨w, st⟩⟩
  · exact absurd h id
  · rcases v with y | y | r <;> exact absurd h id
  rcases v with x | x | r <;> first | exact absurd h id | skip
  all_goals (rcases w with y | y | _ | i <;> first | exact absurd h id | skip)
  all_goals (obtain ⟨⟨h1, h2⟩, h3, h4⟩ := h; rw [hf] at h3)
  · obtain ⟨q0, hq⟩ := mIds_at h2
    have hat := mWs_at cA ρ I hq
    rw [mE_obj h1 (mU_n hr).2] at hat
    refine va_put hx hb hts (mU_in hr) (mTy r) (mU_ty hr) (mU_nm hr) hown hK hP hD hS q0 hat hr b hb2 (hts _ hw) (fun _ z => z) hfin hd2 (v := mc ρ (mI x)) (by rcases h3 with h3 | ⟨_, rfl | rfl⟩ <;> first | (cases h3; done) | rfl) (by rcases h3 with h3 | ⟨_, rfl | rfl⟩ <;> first | (cases h3; done) | rfl) (by rw [List.length_map, List.length_range, (mU_n hr).1]; exact hb2) hd ?_
    intro H1 locs1 hP1 hD1 hS1
    have hset := mObj_set (ρ := ρ) (fl := fl) (I := I) (i := i) (a := a) (b := b) (x := x) (mc ρ (mI x)) (by unfold mFv; rw [hf, mSet_at]; dsimp only; rw [if_pos rfl]; rfl)
    rw [hset, ← mE_obj (cA := cA) h1 (mU_n hr).2, mWs_set cA ρ hq (fun j hj => mSet_ne hj)] at hP1 hD1
    exact hk _ _ _ h4 H1 locs1 ls cells slots (Nat.le_trans hc1 ha.1) (Nat.le_trans hs1 ha.2) hP1 hD1 hS1 hl
  · omega

theorem so_putL {a b idx : Nat} {r : vw_C} (F : mFx p s m args c cc nL own D cA ρ fl ro) (hk : ∀ lv st I, k lv st I → mAW p l e R s m args below meth c Qs nL D cA ρ fl acc acs (pc + 3) lv st I) (ha : acc pc ≤ acc (pc + 3) ∧ acs pc ≤ acs (pc + 3)) (hf : fk a b = 1) (hr : vwCl[a]? = some r) (hb2 : b < r.2.2) (hfin : (r.2.1 b).2.2.2 = false) (hd2 : parseFieldDescriptor (r.2.1 b).2.2.1 = some .long) (hd : decode cc pc = .ok (.putfield idx, 3)) (hw : Cond.fieldLink own idx (r.2.1 b).1 (r.2.1 b).2.1 (r.2.1 b).2.2.1 ∈ mBW) (h : w_put fl a b (fk a b) k lv st I) : mAW p l e R s m args below meth c Qs nL D cA ρ fl acc acs (pc) lv st I := by
  obtain ⟨hx, hb, hml, hown, hts, hK, hE, hro⟩ := F
  intro H locs ls cells slots hc1 hs1 hP hD hS hl
  rcases st with _ | ⟨v, _ | ⟨w, st⟩⟩
  · exact absurd h id
  · rcases v with y | y | r <;> exact absurd h id
  rcases v with x | x | r <;> first | exact absurd h id | skip
  all_goals (rcases w with y | y | _ | i <;> first | exact absurd h id | skip)
  all_goals (obtain ⟨⟨h1, h2⟩, h3, h4⟩ := h; rw [hf] at h3)
  · omega
  · obtain ⟨q0, hq⟩ := mIds_at h2
    have hat := mWs_at cA ρ I hq
    rw [mE_obj h1 (mU_n hr).2] at hat
    refine va_put hx hb hts (mU_in hr) (mTy r) (mU_ty hr) (mU_nm hr) hown hK hP hD hS q0 hat hr b hb2 (hts _ hw) (fun _ z => z) hfin hd2 (v := mc ρ (mL x)) rfl rfl (by rw [List.length_map, List.length_range, (mU_n hr).1]; exact hb2) hd ?_
    intro H1 locs1 hP1 hD1 hS1
    have hset := mObj_set (ρ := ρ) (fl := fl) (I := I) (i := i) (a := a) (b := b) (x := x) (mc ρ (mL x)) (by unfold mFv; rw [hf, mSet_at]; dsimp only; rw [if_pos rfl]; rfl)
    rw [hset, ← mE_obj (cA := cA) h1 (mU_n hr).2, mWs_set cA ρ hq (fun j hj => mSet_ne hj)] at hP1 hD1
    exact hk _ _ _ h4 H1 locs1 ls cells slots (Nat.le_trans hc1 ha.1) (Nat.le_trans hs1 ha.2) hP1 hD1 hS1 hl

theorem so_ald20  (F : mFx p s m args c cc nL own D cA ρ fl ro) (hk : ∀ lv st I, k lv st I → mAW p l e R s m args below meth c Qs nL D cA ρ fl acc acs (pc + 1) lv st I) (ha : acc pc ≤ acc (pc + 1) ∧ acs pc ≤ acs (pc + 1)) (hd : decode cc pc = .ok (.iaload, 1)) (h : w_ald fl ro 20 k lv st I) : mAW p l e R s m args below meth c Qs nL D cA ρ fl acc acs (pc) lv st I := by
  obtain ⟨hx, hb, hml, hown, hts, hK, hE, hro⟩ := F
  intro H locs ls cells slots hc1 hs1 hP hD hS hl
  rcases st with _ | ⟨v, _ | ⟨w, st⟩⟩
  · exact absurd h id
  · rcases v with y | y | r <;> exact absurd h id
  rcases v with j | j | r <;> first | exact absurd h id | skip
  rcases w with y | y | _ | i <;> first | exact absurd h id | skip
  unfold w_ald at h
  dsimp only at h
  cases hri : ro i with
  | some nf =>
    obtain ⟨n, f⟩ := nf
    rw [hri] at h
    obtain ⟨⟨h0, h1, h2⟩, h3⟩ := h
    obtain ⟨cell, r1, r2, r3, r4, -, r6, r7, r8⟩ := hro i n f hri
    have hin := mi_in h1 h2 r8
    have hcell : H[ρ i]? = some cell := (hS.2.1 _ (Array.getElem?_eq_some_iff.mp r1).1 r7).trans r1
    have hidx : (Int32.ofInt j).toNatClampNeg < n := by rw [hin.2]; omega
    refine W.iald hx hb hcell r2 r3 (fun z => hin.1 (z.elim Or.inl (fun z => Or.inr (Nat.le_trans r4 z)))) (r6 _ hidx) (g := F0 m pc ls _) rfl rfl hd ?_
    rw [hin.2, mi_toN h1]
    exact (hk _ _ _ h3 H locs ls cells slots (Nat.le_trans hc1 ha.1) (Nat.le_trans hs1 ha.2) hP hD hS hl)
  | none =>
    rw [hri] at h
    obtain ⟨⟨h0, ha2⟩, ⟨h1, h2⟩, h3⟩ := h
    obtain ⟨q0, hq⟩ := mIds_at ha2
    have hat := mWs_at cA ρ I hq
    rw [mE_arr (by omega), mAr_i (by omega), h0] at hat
    have hin := mi_in h1 h2 (sn_lt i)
    refine va_iald hx hb hK hP q0 0 hat rfl hin.1 hd ?_
    have e : Int32.ofInt (I i ((Int32.ofInt j).toNatClampNeg : Nat)) = Int32.ofInt (I i j) := by rw [hin.2, mi_toN h1]
    rw [e]
    exact (hk _ _ _ h3 H locs ls cells slots (Nat.le_trans hc1 ha.1) (Nat.le_trans hs1 ha.2) hP hD hS hl)
theorem so_ald21  (F : mFx p s m args c cc nL own D cA ρ fl ro) (hk : ∀ lv st I, k lv st I → mAW p l e R s m args below meth c Qs nL D cA ρ fl acc acs (pc + 1) lv st I) (ha : acc pc ≤ acc (pc + 1) ∧ acs pc ≤ acs (pc + 1)) (hd : decode cc pc = .ok (.baload, 1)) (h : w_ald fl ro 21 k lv st I) : mAW p l e R s m args below meth c Qs nL D cA ρ fl acc acs (pc) lv st I := by
  obtain ⟨hx, hb, hml, hown, hts, hK, hE, hro⟩ := F
  intro H locs ls cells slots hc1 hs1 hP hD hS hl
  rcases st with _ | ⟨v, _ | ⟨w, st⟩⟩
  · exact absurd h id
  · rcases v with y | y | r <;> exact absurd h id
  rcases v with j | j | r <;> first | exact absurd h id | skip
  rcases w with y | y | _ | i <;> first | exact absurd h id | skip
  unfold w_ald at h
  dsimp only at h
  cases hri : ro i with
  | some nf =>
    obtain ⟨n, f⟩ := nf
    rw [hri] at h
    obtain ⟨⟨h0, h1, h2⟩, h3⟩ := h
    exact absurd h0 (by decide)
  | none =>
    rw [hri] at h
    obtain ⟨⟨h0, ha2⟩, ⟨h1, h2⟩, h3⟩ := h
    obtain ⟨q0, hq⟩ := mIds_at ha2
    have hat := mWs_at cA ρ I hq
    rw [mE_arr (by omega), mAr_i (by omega), h0] at hat
    have hin := mi_in h1 h2 (sn_lt i)
    refine va_bald hx hb hK hP q0 1 hat rfl hin.1 hd ?_
    have e : Int32.ofInt (I i ((Int32.ofInt j).toNatClampNeg : Nat)) = Int32.ofInt (I i j) := by rw [hin.2, mi_toN h1]
    rw [e]
    exact (hk _ _ _ h3 H locs ls cells slots (Nat.le_trans hc1 ha.1) (Nat.le_trans hs1 ha.2) hP hD hS hl)
theorem so_ald22  (F : mFx p s m args c cc nL own D cA ρ fl ro) (hk : ∀ lv st I, k lv st I → mAW p l e R s m args below meth c Qs nL D cA ρ fl acc acs (pc + 1) lv st I) (ha : acc pc ≤ acc (pc + 1) ∧ acs pc ≤ acs (pc + 1)) (hd : decode cc pc = .ok (.baload, 1)) (h : w_ald fl ro 22 k lv st I) : mAW p l e R s m args below meth c Qs nL D cA ρ fl acc acs (pc) lv st I := by
  obtain ⟨hx, hb, hml, hown, hts, hK, hE, hro⟩ := F
  intro H locs ls cells slots hc1 hs1 hP hD hS hl
  rcases st with _ | ⟨v, _ | ⟨w, st⟩⟩
  · exact absurd h id
  · rcases v with y | y | r <;> exact absurd h id
  rcases v with j | j | r <;> first | exact absurd h id | skip
  rcases w with y | y | _ | i <;> first | exact absurd h id | skip
  unfold w_ald at h
  dsimp only at h
  cases hri : ro i with
  | some nf =>
    obtain ⟨n, f⟩ := nf
    rw [hri] at h
    obtain ⟨⟨h0, h1, h2⟩, h3⟩ := h
    exact absurd h0 (by decide)
  | none =>
    rw [hri] at h
    obtain ⟨⟨h0, ha2⟩, ⟨h1, h2⟩, h3⟩ := h
    obtain ⟨q0, hq⟩ := mIds_at ha2
    have hat := mWs_at cA ρ I hq
    rw [mE_arr (by omega), mAr_i (by omega), h0] at hat
    have hin := mi_in h1 h2 (sn_lt i)
    refine va_zald hx hb hK hP q0 2 hat rfl hin.1 hd ?_
    have e : Int32.ofInt (I i ((Int32.ofInt j).toNatClampNeg : Nat)) = Int32.ofInt (I i j) := by rw [hin.2, mi_toN h1]
    rw [e]
    exact (hk _ _ _ h3 H locs ls cells slots (Nat.le_trans hc1 ha.1) (Nat.le_trans hs1 ha.2) hP hD hS hl)
theorem so_ald23  (F : mFx p s m args c cc nL own D cA ρ fl ro) (hk : ∀ lv st I, k lv st I → mAW p l e R s m args below meth c Qs nL D cA ρ fl acc acs (pc + 1) lv st I) (ha : acc pc ≤ acc (pc + 1) ∧ acs pc ≤ acs (pc + 1)) (hd : decode cc pc = .ok (.laload, 1)) (h : w_ald fl ro 23 k lv st I) : mAW p l e R s m args below meth c Qs nL D cA ρ fl acc acs (pc) lv st I := by
  obtain ⟨hx, hb, hml, hown, hts, hK, hE, hro⟩ := F
  intro H locs ls cells slots hc1 hs1 hP hD hS hl
  rcases st with _ | ⟨v, _ | ⟨w, st⟩⟩
  · exact absurd h id
  · rcases v with y | y | r <;> exact absurd h id
  rcases v with j | j | r <;> first | exact absurd h id | skip
  rcases w with y | y | _ | i <;> first | exact absurd h id | skip
  unfold w_ald at h
  dsimp only at h
  cases hri : ro i with
  | some nf =>
    obtain ⟨n, f⟩ := nf
    rw [hri] at h
    obtain ⟨⟨h0, h1, h2⟩, h3⟩ := h
    exact absurd h0 (by decide)
  | none =>
    rw [hri] at h
    obtain ⟨⟨h0, ha2⟩, ⟨h1, h2⟩, h3⟩ := h
    obtain ⟨q0, hq⟩ := mIds_at ha2
    have hat := mWs_at cA ρ I hq
    rw [mE_arr (by omega), mAr_l h0, h0] at hat
    have hin := mi_in h1 h2 (sn_lt i)
    refine va_lald hx hb hK hP q0 3 hat rfl hin.1 hd ?_
    have e : Int64.ofInt (I i ((Int32.ofInt j).toNatClampNeg : Nat)) = Int64.ofInt (I i j) := by rw [hin.2, mi_toN h1]
    rw [e]
    exact (hk _ _ _ h3 H locs ls cells slots (Nat.le_trans hc1 ha.1) (Nat.le_trans hs1 ha.2) hP hD hS hl)
theorem so_ald24  (F : mFx p s m args c cc nL own D cA ρ fl ro) (hk : ∀ lv st I, k lv st I → mAW p l e R s m args below meth c Qs nL D cA ρ fl acc acs (pc + 1) lv st I) (ha : acc pc ≤ acc (pc + 1) ∧ acs pc ≤ acs (pc + 1)) (hd : decode cc pc = .ok (.aaload, 1)) (h : w_ald fl ro 24 k lv st I) : mAW p l e R s m args below meth c Qs nL D cA ρ fl acc acs (pc) lv st I := by
  obtain ⟨hx, hb, hml, hown, hts, hK, hE, hro⟩ := F
  intro H locs ls cells slots hc1 hs1 hP hD hS hl
  rcases st with _ | ⟨v, _ | ⟨w, st⟩⟩
  · exact absurd h id
  · rcases v with y | y | r <;> exact absurd h id
  rcases v with j | j | r <;> first | exact absurd h id | skip
  rcases w with y | y | _ | i <;> first | exact absurd h id | skip
  unfold w_ald at h
  dsimp only at h
  cases hri : ro i with
  | some nf =>
    obtain ⟨n, f⟩ := nf
    rw [hri] at h
    obtain ⟨⟨h0, h1, h2⟩, h3⟩ := h
    exact absurd h0 (by decide)
  | none =>
    rw [hri] at h
    obtain ⟨⟨h0, ha2⟩, ⟨h1, h2⟩, h3⟩ := h
    obtain ⟨q0, hq⟩ := mIds_at ha2
    have hat := mWs_at cA ρ I hq
    rw [mE_arr (by omega), mAr_q (by omega), h0] at hat
    have hin := mi_in h1 h2 (sn_lt i)
    refine va_aldq hx hb hK hP q0 4 hat rfl hin.1 hd ?_
    rw [hin.2]
    have hh := (hk _ _ _ h3 H locs ls cells slots (Nat.le_trans hc1 ha.1) (Nat.le_trans hs1 ha.2) hP hD hS hl)
    rw [List.map_cons, if_neg (by decide), if_neg (by decide), mc_R] at hh
    exact hh
theorem so_ald25  (F : mFx p s m args c cc nL own D cA ρ fl ro) (hk : ∀ lv st I, k lv st I → mAW p l e R s m args below meth c Qs nL D cA ρ fl acc acs (pc + 1) lv st I) (ha : acc pc ≤ acc (pc + 1) ∧ acs pc ≤ acs (pc + 1)) (hd : decode cc pc = .ok (.aaload, 1)) (h : w_ald fl ro 25 k lv st I) : mAW p l e R s m args below meth c Qs nL D cA ρ fl acc acs (pc) lv st I := by
  obtain ⟨hx, hb, hml, hown, hts, hK, hE, hro⟩ := F
  intro H locs ls cells slots hc1 hs1 hP hD hS hl
  rcases st with _ | ⟨v, _ | ⟨w, st⟩⟩
  · exact absurd h id
  · rcases v with y | y | r <;> exact absurd h id
  rcases v with j | j | r <;> first | exact absurd h id | skip
  rcases w with y | y | _ | i <;> first | exact absurd h id | skip
  unfold w_ald at h
  dsimp only at h
  cases hri : ro i with
  | some nf =>
    obtain ⟨n, f⟩ := nf
    rw [hri] at h
    obtain ⟨⟨h0, h1, h2⟩, h3⟩ := h
    exact absurd h0 (by decide)
  | none =>
    rw [hri] at h
    obtain ⟨⟨h0, ha2⟩, ⟨h1, h2⟩, h3⟩ := h
    obtain ⟨q0, hq⟩ := mIds_at ha2
    have hat := mWs_at cA ρ I hq
    rw [mE_arr (by omega), mAr_q (by omega), h0] at hat
    have hin := mi_in h1 h2 (sn_lt i)
    refine va_aldq hx hb hK hP q0 5 hat rfl hin.1 hd ?_
    rw [hin.2]
    have hh := (hk _ _ _ h3 H locs ls cells slots (Nat.le_trans hc1 ha.1) (Nat.le_trans hs1 ha.2) hP hD hS hl)
    rw [List.map_cons, if_neg (by decide), if_neg (by decide), mc_R] at hh
    exact hh
theorem so_ast20  (F : mFx p s m args c cc nL own D cA ρ fl ro) (hk : ∀ lv st I, k lv st I → mAW p l e R s m args below meth c Qs nL D cA ρ fl acc acs (pc + 1) lv st I) (ha : acc pc ≤ acc (pc + 1) ∧ acs pc ≤ acs (pc + 1)) (hd : decode cc pc = .ok (.iastore, 1)) (h : w_ast fl 20 k lv st I) : mAW p l e R s m args below meth c Qs nL D cA ρ fl acc acs (pc) lv st I := by
  obtain ⟨hx, hb, hml, hown, hts, hK, hE, hro⟩ := F
  intro H locs ls cells slots hc1 hs1 hP hD hS hl
  rcases st with _ | ⟨v, _ | ⟨u, _ | ⟨w, st⟩⟩⟩
  · exact absurd h id
  · rcases v with y | y | r <;> exact absurd h id
  · rcases v with y | y | r <;> (try exact absurd h id) <;> (rcases u with y | y | r <;> exact absurd h id)
  rcases v with x | x | r <;> first | exact absurd h id | skip
  all_goals (rcases u with j | j | r <;> first | exact absurd h id | skip)
  all_goals (rcases w with y | y | _ | i <;> first | exact absurd h id | skip)
  all_goals (obtain ⟨⟨h0, ha2⟩, ⟨h1, h2⟩, h3, h4⟩ := h)
  · obtain ⟨q0, hq⟩ := mIds_at ha2
    have hat := mWs_at cA ρ I hq
    rw [mE_arr (by omega), mAr_i (by omega), h0] at hat
    have hin := mi_in h1 h2 (sn_lt i)
    refine va_iast hx hb hK hP hD hS q0 0 hat rfl hin.1 hd ?_
    intro H1 locs1 hP1 hD1 hS1
    have e : (ρ i, (.inl (cA 20, (sn i, .inl (upd (fun j => Int32.ofInt (I i j)) (Int32.ofInt j).toNatClampNeg (Int32.ofInt x)))) : va_E)) = (ρ i, mE cA ρ fl (mSet I i j x i) i) := by
      rw [mE_arr (by omega), mAr_i (by omega), h0, mSet_at, hin.2]
      congr 4
      congr 1
      funext b
      unfold upd
      by_cases hbj : b = j.toNat
      · rw [if_pos hbj]
        dsimp only
        rw [if_pos (by omega)]
      · rw [if_neg hbj]
        dsimp only
        rw [if_neg (by omega)]
    rw [e, mWs_set cA ρ hq (fun j hj => mSet_ne hj)] at hP1 hD1
    exact hk _ _ _ h4 H1 locs1 ls cells slots (Nat.le_trans hc1 ha.1) (Nat.le_trans hs1 ha.2) hP1 hD1 hS1 hl
  · omega

theorem so_ast21  (F : mFx p s m args c cc nL own D cA ρ fl ro) (hk : ∀ lv st I, k lv st I → mAW p l e R s m args below meth c Qs nL D cA ρ fl acc acs (pc + 1) lv st I) (ha : acc pc ≤ acc (pc + 1) ∧ acs pc ≤ acs (pc + 1)) (hd : decode cc pc = .ok (.bastore, 1)) (h : w_ast fl 21 k lv st I) : mAW p l e R s m args below meth c Qs nL D cA ρ fl acc acs (pc) lv st I := by
  obtain ⟨hx, hb, hml, hown, hts, hK, hE, hro⟩ := F
  intro H locs ls cells slots hc1 hs1 hP hD hS hl
  rcases st with _ | ⟨v, _ | ⟨u, _ | ⟨w, st⟩⟩⟩
  · exact absurd h id
  · rcases v with y | y | r <;> exact absurd h id
  · rcases v with y | y | r <;> (try exact absurd h id) <;> (rcases u with y | y | r <;> exact absurd h id)
  rcases v with x | x | r <;> first | exact absurd h id | skip
  all_goals (rcases u with j | j | r <;> first | exact absurd h id | skip)
  all_goals (rcases w with y | y | _ | i <;> first | exact absurd h id | skip)
  all_goals (obtain ⟨⟨h0, ha2⟩, ⟨h1, h2⟩, h3, h4⟩ := h)
  · obtain ⟨q0, hq⟩ := mIds_at ha2
    have hat := mWs_at cA ρ I hq
    rw [mE_arr (by omega), mAr_i (by omega), h0] at hat
    have hin := mi_in h1 h2 (sn_lt i)
    refine va_bast hx hb hK hP hD hS q0 1 hat rfl hin.1 hd ?_
    intro H1 locs1 hP1 hD1 hS1
    rw [nar_byte (by omega) (by omega)] at hP1 hD1
    have e : (ρ i, (.inl (cA 21, (sn i, .inl (upd (fun j => Int32.ofInt (I i j)) (Int32.ofInt j).toNatClampNeg (Int32.ofInt x)))) : va_E)) = (ρ i, mE cA ρ fl (mSet I i j x i) i) := by
      rw [mE_arr (by omega), mAr_i (by omega), h0, mSet_at, hin.2]
      congr 4
      congr 1
      funext b
      unfold upd
      by_cases hbj : b = j.toNat
      · rw [if_pos hbj]
        dsimp only
        rw [if_pos (by omega)]
      · rw [if_neg hbj]
        dsimp only
        rw [if_neg (by omega)]
    rw [e, mWs_set cA ρ hq (fun j hj => mSet_ne hj)] at hP1 hD1
    exact hk _ _ _ h4 H1 locs1 ls cells slots (Nat.le_trans hc1 ha.1) (Nat.le_trans hs1 ha.2) hP1 hD1 hS1 hl
  · omega

theorem so_ast22  (F : mFx p s m args c cc nL own D cA ρ fl ro) (hk : ∀ lv st I, k lv st I → mAW p l e R s m args below meth c Qs nL D cA ρ fl acc acs (pc + 1) lv st I) (ha : acc pc ≤ acc (pc + 1) ∧ acs pc ≤ acs (pc + 1)) (hd : decode cc pc = .ok (.bastore, 1)) (h : w_ast fl 22 k lv st I) : mAW p l e R s m args below meth c Qs nL D cA ρ fl acc acs (pc) lv st I := by
  obtain ⟨hx, hb, hml, hown, hts, hK, hE, hro⟩ := F
  intro H locs ls cells slots hc1 hs1 hP hD hS hl
  rcases st with _ | ⟨v, _ | ⟨u, _ | ⟨w, st⟩⟩⟩
  · exact absurd h id
  · rcases v with y | y | r <;> exact absurd h id
  · rcases v with y | y | r <;> (try exact absurd h id) <;> (rcases u with y | y | r <;> exact absurd h id)
  rcases v with x | x | r <;> first | exact absurd h id | skip
  all_goals (rcases u with j | j | r <;> first | exact absurd h id | skip)
  all_goals (rcases w with y | y | _ | i <;> first | exact absurd h id | skip)
  all_goals (obtain ⟨⟨h0, ha2⟩, ⟨h1, h2⟩, h3, h4⟩ := h)
  · obtain ⟨q0, hq⟩ := mIds_at ha2
    have hat := mWs_at cA ρ I hq
    rw [mE_arr (by omega), mAr_i (by omega), h0] at hat
    have hin := mi_in h1 h2 (sn_lt i)
    refine va_zast hx hb hK hP hD hS q0 2 hat rfl hin.1 hd ?_
    intro H1 locs1 hP1 hD1 hS1
    rw [nar_bool (by omega)] at hP1 hD1
    have e : (ρ i, (.inl (cA 22, (sn i, .inl (upd (fun j => Int32.ofInt (I i j)) (Int32.ofInt j).toNatClampNeg (Int32.ofInt x)))) : va_E)) = (ρ i, mE cA ρ fl (mSet I i j x i) i) := by
      rw [mE_arr (by omega), mAr_i (by omega), h0, mSet_at, hin.2]
      congr 4
      congr 1
      funext b
      unfold upd
      by_cases hbj : b = j.toNat
      · rw [if_pos hbj]
        dsimp only
        rw [if_pos (by omega)]
      · rw [if_neg hbj]
        dsimp only
        rw [if_neg (by omega)]
    rw [e, mWs_set cA ρ hq (fun j hj => mSet_ne hj)] at hP1 hD1
    exact hk _ _ _ h4 H1 locs1 ls cells slots (Nat.le_trans hc1 ha.1) (Nat.le_trans hs1 ha.2) hP1 hD1 hS1 hl
  · omega

theorem so_ast23  (F : mFx p s m args c cc nL own D cA ρ fl ro) (hk : ∀ lv st I, k lv st I → mAW p l e R s m args below meth c Qs nL D cA ρ fl acc acs (pc + 1) lv st I) (ha : acc pc ≤ acc (pc + 1) ∧ acs pc ≤ acs (pc + 1)) (hd : decode cc pc = .ok (.lastore, 1)) (h : w_ast fl 23 k lv st I) : mAW p l e R s m args below meth c Qs nL D cA ρ fl acc acs (pc) lv st I := by
  obtain ⟨hx, hb, hml, hown, hts, hK, hE, hro⟩ := F
  intro H locs ls cells slots hc1 hs1 hP hD hS hl
  rcases st with _ | ⟨v, _ | ⟨u, _ | ⟨w, st⟩⟩⟩
  · exact absurd h id
  · rcases v with y | y | r <;> exact absurd h id
  · rcases v with y | y | r <;> (try exact absurd h id) <;> (rcases u with y | y | r <;> exact absurd h id)
  rcases v with x | x | r <;> first | exact absurd h id | skip
  all_goals (rcases u with j | j | r <;> first | exact absurd h id | skip)
  all_goals (rcases w with y | y | _ | i <;> first | exact absurd h id | skip)
  all_goals (obtain ⟨⟨h0, ha2⟩, ⟨h1, h2⟩, h3, h4⟩ := h)
  · omega
  · obtain ⟨q0, hq⟩ := mIds_at ha2
    have hat := mWs_at cA ρ I hq
    rw [mE_arr (by omega), mAr_l h0, h0] at hat
    have hin := mi_in h1 h2 (sn_lt i)
    refine va_last hx hb hK hP hD hS q0 3 hat rfl hin.1 hd ?_
    intro H1 locs1 hP1 hD1 hS1
    have e : (ρ i, (.inl (cA 23, (sn i, .inr (.inl (vp_updL (fun j => Int64.ofInt (I i j)) (Int32.ofInt j).toNatClampNeg (Int64.ofInt x))))) : va_E)) = (ρ i, mE cA ρ fl (mSet I i j x i) i) := by
      rw [mE_arr (by omega), mAr_l h0, h0, mSet_at, hin.2]
      congr 4
      congr 2
      funext b
      unfold vp_updL
      by_cases hbj : b = j.toNat
      · rw [if_pos hbj]
        dsimp only
        rw [if_pos (by omega)]
      · rw [if_neg hbj]
        dsimp only
        rw [if_neg (by omega)]
    rw [e, mWs_set cA ρ hq (fun j hj => mSet_ne hj)] at hP1 hD1
    exact hk _ _ _ h4 H1 locs1 ls cells slots (Nat.le_trans hc1 ha.1) (Nat.le_trans hs1 ha.2) hP1 hD1 hS1 hl

theorem so_len  (F : mFx p s m args c cc nL own D cA ρ fl ro) (hk : ∀ lv st I, k lv st I → mAW p l e R s m args below meth c Qs nL D cA ρ fl acc acs (pc + 1) lv st I) (ha : acc pc ≤ acc (pc + 1) ∧ acs pc ≤ acs (pc + 1)) (hd : decode cc pc = .ok (.arraylength, 1)) (h : w_len fl ro k lv st I) : mAW p l e R s m args below meth c Qs nL D cA ρ fl acc acs (pc) lv st I := by
  obtain ⟨hx, hb, hml, hown, hts, hK, hE, hro⟩ := F
  intro H locs ls cells slots hc1 hs1 hP hD hS hl
  rcases st with _ | ⟨v, st⟩
  · exact absurd h id
  rcases v with y | y | _ | i <;> first | exact absurd h id | skip
  unfold w_len at h
  dsimp only at h
  cases hri : ro i with
  | some nf =>
    obtain ⟨n, f⟩ := nf
    rw [hri] at h
    obtain ⟨cell, r1, r2, r3, r4, r5, r6, r7, r8⟩ := hro i n f hri
    have hcell : H[ρ i]? = some cell := (hS.2.1 _ (Array.getElem?_eq_some_iff.mp r1).1 r7).trans r1
    refine W.alen hx hb hcell r2 r5 (g := F0 m pc ls _) rfl rfl hd ?_
    have e : Int32.ofNat n = Int32.ofInt (n : Int) := Int32.ofInt_eq_ofNat.symm
    rw [e]
    exact (hk _ _ _ h H locs ls cells slots (Nat.le_trans hc1 ha.1) (Nat.le_trans hs1 ha.2) hP hD hS hl)
  | none =>
    rw [hri] at h
    obtain ⟨⟨h0, h5, ha2⟩, h3⟩ := h
    obtain ⟨q0, hq⟩ := mIds_at ha2
    have hat := mWs_at cA ρ I hq
    rw [mE_arr h0] at hat
    obtain ⟨ty, hty⟩ := mTys_at (cA := cA) h0 h5
    exact va_alen hx hb hK hP q0 (sk i - 20) hat hty (v := Int32.ofInt (sn i : Int)) Int32.ofInt_eq_ofNat.symm hd (hk _ _ _ h3 H locs ls cells slots (Nat.le_trans hc1 ha.1) (Nat.le_trans hs1 ha.2) hP hD hS hl)
end SO
end MSOUND2
