section MSOUND3
/-- .. and where a call has thrown an object of the class X -/
def mXW (p : Program) (l : Launch) (e : Env) (R : Room) (s : State) (m : MethodId) (args : Array Value) (below : List Frame) (meth : Method) (c : Code) (Qs : State → Prop) (nL : Nat) (D : va_G) (cA : Nat → ClassId) (ρ : Nat → Nat) (fl : Nat → Bool) (acc acs : Nat → Nat) (pc : Nat) (E : String) (lv : mLv) (I : mM) : Prop :=
  ∀ (H : Heap) (locs : List Loc) (ls : Array Slot) (cells slots : Nat) (rest : List Value) (ce : Cell) (q9 : Addr), cells ≤ acc (pc + 3) → slots ≤ acs (pc + 3) → va_P D vwCl (mWs cA ρ fl I) H → va_D (mA ρ fl) (mWs cA ρ fl I) → va_S (mA ρ fl) s.heap H locs → mLoc ρ ls nL lv →
    H[q9]? = some ce → ce.vm = .none → s.vm.findClass E = some ce.cls → vx_W p l e R s m args below meth c H locs cells slots Qs (F0 m pc ls rest) q9
theorem mWd_good {t : mCal} (h : Cond.code t.1 t.2.1 t.2.2.1 t.2.2.2.1 ∈ mBW) : GoodIn mBW (mWd t) := by
  intro w hw
  rcases List.mem_cons.mp hw with rfl | hw
  · exact ⟨h, mBW_good h⟩
  · exact ⟨hw, mBW_good hw⟩
section SO
variable {p : Program} {l : Launch} {e : Env} {R : Room} {s : State} {m : MethodId} {args : Array Value} {below : List Frame} {meth : Method} {c : Code} {Qs : State → Prop} {nL : Nat} {D : va_G} {cA : Nat → ClassId} {ρ : Nat → Nat} {fl : Nat → Bool} {acc acs : Nat → Nat} {cc : ByteArray} {own : String} {ro : mRo} {pc : Nat} {lv : mLv} {st : mSt} {I : mM} {k : mK}
theorem so_after {H : Heap} {locs : List Loc} {ls : Array Slot} {cells slots mc0 ms0 : Nat} {st0 : List Value} {rest : mSt} {a : Array Value} {Q : mO → mM → Prop}
    (hr : vx_Run p l e R s m args below meth c H locs cells slots mc0 ms0 (F0 m pc ls st0) (rest.map (mc ρ)) (mQc D cA ρ fl Q a) (mXc D cA ρ fl Q) (mA ρ fl))
    (hD : va_D (mA ρ fl) (mWs cA ρ fl I)) (hS : va_S (mA ρ fl) s.heap H locs) (hl : mLoc ρ ls nL lv) (hc : cells + mc0 ≤ acc (pc + 3)) (hs : slots + ms0 ≤ acs (pc + 3))
    (h1 : ∀ v I', Q (.inl (some v)) I' → mAW p l e R s m args below meth c Qs nL D cA ρ fl acc acs (pc + 3) lv (v :: rest) I') (h2 : ∀ I', Q (.inl none) I' → mAW p l e R s m args below meth c Qs nL D cA ρ fl acc acs (pc + 3) lv rest I')
    (h3 : ∀ E I', Q (.inr E) I' → mXW p l e R s m args below meth c Qs nL D cA ρ fl acc acs pc E lv I') : W p l e R s m args below meth c H locs cells slots Qs (F0 m pc ls st0) := by
  intro T hT X
  rcases hr T hT X with ⟨v, st₀, t, T', L, h0, X', hL, e1, e2, ⟨⟨ov, I', hv, hp, hb⟩, hF⟩, st⟩ | ⟨q, st₀, t, T', L, E, ce, h0, X', hL, e1, e2, ⟨I', hp, hb, hF⟩, hce, hcv, hcl, st⟩
  · cases hv
    obtain ⟨k1, k2, k3⟩ := vx_keep h0 e1 hS (fun q _ h => h) (fun q h => h) hL hF
    have hP' : va_P D vwCl (mWs cA ρ fl I') T'.heap := by rw [e1]; exact hb
    cases ov with
    | none =>
      obtain ⟨t2, a1, b1⟩ := h2 I' hp T'.heap (locs ++ L) ls (cells + mc0) (slots + ms0) hc hs hP' (mD_any hD) k3 hl T' rfl X'
      exact ⟨t2, st t2 a1, b1⟩
    | some v =>
      obtain ⟨t2, a1, b1⟩ := h1 v I' hp T'.heap (locs ++ L) ls (cells + mc0) (slots + ms0) hc hs hP' (mD_any hD) k3 hl T' rfl X'
      exact ⟨t2, st t2 a1, b1⟩
  · obtain ⟨k1, k2, k3⟩ := vx_keep h0 e1 hS (fun q _ h => h) (fun q h => h) hL hF
    have hP' : va_P D vwCl (mWs cA ρ fl I') T'.heap := by rw [e1]; exact hb
    obtain ⟨t2, a1, b1⟩ := h3 E I' hp T'.heap (locs ++ L) ls (cells + mc0) (slots + ms0) (rest.map (mc ρ)) ce q hc hs hP' (mD_any hD) k3 hl (by rw [e1]; exact hce) hcv hcl T' rfl X'
    exact ⟨t2, st.trans a1, b1⟩
theorem take_rev {α : Type} {n : Nat} {st : List α} (h : n ≤ st.length) : ((st.take n).reverse).length = n := by
  rw [List.length_reverse, List.length_take]; omega
theorem take_app {α : Type} (n : Nat) (st : List α) : st = ((st.take n).reverse).reverse ++ st.drop n := by
  rw [List.reverse_reverse, List.take_append_drop]
theorem so_callV {t : mCal} {S : Nat → mSp} {X : String → mLv → mM → Prop} {a n np idx : Nat} {cl : Nat} (F : mFx p s m args c cc nL own D cA ρ fl ro) (hk : ∀ lv st I, k lv st I → mAW p l e R s m args below meth c Qs nL D cA ρ fl acc acs (pc + 3) lv st I) (hC : mCtr l t (S a)) (hX : ∀ E lv I, X E lv I → mXW p l e R s m args below meth c Qs nL D cA ρ fl acc acs pc E lv I) (hd : decode cc pc = .ok (.invokevirtual idx, 3)) (hlk : Cond.methodLink own idx t.1 ∈ mBW) (hin : Cond.instanceMethod t.1 ∈ mBW) (hse : Cond.selects t.1.cls t.1 t.1 ∈ mBW) (hcl : ∃ r : vw_C, vwCl[cl]? = some r ∧ r.1 = t.1.cls) (hini : Cond.initialized t.1.cls ∈ mBW) (hcd : Cond.code t.1 t.2.1 t.2.2.1 t.2.2.2.1 ∈ mBW) (hd3 : t.1.cls ≠ "java/lang/invoke/MethodHandle" ∧ t.1.cls ≠ "java/lang/invoke/VarHandle" ∧ (parseMethodDescriptor t.1.desc).map (fun d => d.parameters.length) = some np) (hnp : np + 1 = n) (hR : t.2.2.2.2.1 + 1 ≤ R.frames ∧ 8 + (t.2.2.1 + 11) + t.2.2.2.2.2.1 ≤ R.locals) (hRc : acc (pc + 3) ≤ R.cells ∧ acs (pc + 3) ≤ R.slots) (hac : acc pc + t.2.2.2.2.2.2.1 ≤ acc (pc + 3) ∧ acs pc + t.2.2.2.2.2.2.2 ≤ acs (pc + 3)) (h : w_call fl S X a n (some cl) k lv st I) : mAW p l e R s m args below meth c Qs nL D cA ρ fl acc acs (pc) lv st I := by
  obtain ⟨hx, hb, hml, hown, hts, hK, hE, hro⟩ := F
  intro H locs ls cells slots hc1 hs1 hP hD hS hl
  obtain ⟨hn, hcat, hrc, hsp⟩ := h
  have hM := hC D cA ρ fl _ _ _ hsp
  have hlen := take_rev hn
  have happ := take_app n st
  generalize (st.take n).reverse = avs at hrc hM hlen happ
  have hpc : ∀ U : State, U.heap = H → s.WarmedH U.vm → mPc D cA ρ fl avs I ((avs.map (mc ρ)).toArray) U := fun U hU hW => ⟨rfl, va_K.moved hW.alike hK, by rw [hU]; exact hP, hD, by rw [hU]; exact hE.to hW hS.2.1⟩
  have hroom : 2 * (F0 m pc ls (st.map (mc ρ))).monitorRoom + (((st.drop n).map (mc ρ)).map fun v => v.category).sum ≤ 8 := lv_room (by rw [mc_cats]; exact hcat)
  rcases avs with _ | ⟨v0, avs⟩
  · exact absurd hrc id
  rcases v0 with y | y | _ | i <;> first | exact absurd hrc id | skip
  obtain ⟨hk1, hk2⟩ := hrc
  obtain ⟨r, hr1, hr2⟩ := hcl
  obtain ⟨q0, hq⟩ := mIds_at hk2
  have hat := mWs_at cA ρ I hq
  rw [mE_obj hk1 (mU_n hr1).2] at hat
  have hrecv := va_recv hK hP (ci := cl) (q0 := q0) hr1 hat
  rw [hr2] at hrecv
  have hst : st.map (mc ρ) = (avs.map (mc ρ)).reverse ++ .ref (ρ i) :: (st.drop n).map (mc ρ) := by
    have h9 := congrArg (List.map (mc ρ)) happ
    rw [h9]
    simp only [List.reverse_cons, List.map_append, List.map_reverse, List.map_cons, List.map_nil, List.append_assoc, List.cons_append, List.nil_append]
    rfl
  refine so_after (Q := _) (vx_runV (As := avs.map (mc ρ)) (rest := (st.drop n).map (mc ρ)) ⟨hx, hb, hml, hown, hts⟩ hM ⟨callB_of np hts (mWd_good hcd) rfl rfl rfl (hts _ hini) (hts _ hlk) hd3 hR, hts _ hin, hts _ hse⟩ ⟨mPc_blind, hrecv, hpc⟩ rfl (by rw [List.length_map]; simp only [List.length_cons] at hlen; omega) hl.2.1 hst hroom hd ⟨by omega, by omega⟩) hD hS hl (by omega) (by omega) (fun v I1 hq => hk _ _ _ hq) (fun I1 hq => hk _ _ _ hq) (fun E I1 hq => hX _ _ _ hq)
theorem so_callS {t : mCal} {S : Nat → mSp} {X : String → mLv → mM → Prop} {a n np idx : Nat} (F : mFx p s m args c cc nL own D cA ρ fl ro) (hk : ∀ lv st I, k lv st I → mAW p l e R s m args below meth c Qs nL D cA ρ fl acc acs (pc + 3) lv st I) (hC : mCtr l t (S a)) (hX : ∀ E lv I, X E lv I → mXW p l e R s m args below meth c Qs nL D cA ρ fl acc acs pc E lv I) (hd : decode cc pc = .ok (.invokestatic idx, 3)) (hlk : Cond.methodLink own idx t.1 ∈ mBW) (hin : Cond.static t.1 ∈ mBW) (hini : Cond.initialized t.1.cls ∈ mBW) (hcd : Cond.code t.1 t.2.1 t.2.2.1 t.2.2.2.1 ∈ mBW) (hd3 : t.1.cls ≠ "java/lang/invoke/MethodHandle" ∧ t.1.cls ≠ "java/lang/invoke/VarHandle" ∧ (parseMethodDescriptor t.1.desc).map (fun d => d.parameters.length) = some np) (hnp : np + 0 = n) (hR : t.2.2.2.2.1 + 1 ≤ R.frames ∧ 8 + (t.2.2.1 + 11) + t.2.2.2.2.2.1 ≤ R.locals) (hRc : acc (pc + 3) ≤ R.cells ∧ acs (pc + 3) ≤ R.slots) (hac : acc pc + t.2.2.2.2.2.2.1 ≤ acc (pc + 3) ∧ acs pc + t.2.2.2.2.2.2.2 ≤ acs (pc + 3)) (h : w_call fl S X a n none k lv st I) : mAW p l e R s m args below meth c Qs nL D cA ρ fl acc acs (pc) lv st I := by
  obtain ⟨hx, hb, hml, hown, hts, hK, hE, hro⟩ := F
  intro H locs ls cells slots hc1 hs1 hP hD hS hl
  obtain ⟨hn, hcat, hrc, hsp⟩ := h
  have hM := hC D cA ρ fl _ _ _ hsp
  have hlen := take_rev hn
  have happ := take_app n st
  generalize (st.take n).reverse = avs at hrc hM hlen happ
  have hpc : ∀ U : State, U.heap = H → s.WarmedH U.vm → mPc D cA ρ fl avs I ((avs.map (mc ρ)).toArray) U := fun U hU hW => ⟨rfl, va_K.moved hW.alike hK, by rw [hU]; exact hP, hD, by rw [hU]; exact hE.to hW hS.2.1⟩
  have hroom : 2 * (F0 m pc ls (st.map (mc ρ))).monitorRoom + (((st.drop n).map (mc ρ)).map fun v => v.category).sum ≤ 8 := lv_room (by rw [mc_cats]; exact hcat)
  refine so_after (Q := _) (vx_runS (As := avs.map (mc ρ)) (rest := (st.drop n).map (mc ρ)) ⟨hx, hb, hml, hown, hts⟩ hM ⟨callB_of np hts (mWd_good hcd) rfl rfl rfl (hts _ hini) (hts _ hlk) hd3 hR, hts _ hin⟩ ⟨mPc_blind, hpc⟩ rfl (by rw [List.length_map]; omega) hl.2.1 (by rw [← List.map_reverse, ← List.map_append, ← happ]) hroom hd ⟨by omega, by omega⟩) hD hS hl (by omega) (by omega) (fun v I1 hq => hk _ _ _ hq) (fun I1 hq => hk _ _ _ hq) (fun E I1 hq => hX _ _ _ hq)
theorem so_callSN {t : mCal} {S : Nat → mSp} {X : String → mLv → mM → Prop} {a n np idx : Nat} {host : String} (F : mFx p s m args c cc nL own D cA ρ fl ro) (hk : ∀ lv st I, k lv st I → mAW p l e R s m args below meth c Qs nL D cA ρ fl acc acs (pc + 3) lv st I) (hC : mCtr l t (S a)) (hX : ∀ E lv I, X E lv I → mXW p l e R s m args below meth c Qs nL D cA ρ fl acc acs pc E lv I) (hd : decode cc pc = .ok (.invokestatic idx, 3)) (hlk : Cond.methodLinkNest own idx t.1 host ∈ mNG) (hin : Cond.static t.1 ∈ mBW) (hini : Cond.initialized t.1.cls ∈ mBW) (hcd : Cond.code t.1 t.2.1 t.2.2.1 t.2.2.2.1 ∈ mBW) (hd3 : t.1.cls ≠ "java/lang/invoke/MethodHandle" ∧ t.1.cls ≠ "java/lang/invoke/VarHandle" ∧ (parseMethodDescriptor t.1.desc).map (fun d => d.parameters.length) = some np) (hnp : np + 0 = n) (hR : t.2.2.2.2.1 + 1 ≤ R.frames ∧ 8 + (t.2.2.1 + 11) + t.2.2.2.2.2.1 ≤ R.locals) (hRc : acc (pc + 3) ≤ R.cells ∧ acs (pc + 3) ≤ R.slots) (hac : acc pc + t.2.2.2.2.2.2.1 ≤ acc (pc + 3) ∧ acs pc + t.2.2.2.2.2.2.2 ≤ acs (pc + 3)) (h : w_call fl S X a n none k lv st I) : mAW p l e R s m args below meth c Qs nL D cA ρ fl acc acs (pc) lv st I := by
  obtain ⟨hx, hb, hml, hown, hts, hK, hE, hro⟩ := F
  intro H locs ls cells slots hc1 hs1 hP hD hS hl
  obtain ⟨hn, hcat, hrc, hsp⟩ := h
  have hM := hC D cA ρ fl _ _ _ hsp
  have hlen := take_rev hn
  have happ := take_app n st
  generalize (st.take n).reverse = avs at hrc hM hlen happ
  have hpc : ∀ U : State, U.heap = H → s.WarmedH U.vm → mPc D cA ρ fl avs I ((avs.map (mc ρ)).toArray) U := fun U hU hW => ⟨rfl, va_K.moved hW.alike hK, by rw [hU]; exact hP, hD, by rw [hU]; exact hE.to hW hS.2.1⟩
  have hroom : 2 * (F0 m pc ls (st.map (mc ρ))).monitorRoom + (((st.drop n).map (mc ρ)).map fun v => v.category).sum ≤ 8 := lv_room (by rw [mc_cats]; exact hcat)
  refine so_after (Q := _) (vx_runSN (As := avs.map (mc ρ)) (rest := (st.drop n).map (mc ρ)) ⟨hx, hb, hml, hown, hts⟩ hM ⟨va_cnB np hts (mWd_good hcd) rfl rfl rfl (hE.1 _ hlk) (hts _ hini) hd3 hR, hts _ hin, trivial⟩ ⟨mPc_blind, hpc⟩ rfl (by rw [List.length_map]; omega) hl.2.1 (by rw [← List.map_reverse, ← List.map_append, ← happ]) hroom hd ⟨by omega, by omega⟩) hD hS hl (by omega) (by omega) (fun v I1 hq => hk _ _ _ hq) (fun I1 hq => hk _ _ _ hq) (fun E I1 hq => hX _ _ _ hq)
theorem so_ret_void {Q : mO → mM → Prop} {mc0 ms0 : Nat} (F : mFx p s m args c cc nL own D cA ρ fl ro) (hm : acc pc ≤ mc0 ∧ acs pc ≤ ms0) (hr : meth.sig.returnType = none) (hlk : meth.locks = false) (hd : decode cc pc = .ok (.return_, 1)) (h : w_ret 0 Q lv st I) : mAW p l e R s m args below meth c (vx_MQ below (mQc D cA ρ fl Q) (mXc D cA ρ fl Q) args s mc0 ms0 (mA ρ fl)) nL D cA ρ fl acc acs (pc) lv st I := by
  obtain ⟨hx, hb, hml, hown, hts, hK, hE, hro⟩ := F
  intro H locs ls cells slots hc1 hs1 hP hD hS hl
  rcases h with ⟨rfl, h⟩
  exact vx_ret (W.widen (Nat.le_trans hc1 hm.1) (Nat.le_trans hs1 hm.2) (W.vret hx hb hr (fun t ht _ => ⟨⟨none, I, rfl, h, by rw [ht]; exact hP⟩, hS.F ht⟩) hS.2.2 hd hlk))
theorem so_ret_int {Q : mO → mM → Prop} {mc0 ms0 : Nat} (F : mFx p s m args c cc nL own D cA ρ fl ro) (hm : acc pc ≤ mc0 ∧ acs pc ≤ ms0) (hr : meth.sig.returnType = some .int) (hlk : meth.locks = false) (hd : decode cc pc = .ok (.ireturn, 1)) (h : w_ret 1 Q lv st I) : mAW p l e R s m args below meth c (vx_MQ below (mQc D cA ρ fl Q) (mXc D cA ρ fl Q) args s mc0 ms0 (mA ρ fl)) nL D cA ρ fl acc acs (pc) lv st I := by
  obtain ⟨hx, hb, hml, hown, hts, hK, hE, hro⟩ := F
  intro H locs ls cells slots hc1 hs1 hP hD hS hl
  rcases st with _ | ⟨v, _ | ⟨w, st⟩⟩
  · exact absurd h id
  · rcases v with x | y | r <;> first | exact absurd h id | skip
    exact vx_ret (W.widen (Nat.le_trans hc1 hm.1) (Nat.le_trans hs1 hm.2) (W.iret hx hb hr (fun t ht _ => ⟨⟨some (mI x), I, rfl, h, by rw [ht]; exact hP⟩, hS.F ht⟩) hS.2.2 hd hlk))
  · rcases v with y | y | r <;> exact absurd h id
theorem so_ret_long {Q : mO → mM → Prop} {mc0 ms0 : Nat} (F : mFx p s m args c cc nL own D cA ρ fl ro) (hm : acc pc ≤ mc0 ∧ acs pc ≤ ms0) (hr : meth.sig.returnType = some .long) (hlk : meth.locks = false) (hd : decode cc pc = .ok (.lreturn, 1)) (h : w_ret 2 Q lv st I) : mAW p l e R s m args below meth c (vx_MQ below (mQc D cA ρ fl Q) (mXc D cA ρ fl Q) args s mc0 ms0 (mA ρ fl)) nL D cA ρ fl acc acs (pc) lv st I := by
  obtain ⟨hx, hb, hml, hown, hts, hK, hE, hro⟩ := F
  intro H locs ls cells slots hc1 hs1 hP hD hS hl
  rcases st with _ | ⟨v, _ | ⟨w, st⟩⟩
  · exact absurd h id
  · rcases v with y | x | r <;> first | exact absurd h id | skip
    exact vx_ret (W.widen (Nat.le_trans hc1 hm.1) (Nat.le_trans hs1 hm.2) (W.lret hx hb hr (fun t ht _ => ⟨⟨some (mL x), I, rfl, h, by rw [ht]; exact hP⟩, hS.F ht⟩) hS.2.2 hd hlk))
  · rcases v with y | y | r <;> exact absurd h id
theorem so_ret_bool {Q : mO → mM → Prop} {mc0 ms0 : Nat} (F : mFx p s m args c cc nL own D cA ρ fl ro) (hm : acc pc ≤ mc0 ∧ acs pc ≤ ms0) (hr : meth.sig.returnType = some .boolean) (hlk : meth.locks = false) (hd : decode cc pc = .ok (.ireturn, 1)) (h : w_ret 4 Q lv st I) : mAW p l e R s m args below meth c (vx_MQ below (mQc D cA ρ fl Q) (mXc D cA ρ fl Q) args s mc0 ms0 (mA ρ fl)) nL D cA ρ fl acc acs (pc) lv st I := by
  obtain ⟨hx, hb, hml, hown, hts, hK, hE, hro⟩ := F
  intro H locs ls cells slots hc1 hs1 hP hD hS hl
  rcases st with _ | ⟨v, _ | ⟨w, st⟩⟩
  · exact absurd h id
  · rcases v with x | y | r <;> first | exact absurd h id | skip
    obtain ⟨h0, h⟩ := h
    exact vx_ret (W.widen (Nat.le_trans hc1 hm.1) (Nat.le_trans hs1 hm.2) (W.zret hx hb hr (by rcases h0 with rfl | rfl <;> rfl) (fun t ht _ => ⟨⟨some (mI x), I, rfl, h, by rw [ht]; exact hP⟩, hS.F ht⟩) hS.2.2 hd hlk))
  · rcases v with y | y | r <;> exact absurd h id
theorem so_ret_ref {Q : mO → mM → Prop} {mc0 ms0 : Nat} {rt : FieldType} (F : mFx p s m args c cc nL own D cA ρ fl ro) (hm : acc pc ≤ mc0 ∧ acs pc ≤ ms0) (hr : meth.sig.returnType = some rt) (hrt : (∃ n, rt = .object n) ∨ ∃ t, rt = .array t) (hlk : meth.locks = false) (hd : decode cc pc = .ok (.areturn, 1)) (h : w_ret 3 Q lv st I) : mAW p l e R s m args below meth c (vx_MQ below (mQc D cA ρ fl Q) (mXc D cA ρ fl Q) args s mc0 ms0 (mA ρ fl)) nL D cA ρ fl acc acs (pc) lv st I := by
  obtain ⟨hx, hb, hml, hown, hts, hK, hE, hro⟩ := F
  intro H locs ls cells slots hc1 hs1 hP hD hS hl
  rcases st with _ | ⟨v, _ | ⟨w, st⟩⟩
  · exact absurd h id
  · rcases v with y | y | r <;> first | exact absurd h id | skip
    exact vx_ret (W.widen (Nat.le_trans hc1 hm.1) (Nat.le_trans hs1 hm.2) (W.aret hx hb hr hrt (by rcases r with _ | i <;> first | exact Or.inl rfl | exact Or.inr ⟨_, rfl⟩) (fun t ht _ => ⟨⟨some (mR r), I, rfl, h, by rw [ht]; exact hP⟩, hS.F ht⟩) hS.2.2 hd hlk))
  · rcases v with y | y | r <;> exact absurd h id
theorem so_throw {Q : mO → mM → Prop} {mc0 ms0 ik is ic sd : Nat} {E text : String} (F : mFx p s m args c cc nL own D cA ρ fl ro) (hst : l.stackTraces = false) (hm : acc pc + 1 ≤ mc0 ∧ acs pc + 6 ≤ ms0) (hRc : mc0 ≤ R.cells ∧ ms0 ≤ R.slots) (hRf : 5 < R.frames ∧ 90 ≤ R.locals) (hlk : meth.locks = false) (hout : ∀ x ∈ c.exceptionTable.toList, False)
    (hcls : Bundle.fit E = true) (hk : Cond.classLink own ik E ∈ mBW) (hini : Cond.initialized E ∈ mBW) (hstr : (own, is, text, sd) ∈ mStr) (hgw : ∀ w ∈ (vx_atS own ic E ["java/lang/RuntimeException", "java/lang/Exception"]).filter goodWord, w ∈ mBW) (hbw : ∀ w ∈ (vx_atS own ic E ["java/lang/RuntimeException", "java/lang/Exception"]).filter (fun w => !goodWord w), w ∈ mNG ∧ w.onTables = true) (hgood : ∀ w ∈ Cond.classLink own ik E :: Cond.initialized E :: vx_atS own ic E ["java/lang/RuntimeException", "java/lang/Exception"], vx_ot w = true)
    (d0 : decode cc pc = .ok (.new ik, 3)) (d3 : decode cc (pc + 3) = .ok (.dup, 1)) (d4 : decode cc (pc + 4) = .ok (.ldc is, 2)) (d6 : decode cc (pc + 6) = .ok (.invokespecial ic, 3)) (d9 : decode cc (pc + 9) = .ok (.athrow, 1)) (h : Q (.inr E) I) : mAW p l e R s m args below meth c (vx_MQ below (mQc D cA ρ fl Q) (mXc D cA ρ fl Q) args s mc0 ms0 (mA ρ fl)) nL D cA ρ fl acc acs (pc) lv [] I := by
  obtain ⟨hx, hb, hml, hown, hts, hK, hE, hro⟩ := F
  intro H locs ls cells slots hc1 hs1 hP hD hS hl
  have hat : ∀ w ∈ vx_atS own ic E ["java/lang/RuntimeException", "java/lang/Exception"], w.before args s = true := by
    intro w hw
    by_cases g : goodWord w = true
    · exact hts _ (hgw w (List.mem_filter.mpr ⟨hw, g⟩))
    · have h1 := hbw w (List.mem_filter.mpr ⟨hw, by simp [g]⟩)
      exact va_Nw.use h1.2 (hE.1 w h1.1)
  exact vx_throwS (rest := []) hx hb hst hown hcls (by decide +kernel) (hts _ hk) (hts _ hini) (hE.2.2.2.1 _ hstr) hat hgood hE.2.2.1.1 hE.2.2.1.2 hS (by rw [hl.2.1, hml]) d0 d3 d4 d6 d9 (fun x hx9 => (hout x hx9).elim) (by simp only [List.length_cons, List.length_nil]; omega) (by simp only [List.length_cons, List.length_nil, List.map_nil, List.sum_nil]; omega) (by omega) (by omega) hlk
    (fun t hv hz hq => ⟨I, h, fun k q hk9 => (hP k q hk9).kept (hq _ (hP k q hk9).lt), ⟨Nat.le_trans hS.1 hz, fun q h1 h2 => (hq q (Nat.lt_of_lt_of_le h1 hS.1)).trans (hS.2.1 q h1 h2)⟩⟩) hS.2.2 (by omega) (by omega)
theorem so_throwW {Q : mO → mM → Prop} {mc0 ms0 ik is ic sd : Nat} {E text : String} (F : mFx p s m args c cc nL own D cA ρ fl ro) (hst : l.stackTraces = false) (hm : acc pc + 1 ≤ mc0 ∧ acs pc + 6 ≤ ms0) (hRc : mc0 ≤ R.cells ∧ ms0 ≤ R.slots) (hRf : 5 < R.frames ∧ 90 ≤ R.locals) (hlk : meth.locks = false) (hout : ∀ x ∈ c.exceptionTable.toList, False)
    (hcls : Bundle.fit E = true) (hk : Cond.classLink own ik E ∈ mBW) (hini : Cond.initialized E ∈ mBW) (hstr : (own, is, text, sd) ∈ mStr) (hgw : ∀ w ∈ (vx_atS own ic E ["java/lang/RuntimeException", "java/lang/Exception"]).filter goodWord, w ∈ mBW) (hbw : ∀ w ∈ (vx_atS own ic E ["java/lang/RuntimeException", "java/lang/Exception"]).filter (fun w => !goodWord w), w ∈ mNG ∧ w.onTables = true) (hgood : ∀ w ∈ Cond.classLink own ik E :: Cond.initialized E :: vx_atS own ic E ["java/lang/RuntimeException", "java/lang/Exception"], vx_ot w = true)
    (d0 : decode cc pc = .ok (.new ik, 3)) (d3 : decode cc (pc + 3) = .ok (.dup, 1)) (d4 : decode cc (pc + 4) = .ok (.ldc_w is, 3)) (d6 : decode cc (pc + 7) = .ok (.invokespecial ic, 3)) (d9 : decode cc (pc + 10) = .ok (.athrow, 1)) (h : Q (.inr E) I) : mAW p l e R s m args below meth c (vx_MQ below (mQc D cA ρ fl Q) (mXc D cA ρ fl Q) args s mc0 ms0 (mA ρ fl)) nL D cA ρ fl acc acs (pc) lv [] I := by
  obtain ⟨hx, hb, hml, hown, hts, hK, hE, hro⟩ := F
  intro H locs ls cells slots hc1 hs1 hP hD hS hl
  have hat : ∀ w ∈ vx_atS own ic E ["java/lang/RuntimeException", "java/lang/Exception"], w.before args s = true := by
    intro w hw
    by_cases g : goodWord w = true
    · exact hts _ (hgw w (List.mem_filter.mpr ⟨hw, g⟩))
    · have h1 := hbw w (List.mem_filter.mpr ⟨hw, by simp [g]⟩)
      exact va_Nw.use h1.2 (hE.1 w h1.1)
  exact vx_throwSW (rest := []) hx hb hst hown hcls (by decide +kernel) (hts _ hk) (hts _ hini) (hE.2.2.2.1 _ hstr) hat hgood hE.2.2.1.1 hE.2.2.1.2 hS (by rw [hl.2.1, hml]) d0 d3 d4 d6 d9 (fun x hx9 => (hout x hx9).elim) (by simp only [List.length_cons, List.length_nil]; omega) (by simp only [List.length_cons, List.length_nil, List.map_nil, List.sum_nil]; omega) (by omega) (by omega) hlk
    (fun t hv hz hq => ⟨I, h, fun k q hk9 => (hP k q hk9).kept (hq _ (hP k q hk9).lt), ⟨Nat.le_trans hS.1 hz, fun q h1 h2 => (hq q (Nat.lt_of_lt_of_le h1 hS.1)).trans (hS.2.1 q h1 h2)⟩⟩) hS.2.2 (by omega) (by omega)
theorem so_throwN {Q : mO → mM → Prop} {mc0 ms0 ik is ic sd : Nat} {E text : String} (F : mFx p s m args c cc nL own D cA ρ fl ro) (hst : l.stackTraces = false) (hm : acc pc + 1 ≤ mc0 ∧ acs pc + 6 ≤ ms0) (hRc : mc0 ≤ R.cells ∧ ms0 ≤ R.slots) (hRf : 5 < R.frames ∧ 90 ≤ R.locals) (hlk : meth.locks = false) (hout : ∀ x ∈ c.exceptionTable.toList, False)
    (hcls : Bundle.fit E = true) (hk : Cond.classLink own ik E ∈ mBW) (hini : Cond.initialized E ∈ mBW) (hstr : (own, is, text, sd) ∈ mStr) (hgw : ∀ w ∈ (nx_at own ic E ["java/lang/RuntimeException", "java/lang/Exception"]).filter goodWord, w ∈ mBW) (hbw : ∀ w ∈ (nx_at own ic E ["java/lang/RuntimeException", "java/lang/Exception"]).filter (fun w => !goodWord w), w ∈ mNG ∧ w.onTables = true) (hgood : ∀ w ∈ Cond.classLink own ik E :: Cond.initialized E :: nx_at own ic E ["java/lang/RuntimeException", "java/lang/Exception"], vx_ot w = true)
    (d0 : decode cc pc = .ok (.new ik, 3)) (d3 : decode cc (pc + 3) = .ok (.dup, 1)) (d4 : decode cc (pc + 4) = .ok (.ldc_w is, 3)) (d6 : decode cc (pc + 7) = .ok (.invokespecial ic, 3)) (d9 : decode cc (pc + 10) = .ok (.athrow, 1)) (h : Q (.inr E) I) : mAW p l e R s m args below meth c (vx_MQ below (mQc D cA ρ fl Q) (mXc D cA ρ fl Q) args s mc0 ms0 (mA ρ fl)) nL D cA ρ fl acc acs (pc) lv [] I := by
  obtain ⟨hx, hb, hml, hown, hts, hK, hE, hro⟩ := F
  intro H locs ls cells slots hc1 hs1 hP hD hS hl
  have hat : ∀ w ∈ nx_at own ic E ["java/lang/RuntimeException", "java/lang/Exception"], w.before args s = true := by
    intro w hw
    by_cases g : goodWord w = true
    · exact hts _ (hgw w (List.mem_filter.mpr ⟨hw, g⟩))
    · have h1 := hbw w (List.mem_filter.mpr ⟨hw, by simp [g]⟩)
      exact va_Nw.use h1.2 (hE.1 w h1.1)
  exact nx_throwSW (rest := []) hx hb hst hown hcls (by decide +kernel) (hts _ hk) (hts _ hini) (hE.2.2.2.1 _ hstr) hat hgood hE.2.2.1.1 hE.2.2.1.2 hS (by rw [hl.2.1, hml]) d0 d3 d4 d6 d9 (fun x hx9 => (hout x hx9).elim) (by simp only [List.length_cons, List.length_nil]; omega) (by simp only [List.length_cons, List.length_nil, List.map_nil, List.sum_nil]; omega) (by omega) (by omega) hlk
    (fun t hv hz hq => ⟨I, h, fun k q hk9 => (hP k q hk9).kept (hq _ (hP k q hk9).lt), ⟨Nat.le_trans hS.1 hz, fun q h1 h2 => (hq q (Nat.lt_of_lt_of_le h1 hS.1)).trans (hS.2.1 q h1 h2)⟩⟩) hS.2.2 (by omega) (by omega)
end SO
end MSOUND3
