section LTX
variable {p : Program} {l : Launch} {e : Env} {R : Room} {s : State} {m : MethodId} {args : Array Value} {below : List Frame} {meth : Method} {c : Code}
theorem tx_after {pc : Nat} {ls : Array Slot} {H : Heap} {locs : List Loc} {cells slots : Nat} {Q : State → Prop} {st0 rest : List Value} {v : Option Value} {free : Addr → Prop} (hf : ∀ q, ¬ free q) {Qa : State → Outcome → State → Prop} (hQ : ∀ st o t, Qa st o t → o = .returned v ∧ t.heap = st.heap)
    (hr : va_Run p l e R s m args below meth c H locs cells slots 0 0 (F0 m pc ls st0) rest Qa free) (k : W p l e R s m args below meth c H locs cells slots Q (F0 m (pc + 3) ls (v.toList ++ rest))) : W p l e R s m args below meth c H locs cells slots Q (F0 m pc ls st0) := by
  intro T hT X
  obtain ⟨v0, st₀, t, T', L, h0, X', hL, e1, e2, hq, st⟩ := hr T hT X
  obtain ⟨hv, hh⟩ := hQ _ _ _ hq
  cases hv
  have hL0 : L = [] := by
    cases L with
    | nil => rfl
    | cons a L => exact absurd (hL a List.mem_cons_self) (hf _)
  subst hL0
  have hH : T'.heap = H := by rw [e1, hh, h0]
  rw [List.append_nil] at X'
  obtain ⟨t2, a1, b1⟩ := k T' hH X'
  exact ⟨t2, st t2 a1, b1⟩
/-- a method of the JDK that only reads: what it answers -/
def txM (l : Launch) (y : MethodName) (cc : ByteArray) (nL : Nat) (rt : Option FieldType) (rm : Nat × Nat) (Pc : Array Value → State → Prop) (v : Option Value) : Prop :=
  Met l y (mWd (y, cc, nL, rt, (0, 0, 0, 0))) (mRm (rm.1, rm.2, 0, 0)) Pc (fun _ st o t => o = .returned v ∧ t.heap = st.heap) 0 0 (fun _ => False)
theorem txW {y : MethodName} {cc : ByteArray} {nL : Nat} {rt : Option FieldType} {args : Array Value} {s : State} {rm : Room} (h : (headSpec (mWd (y, cc, nL, rt, (0, 0, 0, 0))) rm).pre.before args s = true) : ∀ w ∈ mBW, w.before args s = true := fun w hw => atoms_spec (ws := mWd (y, cc, nL, rt, (0, 0, 0, 0))) h w (List.mem_cons_of_mem _ hw)
set_option maxRecDepth 100000 in
theorem tx_coder {ρ : Nat → Nat} {fl : Nat → Bool} {i : Nat} (hi : i < 12) : txM l yJ0_coder_7d493 cJ0_coder_7d493 1 (some .byte) (0, 0) (fun v U => v = #[.ref (ρ (250 + i))] ∧ mEnv ρ fl U U.heap) (some (.int 0)) := by
  refine Met.ofW (cc := cJ0_coder_7d493) (maxL := 1) (ret := some .byte) (by decide) rfl ?_
  intro p e s m args below meth c s₁ B hml hv
  obtain ⟨rfl, hE⟩ := hv
  have hx := B.exec
  have hb := B.bytes
  have hr := B.returns
  have hts := txW B.pre
  have hown : s.vm.findClass "java/lang/String" = some m.cls := findClass_of_methodNamed B.named
  have hS : va_S (mA ρ fl) s.heap s.heap [] := va_S.rf
  have hl := lv_entry ([.ref (ρ (250 + i))]) (n := 1) (Nat.le_of_ble_eq_true rfl)
  rw [lg_entry_eq]
  generalize (lg_sl ([.ref (ρ (250 + i))]) ++ List.replicate (1 - (lg_sl ([.ref (ρ (250 + i))])).length) Slot.unset).toArray = ls at hl ⊢
  have hl : lv_has ls 1 [(0, .ref (ρ (250 + i)))] := hl
  refine va_gets hx hb hE.2.2.2.2.2.1 hS hown (hts (.fieldLink "java/lang/String" 38 "java/lang/String" "COMPACT_STRINGS" "Z") (mBW_of 848 (by decide +kernel))) (fun _ z => z) (by decide +kernel : decode cJ0_coder_7d493 0 = .ok (.getstatic 38, 3)) ?_
  refine lv_if_eq (tgt := 13) hx hb (by decide +kernel : decode cJ0_coder_7d493 3 = .ok (.ifCond .eq 10, 3)) (by decide) (fun z => absurd z (by decide)) (fun _ => ?_)
  refine lv_aload_n hx hb (by decide +kernel : decode cJ0_coder_7d493 6 = .ok (.aload_n 0, 1)) rfl (lv_at hl 0 rfl) ?_
  refine vk_getf hx hb ((hE.2.2.2.2.1.1 i hi).2.1) hS hown (hts (.fieldLink "java/lang/String" 15 "java/lang/String" "coder" "B") (mBW_of 2192 (by decide +kernel))) (fun _ z => z) (by decide +kernel : decode cJ0_coder_7d493 7 = .ok (.getfield 15, 3)) ?_
  refine lv_goto (tgt := 14) hx hb (by decide +kernel : decode cJ0_coder_7d493 10 = .ok (.goto 4, 3)) (by decide) ?_
  exact W.zret (v := 0) (ty := .byte) hx hb hr rfl (fun t ht hW => ⟨rfl, ht⟩) (fun _ h => by cases h) (by decide +kernel : decode cJ0_coder_7d493 14 = .ok (.ireturn, 1))
set_option maxRecDepth 100000 in
theorem tx_latin {ρ : Nat → Nat} {fl : Nat → Bool} {i : Nat} (hi : i < 12) : txM l yJ0_isLatin1_aae02 cJ0_isLatin1_aae02 1 (some .boolean) (0, 0) (fun v U => v = #[.ref (ρ (250 + i))] ∧ mEnv ρ fl U U.heap) (some (.int 1)) := by
  refine Met.ofW (cc := cJ0_isLatin1_aae02) (maxL := 1) (ret := some .boolean) (by decide) rfl ?_
  intro p e s m args below meth c s₁ B hml hv
  obtain ⟨rfl, hE⟩ := hv
  have hx := B.exec
  have hb := B.bytes
  have hr := B.returns
  have hts := txW B.pre
  have hown : s.vm.findClass "java/lang/String" = some m.cls := findClass_of_methodNamed B.named
  have hS : va_S (mA ρ fl) s.heap s.heap [] := va_S.rf
  have hl := lv_entry ([.ref (ρ (250 + i))]) (n := 1) (Nat.le_of_ble_eq_true rfl)
  rw [lg_entry_eq]
  generalize (lg_sl ([.ref (ρ (250 + i))]) ++ List.replicate (1 - (lg_sl ([.ref (ρ (250 + i))])).length) Slot.unset).toArray = ls at hl ⊢
  have hl : lv_has ls 1 [(0, .ref (ρ (250 + i)))] := hl
  refine va_gets hx hb hE.2.2.2.2.2.1 hS hown (hts (.fieldLink "java/lang/String" 38 "java/lang/String" "COMPACT_STRINGS" "Z") (mBW_of 848 (by decide +kernel))) (fun _ z => z) (by decide +kernel : decode cJ0_isLatin1_aae02 0 = .ok (.getstatic 38, 3)) ?_
  refine lv_if_eq (tgt := 17) hx hb (by decide +kernel : decode cJ0_isLatin1_aae02 3 = .ok (.ifCond .eq 14, 3)) (by decide) (fun z => absurd z (by decide)) (fun _ => ?_)
  refine lv_aload_n hx hb (by decide +kernel : decode cJ0_isLatin1_aae02 6 = .ok (.aload_n 0, 1)) rfl (lv_at hl 0 rfl) ?_
  refine vk_getf hx hb ((hE.2.2.2.2.1.1 i hi).2.1) hS hown (hts (.fieldLink "java/lang/String" 15 "java/lang/String" "coder" "B") (mBW_of 2192 (by decide +kernel))) (fun _ z => z) (by decide +kernel : decode cJ0_isLatin1_aae02 7 = .ok (.getfield 15, 3)) ?_
  refine lv_if_ne (tgt := 17) hx hb (by decide +kernel : decode cJ0_isLatin1_aae02 10 = .ok (.ifCond .ne 7, 3)) (by decide) (fun z => absurd rfl z) (fun _ => ?_)
  refine lv_iconst (v := 1) hx hb (by decide +kernel : decode cJ0_isLatin1_aae02 13 = .ok (.iconst 1, 1)) (by decide) ?_
  refine lv_goto (tgt := 18) hx hb (by decide +kernel : decode cJ0_isLatin1_aae02 14 = .ok (.goto 4, 3)) (by decide) ?_
  exact W.zret (v := 1) (ty := .boolean) hx hb hr rfl (fun t ht hW => ⟨rfl, ht⟩) (fun _ h => by cases h) (by decide +kernel : decode cJ0_isLatin1_aae02 18 = .ok (.ireturn, 1))
def refq (v : Value) : Prop := v = .null ∨ ∃ t : Nat, v = .ref t
theorem refq.cat {v : Value} (h : refq v) : v.category = 1 := by rcases h with rfl | ⟨t, rfl⟩ <;> rfl
set_option maxRecDepth 100000 in
theorem tx_chk3 {j n : Nat} (hj : j < n) (hn : n < 2 ^ 31) : txM l yJ3_checkIndex_8e157 cJ3_checkIndex_8e157 3 (some .int) (0, 0) (fun v U => ∃ F : Value, refq F ∧ v = #[.int (nI j), .int (nI n), F]) (some (.int (nI j))) := by
  refine Met.ofW (cc := cJ3_checkIndex_8e157) (maxL := 3) (ret := some .int) (by decide) rfl ?_
  intro p e s m args below meth c s₁ B hml hv
  obtain ⟨F, hF, rfl⟩ := hv
  have hx := B.exec
  have hb := B.bytes
  have hr := B.returns
  have hl := lv_entry ([.int (nI j), .int (nI n), F]) (n := 3) (by rcases hF with rfl | ⟨t, rfl⟩ <;> exact Nat.le_of_ble_eq_true rfl)
  rw [lg_entry_eq]
  generalize (lg_sl ([.int (nI j), .int (nI n), F]) ++ List.replicate (3 - (lg_sl ([.int (nI j), .int (nI n), F])).length) Slot.unset).toArray = ls at hl ⊢
  have hl : lv_has ls 3 [(0, .int (nI j)), (1, .int (nI n)), (2, F)] := hl
  refine lv_iload_n hx hb (by decide +kernel : decode cJ3_checkIndex_8e157 0 = .ok (.iload_n 0, 1)) rfl (lv_at hl 0 rfl) ?_
  refine lv_if_lt (tgt := 9) hx hb (by decide +kernel : decode cJ3_checkIndex_8e157 1 = .ok (.ifCond .lt 8, 3)) (by decide) (fun z => absurd z (nI_pos (by omega))) (fun _ => ?_)
  refine lv_iload_n hx hb (by decide +kernel : decode cJ3_checkIndex_8e157 4 = .ok (.iload_n 0, 1)) rfl (lv_at hl 0 rfl) ?_
  refine lv_iload_n hx hb (by decide +kernel : decode cJ3_checkIndex_8e157 5 = .ok (.iload_n 1, 1)) rfl (lv_at hl 1 rfl) ?_
  refine lv_icmp_lt (tgt := 16) hx hb (by decide +kernel : decode cJ3_checkIndex_8e157 6 = .ok (.if_icmp .lt 10, 3)) (by decide) (fun _ => ?_) (fun z => absurd (nI_lt hj hn) z)
  refine lv_iload_n hx hb (by decide +kernel : decode cJ3_checkIndex_8e157 16 = .ok (.iload_n 0, 1)) rfl (lv_at hl 0 rfl) ?_
  exact W.iret (v := nI j) hx hb hr (fun t ht hW => ⟨rfl, ht⟩) (fun _ h => by cases h) (by decide +kernel : decode cJ3_checkIndex_8e157 17 = .ok (.ireturn, 1))
set_option maxRecDepth 100000 in
theorem tx_chk {ρ : Nat → Nat} {fl : Nat → Bool} {j n : Nat} (hj : j < n) (hn : n < 2 ^ 31) : txM l yJ0_checkIndex_df160 cJ0_checkIndex_df160 2 none (1, 22) (fun v U => v = #[.int (nI j), .int (nI n)] ∧ mEnv ρ fl U U.heap) none := by
  refine Met.ofW (cc := cJ0_checkIndex_df160) (maxL := 2) (ret := none) (by decide) rfl ?_
  intro p e s m args below meth c s₁ B hml hv
  obtain ⟨rfl, hE⟩ := hv
  have hx := B.exec
  have hb := B.bytes
  have hr := B.returns
  have hts := txW B.pre
  have hown : s.vm.findClass "java/lang/String" = some m.cls := findClass_of_methodNamed B.named
  have hS : va_S (mA ρ fl) s.heap s.heap [] := va_S.rf
  have hl := lv_entry ([.int (nI j), .int (nI n)]) (n := 2) (Nat.le_of_ble_eq_true rfl)
  rw [lg_entry_eq]
  generalize (lg_sl ([.int (nI j), .int (nI n)]) ++ List.replicate (2 - (lg_sl ([.int (nI j), .int (nI n)])).length) Slot.unset).toArray = ls at hl ⊢
  have hl : lv_has ls 2 [(0, .int (nI j)), (1, .int (nI n))] := hl
  refine lv_iload_n hx hb (by decide +kernel : decode cJ0_checkIndex_df160 0 = .ok (.iload_n 0, 1)) rfl (lv_at hl 0 rfl) ?_
  refine lv_iload_n hx hb (by decide +kernel : decode cJ0_checkIndex_df160 1 = .ok (.iload_n 1, 1)) rfl (lv_at hl 1 rfl) ?_
  have key : ∀ F : Value, refq F → va_Z "jdk/internal/util/Preconditions" "SIOOBE_FORMATTER" "Ljava/util/function/BiFunction;" F (mA ρ fl) s s.heap → W p l e (mRm (1, 22, 0, 0)) s m #[Value.int (nI j), Value.int (nI n)] below meth c s.heap [] 0 0 (MQ below (fun _ st o t => o = .returned none ∧ t.heap = st.heap) #[Value.int (nI j), Value.int (nI n)] s 0 0 (fun _ => False)) (F0 m 2 ls [.int (nI n), .int (nI j)]) := by
    intro F hF hZ
    refine va_gets hx hb hZ hS hown (hts (.fieldLink "java/lang/String" 1053 "jdk/internal/util/Preconditions" "SIOOBE_FORMATTER" "Ljava/util/function/BiFunction;") (mBW_of 864 (by decide +kernel))) (fun _ z => z) (by decide +kernel : decode cJ0_checkIndex_df160 2 = .ok (.getstatic 1053, 3)) ?_
    refine tx_after (v := some (.int (nI j))) (rest := []) (fun _ z => z) (fun _ _ _ z => z) (va_runS (As := [.int (nI j), .int (nI n), F]) (rest := []) ⟨hx, hb, hml, hown, hts⟩ (tx_chk3 (l := l) hj hn) ⟨callB_of 3 hts (mWd_good (t := (yJ3_checkIndex_8e157, cJ3_checkIndex_8e157, 3, some .int, (0, 0, 0, 0))) (mBW_of 868 (by decide +kernel))) rfl rfl rfl (hts (.initialized "jdk/internal/util/Preconditions") (mBW_of 124 (by decide +kernel))) (hts (.methodLink "java/lang/String" 1059 yJ3_checkIndex_8e157) (mBW_of 866 (by decide +kernel))) (by decide +kernel) ⟨by decide, by decide⟩, hts (.static yJ3_checkIndex_8e157) (mBW_of 867 (by decide +kernel))⟩ ⟨fun a U g mk hp => hp, fun U hU hW => ⟨F, hF, rfl⟩⟩ rfl rfl hl.1 rfl (lv_room (Nat.le_of_ble_eq_true rfl)) (by decide +kernel : decode cJ0_checkIndex_df160 5 = .ok (.invokestatic 1059, 3)) ⟨Nat.zero_le _, Nat.zero_le _⟩) ?_
    refine lv_pop hx hb (by decide +kernel : decode cJ0_checkIndex_df160 8 = .ok (.pop, 1)) rfl ?_
    exact W.vret hx hb hr (fun t ht hW => ⟨rfl, ht⟩) (fun _ h => by cases h) (by decide +kernel : decode cJ0_checkIndex_df160 9 = .ok (.return_, 1))
  rcases hE.2.2.2.2.2.2 with hZ | ⟨t, hZ⟩
  · exact key _ (Or.inl rfl) hZ
  · exact key _ (Or.inr ⟨t, rfl⟩) hZ
theorem tx_dat : ∀ i, i < 12 → mTxL.getD i 0 = mTxLen i ∧ mTxL.getD i 0 < 100 ∧ ∀ j, j < mTxL.getD i 0 → (((mTxB.getD i []).getD j 0 &&& 255).toUInt32 % 65536).toInt32 = Int32.ofInt (mTxCh i j) ∧ narrow .char (.int (Int32.ofInt (mTxCh i j))) = .int (Int32.ofInt (mTxCh i j)) := by decide +kernel
set_option maxRecDepth 100000 in
theorem tx_char1 {ρ : Nat → Nat} {fl : Nat → Bool} {i j : Nat} (hi : i < 12) (hj : j < mTxL.getD i 0) : txM l yJ1_charAt_3b067 cJ1_charAt_3b067 2 (some .char) (2, 43) (fun v U => v = #[.ref (ρ (270 + i)), .int (nI j)] ∧ mEnv ρ fl U U.heap) (some (.int (Int32.ofInt (mTxCh i j)))) := by
  obtain ⟨d1, d2, d3⟩ := tx_dat i hi
  obtain ⟨d4, d5⟩ := d3 j hj
  refine Met.ofW (cc := cJ1_charAt_3b067) (maxL := 2) (ret := some .char) (by decide) rfl ?_
  intro p e s m args below meth c s₁ B hml hv
  obtain ⟨rfl, hE⟩ := hv
  have hx := B.exec
  have hb := B.bytes
  have hr := B.returns
  have hts := txW B.pre
  have hown : s.vm.findClass "java/lang/StringLatin1" = some m.cls := findClass_of_methodNamed B.named
  have hS : va_S (mA ρ fl) s.heap s.heap [] := va_S.rf
  have hl := lv_entry ([.ref (ρ (270 + i)), .int (nI j)]) (n := 2) (Nat.le_of_ble_eq_true rfl)
  rw [lg_entry_eq]
  generalize (lg_sl ([.ref (ρ (270 + i)), .int (nI j)]) ++ List.replicate (2 - (lg_sl ([.ref (ρ (270 + i)), .int (nI j)])).length) Slot.unset).toArray = ls at hl ⊢
  have hl : lv_has ls 2 [(0, .ref (ρ (270 + i))), (1, .int (nI j))] := hl
  have hT := (hE.2.2.2.2.1.1 i hi).2.2.2
  refine lv_iload_n hx hb (by decide +kernel : decode cJ1_charAt_3b067 0 = .ok (.iload_n 1, 1)) rfl (lv_at hl 1 rfl) ?_
  refine lv_aload_n hx hb (by decide +kernel : decode cJ1_charAt_3b067 1 = .ok (.aload_n 0, 1)) rfl (lv_at hl 0 rfl) ?_
  refine va_tlen hx hb hT hS (v := nI (mTxL.getD i 0)) rfl (by decide +kernel : decode cJ1_charAt_3b067 2 = .ok (.arraylength, 1)) ?_
  refine tx_after (v := none) (rest := []) (fun _ z => z) (fun _ _ _ z => z) (va_runS (As := [.int (nI j), .int (nI (mTxL.getD i 0))]) (rest := []) ⟨hx, hb, hml, hown, hts⟩ (tx_chk (l := l) (ρ := ρ) (fl := fl) hj (by omega)) ⟨callB_of 2 hts (mWd_good (t := (yJ0_checkIndex_df160, cJ0_checkIndex_df160, 2, none, (0, 0, 0, 0))) (mBW_of 863 (by decide +kernel))) rfl rfl rfl (hts (.initialized "java/lang/String") (mBW_of 122 (by decide +kernel))) (hts (.methodLink "java/lang/StringLatin1" 9 yJ0_checkIndex_df160) (mBW_of 861 (by decide +kernel))) (by decide +kernel) ⟨by decide, by decide⟩, hts (.static yJ0_checkIndex_df160) (mBW_of 862 (by decide +kernel))⟩ ⟨fun a U g mk hp => ⟨hp.1, hp.2.to (U := U.calling g mk a) (State.WarmedH.refl U) (fun _ _ _ => rfl)⟩, fun U hU hW => ⟨rfl, by rw [hU]; exact hE.to hW hS.2.1⟩⟩ rfl rfl hl.1 rfl (lv_room (Nat.le_of_ble_eq_true rfl)) (by decide +kernel : decode cJ1_charAt_3b067 3 = .ok (.invokestatic 9, 3)) ⟨Nat.zero_le _, Nat.zero_le _⟩) ?_
  refine lv_aload_n hx hb (by decide +kernel : decode cJ1_charAt_3b067 6 = .ok (.aload_n 0, 1)) rfl (lv_at hl 0 rfl) ?_
  refine lv_iload_n hx hb (by decide +kernel : decode cJ1_charAt_3b067 7 = .ok (.iload_n 1, 1)) rfl (lv_at hl 1 rfl) ?_
  refine va_tb hx hb hT hS (vp_in_nI hj (by omega)) (v := .int ((mTxB.getD i []).getD j 0)) (by rw [nI_clamp (by omega)]) (by decide +kernel : decode cJ1_charAt_3b067 8 = .ok (.baload, 1)) ?_
  refine lv_sipush (v := 255) hx hb (by decide +kernel : decode cJ1_charAt_3b067 9 = .ok (.sipush 255, 3)) (by decide) ?_
  refine lv_iand hx hb (by decide +kernel : decode cJ1_charAt_3b067 12 = .ok (.iand, 1)) ?_
  refine lv_i2c hx hb (by decide +kernel : decode cJ1_charAt_3b067 13 = .ok (.i2c, 1)) d4 ?_
  exact W.zret (v := Int32.ofInt (mTxCh i j)) (ty := .char) hx hb hr d5 (fun t ht hW => ⟨rfl, ht⟩) (fun _ h => by cases h) (by decide +kernel : decode cJ1_charAt_3b067 14 = .ok (.ireturn, 1))
set_option maxRecDepth 100000 in
theorem mTxM_ok (l : Launch) : mTxM l := by
  refine ⟨fun ρ fl i hi => ?_, fun ρ fl i j hi j0 j1 => ?_⟩
  · obtain ⟨d1, d2, d3⟩ := tx_dat i hi
    refine Met.ofW (cc := cJ0_length_8abf5) (maxL := 1) (ret := some .int) (by decide) rfl ?_
    intro p e s m args below meth c s₁ B hml hv
    obtain ⟨rfl, hE⟩ := hv
    have hx := B.exec
    have hb := B.bytes
    have hr := B.returns
    have hts := txW B.pre
    have hown : s.vm.findClass "java/lang/String" = some m.cls := findClass_of_methodNamed B.named
    have hS : va_S (mA ρ fl) s.heap s.heap [] := va_S.rf
    have hl := lv_entry ([.ref (ρ (250 + i))]) (n := 1) (Nat.le_of_ble_eq_true rfl)
    rw [lg_entry_eq]
    generalize (lg_sl ([.ref (ρ (250 + i))]) ++ List.replicate (1 - (lg_sl ([.ref (ρ (250 + i))])).length) Slot.unset).toArray = ls at hl ⊢
    have hl : lv_has ls 1 [(0, .ref (ρ (250 + i)))] := hl
    obtain ⟨e1, e2, e3, hT⟩ := hE.2.2.2.2.1.1 i hi
    refine lv_aload_n hx hb (by decide +kernel : decode cJ0_length_8abf5 0 = .ok (.aload_n 0, 1)) rfl (lv_at hl 0 rfl) ?_
    refine vk_getf hx hb e3 hS hown (hts (.fieldLink "java/lang/String" 9 "java/lang/String" "value" "[B") (mBW_of 2191 (by decide +kernel))) (fun _ z => z) (by decide +kernel : decode cJ0_length_8abf5 1 = .ok (.getfield 9, 3)) ?_
    refine va_tlen hx hb hT hS (v := nI (mTxL.getD i 0)) rfl (by decide +kernel : decode cJ0_length_8abf5 4 = .ok (.arraylength, 1)) ?_
    refine lv_aload_n hx hb (by decide +kernel : decode cJ0_length_8abf5 5 = .ok (.aload_n 0, 1)) rfl (lv_at hl 0 rfl) ?_
    refine tx_after (v := some (.int 0)) (rest := [.int (nI (mTxL.getD i 0))]) (fun _ z => z) (fun _ _ _ z => z) (va_runV (C := "java/lang/String") (b := ρ (250 + i)) (As := []) (rest := [.int (nI (mTxL.getD i 0))]) ⟨hx, hb, hml, hown, hts⟩ (tx_coder (l := l) (ρ := ρ) (fl := fl) hi) ⟨callB_of 0 hts (mWd_good (t := (yJ0_coder_7d493, cJ0_coder_7d493, 1, some .byte, (0, 0, 0, 0))) (mBW_of 847 (by decide +kernel))) rfl rfl rfl (hts (.initialized "java/lang/String") (mBW_of 122 (by decide +kernel))) (hts (.methodLink "java/lang/String" 335 yJ0_coder_7d493) (mBW_of 844 (by decide +kernel))) (by decide +kernel) ⟨by decide, by decide⟩, hts (.instanceMethod yJ0_coder_7d493) (mBW_of 845 (by decide +kernel)), hts (.selects "java/lang/String" yJ0_coder_7d493 yJ0_coder_7d493) (mBW_of 846 (by decide +kernel))⟩ ⟨fun a U g mk hp => ⟨hp.1, hp.2.to (U := U.calling g mk a) (State.WarmedH.refl U) (fun _ _ _ => rfl)⟩, vk_recv (adK := fun i => ρ (250 + i)) (i := i) hE.2.2.2.2.1 hi hS, fun U hU hW => ⟨rfl, by rw [hU]; exact hE.to hW hS.2.1⟩⟩ rfl rfl hl.1 rfl (lv_room (Nat.le_of_ble_eq_true rfl)) (by decide +kernel : decode cJ0_length_8abf5 6 = .ok (.invokevirtual 335, 3)) ⟨Nat.zero_le _, Nat.zero_le _⟩) ?_
    refine lv_ishr hx hb (by decide +kernel : decode cJ0_length_8abf5 9 = .ok (.ishr, 1)) ?_
    refine lv_topi (fun y ey => ?_)
    have ey2 : y = Int32.ofInt (mTxLen i : Int) := by
      rw [ey, ← d1]
      have h : ∀ n : Nat, n < 100 → nI n >>> ((0 : Int32) &&& 31) = Int32.ofInt (n : Int) := by decide +kernel
      exact h _ d2
    subst ey2
    exact W.iret hx hb hr (fun t ht hW => ⟨rfl, ht⟩) (fun _ h => by cases h) (by decide +kernel : decode cJ0_length_8abf5 10 = .ok (.ireturn, 1))
  · obtain ⟨d1, d2, d3⟩ := tx_dat i hi
    obtain ⟨j, rfl⟩ : ∃ n : Nat, j = n := ⟨j.toNat, by omega⟩
    have hj : j < mTxL.getD i 0 := by omega
    obtain ⟨d4, d5⟩ := d3 j hj
    refine Met.ofW (cc := cJ0_charAt_5068e) (maxL := 2) (ret := some .char) (by decide) rfl ?_
    intro p e s m args below meth c s₁ B hml hv
    obtain ⟨hv1, hE⟩ := hv
    have hv2 : args = #[.ref (ρ (250 + i)), .int (nI j)] := hv1
    subst hv2
    have hx := B.exec
    have hb := B.bytes
    have hr := B.returns
    have hts := txW B.pre
    have hown : s.vm.findClass "java/lang/String" = some m.cls := findClass_of_methodNamed B.named
    have hS : va_S (mA ρ fl) s.heap s.heap [] := va_S.rf
    have hl := lv_entry ([.ref (ρ (250 + i)), .int (nI j)]) (n := 2) (Nat.le_of_ble_eq_true rfl)
    rw [lg_entry_eq]
    generalize (lg_sl ([.ref (ρ (250 + i)), .int (nI j)]) ++ List.replicate (2 - (lg_sl ([.ref (ρ (250 + i)), .int (nI j)])).length) Slot.unset).toArray = ls at hl ⊢
    have hl : lv_has ls 2 [(0, .ref (ρ (250 + i))), (1, .int (nI j))] := hl
    obtain ⟨e1, e2, e3, hT⟩ := hE.2.2.2.2.1.1 i hi
    refine lv_aload_n hx hb (by decide +kernel : decode cJ0_charAt_5068e 0 = .ok (.aload_n 0, 1)) rfl (lv_at hl 0 rfl) ?_
    refine tx_after (v := some (.int 1)) (rest := []) (fun _ z => z) (fun _ _ _ z => z) (va_runV (C := "java/lang/String") (b := ρ (250 + i)) (As := []) (rest := []) ⟨hx, hb, hml, hown, hts⟩ (tx_latin (l := l) (ρ := ρ) (fl := fl) hi) ⟨callB_of 0 hts (mWd_good (t := (yJ0_isLatin1_aae02, cJ0_isLatin1_aae02, 1, some .boolean, (0, 0, 0, 0))) (mBW_of 857 (by decide +kernel))) rfl rfl rfl (hts (.initialized "java/lang/String") (mBW_of 122 (by decide +kernel))) (hts (.methodLink "java/lang/String" 492 yJ0_isLatin1_aae02) (mBW_of 854 (by decide +kernel))) (by decide +kernel) ⟨by decide, by decide⟩, hts (.instanceMethod yJ0_isLatin1_aae02) (mBW_of 855 (by decide +kernel)), hts (.selects "java/lang/String" yJ0_isLatin1_aae02 yJ0_isLatin1_aae02) (mBW_of 856 (by decide +kernel))⟩ ⟨fun a U g mk hp => ⟨hp.1, hp.2.to (U := U.calling g mk a) (State.WarmedH.refl U) (fun _ _ _ => rfl)⟩, vk_recv (adK := fun i => ρ (250 + i)) (i := i) hE.2.2.2.2.1 hi hS, fun U hU hW => ⟨rfl, by rw [hU]; exact hE.to hW hS.2.1⟩⟩ rfl rfl hl.1 rfl (lv_room (Nat.le_of_ble_eq_true rfl)) (by decide +kernel : decode cJ0_charAt_5068e 1 = .ok (.invokevirtual 492, 3)) ⟨Nat.zero_le _, Nat.zero_le _⟩) ?_
    refine lv_if_eq (tgt := 16) hx hb (by decide +kernel : decode cJ0_charAt_5068e 4 = .ok (.ifCond .eq 12, 3)) (by decide) (fun z => absurd z (by decide)) (fun _ => ?_)
    refine lv_aload_n hx hb (by decide +kernel : decode cJ0_charAt_5068e 7 = .ok (.aload_n 0, 1)) rfl (lv_at hl 0 rfl) ?_
    refine vk_getf hx hb e3 hS hown (hts (.fieldLink "java/lang/String" 9 "java/lang/String" "value" "[B") (mBW_of 2191 (by decide +kernel))) (fun _ z => z) (by decide +kernel : decode cJ0_charAt_5068e 8 = .ok (.getfield 9, 3)) ?_
    refine lv_iload_n hx hb (by decide +kernel : decode cJ0_charAt_5068e 11 = .ok (.iload_n 1, 1)) rfl (lv_at hl 1 rfl) ?_
    refine tx_after (v := some (.int (Int32.ofInt (mTxCh i j)))) (rest := []) (fun _ z => z) (fun _ _ _ z => z) (va_runS (As := [.ref (ρ (270 + i)), .int (nI j)]) (rest := []) ⟨hx, hb, hml, hown, hts⟩ (tx_char1 (l := l) (ρ := ρ) (fl := fl) hi hj) ⟨callB_of 2 hts (mWd_good (t := (yJ1_charAt_3b067, cJ1_charAt_3b067, 2, some .char, (0, 0, 0, 0))) (mBW_of 860 (by decide +kernel))) rfl rfl rfl (hts (.initialized "java/lang/StringLatin1") (mBW_of 123 (by decide +kernel))) (hts (.methodLink "java/lang/String" 495 yJ1_charAt_3b067) (mBW_of 858 (by decide +kernel))) (by decide +kernel) ⟨by decide, by decide⟩, hts (.static yJ1_charAt_3b067) (mBW_of 859 (by decide +kernel))⟩ ⟨fun a U g mk hp => ⟨hp.1, hp.2.to (U := U.calling g mk a) (State.WarmedH.refl U) (fun _ _ _ => rfl)⟩, fun U hU hW => ⟨rfl, by rw [hU]; exact hE.to hW hS.2.1⟩⟩ rfl rfl hl.1 rfl (lv_room (Nat.le_of_ble_eq_true rfl)) (by decide +kernel : decode cJ0_charAt_5068e 12 = .ok (.invokestatic 495, 3)) ⟨Nat.zero_le _, Nat.zero_le _⟩) ?_
    exact W.zret (v := Int32.ofInt (mTxCh i j)) (ty := .char) hx hb hr d5 (fun t ht hW => ⟨rfl, ht⟩) (fun _ h => by cases h) (by decide +kernel : decode cJ0_charAt_5068e 15 = .ok (.ireturn, 1))
end LTX
section LN
variable {p : Program} {l : Launch} {e : Env} {R : Room} {s : State} {m : MethodId} {args : Array Value} {below : List Frame} {meth : Method} {c : Code} {Q : State → Prop} {nL : Nat} {D : va_G} {cA : Nat → ClassId} {cc : ByteArray} {own : String} {A : Nat → Prop} {pc cells slots : Nat} {lv : List (Nat × Value)} {st : List Value} {ws wr : va_W}
/-- what holds throughout a method that makes objects -/
def nF (p : Program) (s : State) (m : MethodId) (args : Array Value) (c : Code) (cc : ByteArray) (nL : Nat) (own : String) (D : va_G) (cA : Nat → ClassId) (A : Nat → Prop) : Prop :=
  p.tables.exec = Jvm.exec ∧ c.code = cc ∧ c.maxLocals = nL ∧ s.vm.findClass own = some m.cls ∧ (∀ w ∈ mBW, w.before args s = true) ∧ va_K D vwCl (mTys cA) s ∧ (∀ w ∈ mNG, va_Nw w s) ∧ ∀ q, s.heap.size ≤ q → A q
def nW (p : Program) (l : Launch) (e : Env) (R : Room) (s : State) (m : MethodId) (args : Array Value) (below : List Frame) (meth : Method) (c : Code) (Q : State → Prop) (nL : Nat) (D : va_G) (A : Nat → Prop) (pc : Nat) (lv : List (Nat × Value)) (st : List Value) (ws : va_W) (cells slots : Nat) : Prop :=
  ∀ (H : Heap) (locs : List Loc) (ls : Array Slot), va_P D vwCl ws H → va_D A ws → va_S A s.heap H locs → lv_has ls nL lv → W p l e R s m args below meth c H locs cells slots Q (F0 m pc ls st)
theorem n_aln {k : Fin 4} {i a j : Nat} (F : nF p s m args c cc nL own D cA A) (hd : mDc cc pc (.aload_n k) 1 = true) (hi : (k : Nat) = i) (hj : lv[j]? = some (i, .ref a)) (h : nW p l e R s m args below meth c Q nL D A (pc + 1) lv (.ref a :: st) ws cells slots) : nW p l e R s m args below meth c Q nL D A pc lv st ws cells slots :=
  fun H locs ls hP hD hS hl => lv_aload_n F.1 F.2.1 (mDc_of hd) hi (lv_at hl j hj) (h H locs ls hP hD hS hl)
theorem n_al {i a j : Nat} (F : nF p s m args c cc nL own D cA A) (hd : mDc cc pc (.aload i) 2 = true) (hj : lv[j]? = some (i, .ref a)) (h : nW p l e R s m args below meth c Q nL D A (pc + 2) lv (.ref a :: st) ws cells slots) : nW p l e R s m args below meth c Q nL D A pc lv st ws cells slots :=
  fun H locs ls hP hD hS hl => lv_aload F.1 F.2.1 (mDc_of hd) (lv_at hl j hj) (h H locs ls hP hD hS hl)
theorem n_iln {k : Fin 4} {i j : Nat} {x : Int32} (F : nF p s m args c cc nL own D cA A) (hd : mDc cc pc (.iload_n k) 1 = true) (hi : (k : Nat) = i) (hj : lv[j]? = some (i, .int x)) (h : nW p l e R s m args below meth c Q nL D A (pc + 1) lv (.int x :: st) ws cells slots) : nW p l e R s m args below meth c Q nL D A pc lv st ws cells slots :=
  fun H locs ls hP hD hS hl => lv_iload_n F.1 F.2.1 (mDc_of hd) hi (lv_at hl j hj) (h H locs ls hP hD hS hl)
theorem n_asn {k : Fin 4} {i a : Nat} {lv' : List (Nat × Value)} (F : nF p s m args c cc nL own D cA A) (hd : mDc cc pc (.astore_n k) 1 = true) (hi : (k : Nat) = i) (hn : i < nL) (hl' : (i, Value.ref a) :: lv.filter (fun q => !(q.1 == i) && !(q.1 + 1 == i && q.2.category == 2)) = lv') (h : nW p l e R s m args below meth c Q nL D A (pc + 1) lv' st ws cells slots) : nW p l e R s m args below meth c Q nL D A pc lv (.ref a :: st) ws cells slots :=
  fun H locs ls hP hD hS hl => lv_astore_n F.1 F.2.1 (mDc_of hd) hi hl hn hl' (fun ls hl => h H locs ls hP hD hS hl)
theorem n_isn {k : Fin 4} {i : Nat} {x : Int32} {lv' : List (Nat × Value)} (F : nF p s m args c cc nL own D cA A) (hd : mDc cc pc (.istore_n k) 1 = true) (hi : (k : Nat) = i) (hn : i < nL) (hl' : (i, Value.int x) :: lv.filter (fun q => !(q.1 == i) && !(q.1 + 1 == i && q.2.category == 2)) = lv') (h : nW p l e R s m args below meth c Q nL D A (pc + 1) lv' st ws cells slots) : nW p l e R s m args below meth c Q nL D A pc lv (.int x :: st) ws cells slots :=
  fun H locs ls hP hD hS hl => lv_istore_n F.1 F.2.1 (mDc_of hd) hi hl hn hl' (fun ls hl => h H locs ls hP hD hS hl)
theorem n_ic {x : Int} {v : Int32} (F : nF p s m args c cc nL own D cA A) (hd : mDc cc pc (.iconst x) 1 = true) (hv : Int32.ofInt x = v) (h : nW p l e R s m args below meth c Q nL D A (pc + 1) lv (.int v :: st) ws cells slots) : nW p l e R s m args below meth c Q nL D A pc lv st ws cells slots :=
  fun H locs ls hP hD hS hl => lv_iconst F.1 F.2.1 (mDc_of hd) hv (h H locs ls hP hD hS hl)
theorem n_bi {x : Int} {v : Int32} (F : nF p s m args c cc nL own D cA A) (hd : mDc cc pc (.bipush x) 2 = true) (hv : (Int8.ofInt x).toInt32 = v) (h : nW p l e R s m args below meth c Q nL D A (pc + 2) lv (.int v :: st) ws cells slots) : nW p l e R s m args below meth c Q nL D A pc lv st ws cells slots :=
  fun H locs ls hP hD hS hl => lv_bipush F.1 F.2.1 (mDc_of hd) hv (h H locs ls hP hD hS hl)
theorem n_si {x : Int} {v : Int32} (F : nF p s m args c cc nL own D cA A) (hd : mDc cc pc (.sipush x) 3 = true) (hv : (Int16.ofInt x).toInt32 = v) (h : nW p l e R s m args below meth c Q nL D A (pc + 3) lv (.int v :: st) ws cells slots) : nW p l e R s m args below meth c Q nL D A pc lv st ws cells slots :=
  fun H locs ls hP hD hS hl => lv_sipush F.1 F.2.1 (mDc_of hd) hv (h H locs ls hP hD hS hl)
theorem n_dup {a : Nat} (F : nF p s m args c cc nL own D cA A) (hd : mDc cc pc .dup 1 = true) (h : nW p l e R s m args below meth c Q nL D A (pc + 1) lv (.ref a :: .ref a :: st) ws cells slots) : nW p l e R s m args below meth c Q nL D A pc lv (.ref a :: st) ws cells slots :=
  fun H locs ls hP hD hS hl => lv_dup F.1 F.2.1 (mDc_of hd) rfl (h H locs ls hP hD hS hl)
theorem n_obj {a idx : Nat} (F : nF p s m args c cc nL own D cA A) (hd : mDc cc pc (.invokespecial idx) 3 = true) (w1 : Cond.methodLink own idx Lib.objectInit ∈ mBW) (hr : 1 ≤ R.frames ∧ 20 ≤ R.locals) (hst : (st.map fun v => v.category).sum ≤ 4) (h : nW p l e R s m args below meth c Q nL D A (pc + 3) lv st ws cells slots) : nW p l e R s m args below meth c Q nL D A pc lv (.ref a :: st) ws cells slots :=
  fun H locs ls hP hD hS hl => by
    refine W.objInit F.1 F.2.1 F.2.2.2.1 (F.2.2.2.2.1 _ w1) (F.2.2.2.2.1 _ (mBW_of 138 (by decide +kernel))) (F.2.2.2.2.1 _ (mBW_of 139 (by decide +kernel))) rfl (by rw [F.2.2.1]; exact hl.1) rfl (mDc_of hd) hr.1 ?_ ?_
    · have e0 : 2 * (F0 m pc ls (.ref a :: st)).monitorRoom = 0 := rfl
      rw [e0]; omega
    · exact W.eq (g2 := F0 m (pc + 3) ls st) rfl (h H locs ls hP hD hS hl)
theorem n_new {ci idx : Nat} {r : vw_C} {fs : List Value} (F : nF p s m args c cc nL own D cA A) (hd : mDc cc pc (.new idx) 3 = true) (hc : vwCl[ci]? = some r) (w1 : Cond.classLink own idx r.1 ∈ mBW) (w2 : Cond.instantiable r.1 r.2.2 ∈ mBW) (w3 : Cond.initialized r.1 ∈ mBW) (hfs : ∀ j, j < r.2.2 → defaultValue (mTy r j) = vp_V fs j) (hR : cells + 1 ≤ R.cells ∧ slots + r.2.2 ≤ R.slots)
    (h : ∀ q, nW p l e R s m args below meth c Q nL D A (pc + 3) lv (.ref q :: st) (ws ++ [(q, .inr (ci, fs))]) (cells + 1) (slots + r.2.2)) : nW p l e R s m args below meth c Q nL D A pc lv st ws cells slots :=
  fun H locs ls hP hD hS hl => va_new F.1 F.2.1 F.2.2.2.2.1 (mU_in hc) (mTy r) (mU_ty hc) F.2.2.2.1 (F.2.2.2.2.1 _ w1) (F.2.2.2.2.1 _ w2) (F.2.2.2.2.1 _ w3) F.2.2.2.2.2.1 hP hD hS F.2.2.2.2.2.2.2 hc hfs hR.1 hR.2 (mDc_of hd) (fun q H1 hP hD hS => h q H1 locs ls hP hD hS hl)
theorem va_RA_eq {U : State} {c1 c2 : ClassId} {ty : FieldType} (h1 : va_RA U c1 ty) (h2 : va_RA U c2 ty) : c1 = c2 := by
  cases ty with
  | object C =>
    obtain ⟨-, -, -, -, -, h1⟩ := h1
    obtain ⟨-, -, -, -, -, h2⟩ := h2
    exact Option.some.inj (h1.symm.trans h2)
  | _ => exact Option.some.inj (Eq.trans (Eq.symm h1) h2)
theorem n_newa {atype : ArrayType} {ty : FieldType} {k0 N' : Nat} {cK : ClassId} {v : Int32} {a0 : vp_A} (F : nF p s m args c cc nL own D cA A) (hd : mDc cc pc (.newarray atype) 2 = true) (w1 : Cond.arrayClass (newarray.typeOf atype) ∈ mBW) (hty : newarray.typeOf atype = ty) (hk : (mTys cA)[k0]? = some (cK, ty)) (ha : ∀ cA : ClassId, vp_cell cA a0 = arrV cA N' (fun _ => defaultValue ty)) (hn : ¬ v < 0) (hN : v.toNatClampNeg = N') (hbytes : N' * componentBytes ty ≤ 536870912) (hR : cells + 1 ≤ R.cells ∧ slots + N' ≤ R.slots)
    (h : ∀ q, nW p l e R s m args below meth c Q nL D A (pc + 2) lv (.ref q :: st) (ws ++ [(q, .inl (cK, a0))]) (cells + 1) (slots + N')) : nW p l e R s m args below meth c Q nL D A pc lv (.int v :: st) ws cells slots :=
  fun H locs ls hP hD hS hl => va_newa F.1 F.2.1 (atype := atype) (F.2.2.2.2.1 _ w1) hty F.2.2.2.2.2.1 hP hD hS F.2.2.2.2.2.2.2 ha hn hN hbytes hR.1 hR.2 (mDc_of hd) (fun q cN H1 hK hP hD hS => by
    have e1 : (mTys cA ++ [(cN, ty)])[6]? = some (cN, ty) := rfl
    have e2 := va_RA_eq (hK.2 6 _ e1).2 ((F.2.2.2.2.2.1).2 k0 _ hk).2
    dsimp only at e2
    subst e2
    exact h q H1 locs ls hP hD hS hl)
theorem n_newq {idx k0 N' : Nat} {C : String} {cK : ClassId} {v : Int32} (F : nF p s m args c cc nL own D cA A) (hd : mDc cc pc (.anewarray idx) 3 = true) (w1 : Cond.classLink own idx C ∈ mBW) (ho : va_AO C s) (hk : (mTys cA)[k0]? = some (cK, .object C)) (hn : ¬ v < 0) (hN : v.toNatClampNeg = N') (hbytes : N' * 4 ≤ 536870912) (hR : cells + 1 ≤ R.cells ∧ slots + N' ≤ R.slots)
    (h : ∀ q, nW p l e R s m args below meth c Q nL D A (pc + 3) lv (.ref q :: st) (ws ++ [(q, .inl (cK, N', .inr (.inr (.inr (.inr (fun _ => none))))))]) (cells + 1) (slots + N')) : nW p l e R s m args below meth c Q nL D A pc lv (.int v :: st) ws cells slots :=
  fun H locs ls hP hD hS hl => va_newq F.1 F.2.1 F.2.2.2.1 (F.2.2.2.2.1 _ w1) ho F.2.2.2.2.2.1 hP hD hS F.2.2.2.2.2.2.2 hn hN hbytes hR.1 hR.2 (mDc_of hd) (fun q cN H1 hK hP hD hS => by
    have e1 : (mTys cA ++ [(cN, .object C)])[6]? = some (cN, .object C) := rfl
    have e2 := va_RA_eq (hK.2 6 _ e1).2 ((F.2.2.2.2.2.1).2 k0 _ hk).2
    dsimp only at e2
    subst e2
    exact h q H1 locs ls hP hD hS hl)
theorem n_get {ci k idx j a : Nat} {r : vw_C} {fs : List Value} {v : Value} (F : nF p s m args c cc nL own D cA A) (hd : mDc cc pc (.getfield idx) 3 = true) (hj : ws[j]? = some (a, .inr (ci, fs))) (hc : vwCl[ci]? = some r) (hk : k < r.2.2) (w1 : Cond.fieldLink own idx (r.2.1 k).1 (r.2.1 k).2.1 (r.2.1 k).2.2.1 ∈ mBW) (hv : fs[k]? = some v) (h : nW p l e R s m args below meth c Q nL D A (pc + 3) lv (v :: st) ws cells slots) : nW p l e R s m args below meth c Q nL D A pc lv (.ref a :: st) ws cells slots :=
  fun H locs ls hP hD hS hl => va_get F.1 F.2.1 F.2.2.2.2.1 (mU_in hc) F.2.2.2.1 F.2.2.2.2.2.1 hP j hj hc k hk (F.2.2.2.2.1 _ w1) (fun _ z => z) hv (mDc_of hd) (h H locs ls hP hD hS hl)
theorem n_put {ci k idx a : Nat} {r : vw_C} {fs fs' : List Value} {v : Value} {ty : FieldType} (F : nF p s m args c cc nL own D cA A) (hin : meth.name = "<init>") (hd : mDc cc pc (.putfield idx) 3 = true) (hc : vwCl[ci]? = some r) (hk : k < r.2.2) (w1 : Cond.fieldLink own idx (r.2.1 k).1 (r.2.1 k).2.1 (r.2.1 k).2.2.1 ∈ mBW) (hdl : (r.2.1 k).1 = own) (hpd : parseFieldDescriptor (r.2.1 k).2.2.1 = some ty) (hn : narrow ty v = v) (hfit : fits ty v = true) (hl9 : k < fs.length) (hfs : fs.set k v = fs') (h : nW p l e R s m args below meth c Q nL D A (pc + 3) lv st ((a, .inr (ci, fs')) :: wr) cells slots) : nW p l e R s m args below meth c Q nL D A pc lv (v :: .ref a :: st) ((a, .inr (ci, fs)) :: wr) cells slots := by
  subst hfs
  intro H locs ls hP hD hS hl
  by_cases hf : (r.2.1 k).2.2.2 = true
  · exact va_putF F.1 F.2.1 F.2.2.2.2.1 (mU_in hc) (mTy r) (mU_ty hc) (mU_nm hc) F.2.2.2.1 F.2.2.2.2.2.1 hP hD hS 0 rfl hc k hk (F.2.2.2.2.1 _ w1) (fun _ z => z) hf hin hdl hpd hn hfit hl9 (mDc_of hd) (fun H1 locs1 hP hD hS => h H1 locs1 ls hP hD hS hl)
  · exact va_put F.1 F.2.1 F.2.2.2.2.1 (mU_in hc) (mTy r) (mU_ty hc) (mU_nm hc) F.2.2.2.1 F.2.2.2.2.2.1 hP hD hS 0 rfl hc k hk (F.2.2.2.2.1 _ w1) (fun _ z => z) (Bool.eq_false_iff.mpr hf) hpd hn hfit hl9 (mDc_of hd) (fun H1 locs1 hP hD hS => h H1 locs1 ls hP hD hS hl)
/-- a method that makes objects: from the cells ws to the cells wf u -/
def nPc (D : va_G) (cA : Nat → ClassId) (av : List Value) (sz : Nat) (ws : va_W) : Array Value → State → Prop := va_Pc av (fun U => U.heap.size = sz ∧ va_P D vwCl ws U.heap ∧ va_K D vwCl (mTys cA) U ∧ va_D (fun _ => True) ws ∧ (∀ w ∈ mNG, va_Nw w U) ∧ va_AO "NineOnGrass$State" U ∧ va_AO "NineOnGrass$Tray" U)
def nMet (l : Launch) (y : MethodName) (cc : ByteArray) (nL : Nat) (rm : Nat × Nat × Nat × Nat) (D : va_G) (cA : Nat → ClassId) (av : List Value) (ws : va_W) (wf : (Nat → Nat) → va_W) : Prop :=
  ∀ sz : Nat, Met l y (mWd (y, cc, nL, none, rm)) (mRm rm) (nPc D cA av sz ws) (va_Qv (fun _ : Nat → Nat => True) (fun u t => va_P D vwCl (wf u) t.heap ∧ va_D (va_A ws sz) (wf u)) (va_A ws sz)) rm.2.2.1 rm.2.2.2 (va_A ws sz)
theorem nPc_blind {av : List Value} {sz : Nat} : FrameBlind (nPc D cA av sz ws) := fun a U g mk h => by
  obtain ⟨h0, h1, h2, h3, h4, h5, h6, h7⟩ := h
  exact ⟨h0, h1, h2, va_K.moved (u := U) (U := U.calling g mk a) (Vm.Alike.refl U.vm) h3, h4, mNG_warm (s := U) (U := U.calling g mk a) (State.WarmedH.refl U) h5, va_AO.moved (u := U) (U := U.calling g mk a) (Vm.Alike.refl U.vm) h6, va_AO.moved (u := U) (U := U.calling g mk a) (Vm.Alike.refl U.vm) h7⟩
end LN
section LN2
theorem nd_of : ∀ (l : List Nat), l.Nodup → va_nd l = true
  | [], _ => rfl
  | i :: is, h => by
    simp only [va_nd, List.nodup_cons] at h ⊢
    simp [nd_of is h.2, h.1]
theorem n_join {A0 : Nat → Prop} {D : va_G} {ws w1 : va_W} {x : Nat × va_E} {H H1 : Heap} (hP : va_P D vwCl (ws ++ [x]) H) (hD : va_D A0 (ws ++ [x])) (hk : ∀ q : Nat, q < H.size → ¬ va_A [x] H.size q → H1[q]? = H[q]?) (hF : ∀ q, va_A [x] H.size q → A0 q) (hP1 : va_P D vwCl w1 H1) (hD1 : va_D (va_A [x] H.size) w1) : va_P D vwCl (ws ++ w1) H1 ∧ va_D A0 (ws ++ w1) := by
  refine va_join (wc := [x]) hP hD [ws.length] (List.range ws.length) ?_ ?_ (nd_of _ List.nodup_range) (fun i hi hj => ?_) hk hF hP1 hD1
  · simp
  · apply List.ext_getElem?
    intro k
    simp only [List.getElem?_map]
    rcases Nat.lt_or_ge k ws.length with q | q
    · rw [List.getElem?_range q]
      simp only [Option.map_some]
      rw [List.getElem?_append_left q]
      rw [List.getElem?_eq_getElem q]; rfl
    · rw [List.getElem?_eq_none (by simpa using q), List.getElem?_eq_none (by simpa using q)]
      rfl
  · have h1 := List.mem_range.mp hi
    have h2 : i = ws.length := by simpa using hj
    omega
end LN2
section LN3
variable {p : Program} {l : Launch} {e : Env} {R : Room} {s : State} {m : MethodId} {args : Array Value} {below : List Frame} {meth : Method} {c : Code} {Q : State → Prop} {nL : Nat} {D : va_G} {cA : Nat → ClassId} {cc : ByteArray} {own : String} {A : Nat → Prop} {pc cells slots : Nat} {lv : List (Nat × Value)} {st : List Value} {ws wr : va_W}
theorem n_ofW {y : MethodName} {rm : Nat × Nat × Nat × Nat} {av : List Value} {wf : (Nat → Nat) → va_W} (hy : plainName y.cls = true) (hav : (lg_sl av).length ≤ nL)
    (body : ∀ (p : Program) (e : Env) (s : State) (m : MethodId) (below : List Frame) (meth : Method) (c : Code), nF p s m av.toArray c cc nL y.cls D cA (va_A ws s.heap.size) → (meth.name = y.name ∧ meth.sig.returnType = none ∧ meth.locks = false) → va_AO "NineOnGrass$State" s → va_AO "NineOnGrass$Tray" s →
      nW p l e (mRm rm) s m av.toArray below meth c (MQ below (va_Qv (fun _ : Nat → Nat => True) (fun u t => va_P D vwCl (wf u) t.heap ∧ va_D (va_A ws s.heap.size) (wf u)) (va_A ws s.heap.size)) av.toArray s rm.2.2.1 rm.2.2.2 (va_A ws s.heap.size)) nL D (va_A ws s.heap.size) 0 (lv_args 0 av) [] ws 0 0) : nMet l y cc nL rm D cA av ws wf := by
  intro sz
  refine Met.ofW (cc := cc) (maxL := nL) (ret := none) hy rfl ?_
  intro p e s m args below meth c s₁ B hml hv
  obtain ⟨rfl, rfl, hP, hK, hD, hN, hA1, hA2⟩ := hv
  have hts := txW B.pre
  have hb := body p e s m below meth c ⟨B.exec, B.bytes, hml, findClass_of_methodNamed B.named, hts, hK, hN, fun q hq => Or.inr hq⟩ ⟨(name_of_methodNamed B.named B.method).1, B.returns, B.notSynchronized⟩ hA1 hA2
  have hl := lv_entry av (n := nL) hav
  rw [lg_entry_eq]
  exact hb s.heap [] _ hP hD.self va_S.rf hl
theorem n_vret {wf : (Nat → Nat) → va_W} {mc ms : Nat} (F : nF p s m args c cc nL own D cA A) (hr : meth.sig.returnType = none) (hlk : meth.locks = false) (hd : mDc cc pc .return_ 1 = true) (u : Nat → Nat) (hu : wf u = ws) (hc : cells ≤ mc ∧ slots ≤ ms) {a : Array Value} (ha : a = args) :
    nW p l e R s m args below meth c (MQ below (va_Qv (fun _ : Nat → Nat => True) (fun u t => va_P D vwCl (wf u) t.heap ∧ va_D A (wf u)) A) a s mc ms A) nL D A pc lv [] ws cells slots := by
  subst ha
  exact fun H locs ls hP hD hS hl => W.widen hc.1 hc.2 (W.vret F.1 F.2.1 hr (fun t ht hW => ⟨⟨u, rfl, trivial, by rw [ht, hu]; exact hP, by rw [hu]; exact hD⟩, hS.F ht⟩) hS.2.2 (mDc_of hd) hlk)
/-- the words and room of a call -/
def nCall (y : MethodName) (cy : ByteArray) (ny : Nat) (rm : Nat × Nat × Nat × Nat) (R : Room) (n : Nat) : Prop := Cond.code y cy ny none ∈ mBW ∧ Cond.initialized y.cls ∈ mBW ∧ (y.cls ≠ "java/lang/invoke/MethodHandle" ∧ y.cls ≠ "java/lang/invoke/VarHandle" ∧ (parseMethodDescriptor y.desc).map (fun d => d.parameters.length) = some n) ∧ (rm.1 + 1 ≤ R.frames ∧ 8 + (ny + 11) + rm.2.1 ≤ R.locals)
theorem nPreS {H : Heap} {locs : List Loc} {av : List Value} (F : nF p s m args c cc nL own D cA A) (hAO : va_AO "NineOnGrass$State" s ∧ va_AO "NineOnGrass$Tray" s) {wc : va_W} (hP : va_P D vwCl wc H) (hD : va_D A wc) (hS : va_S A s.heap H locs) : PreS s H (nPc D cA av H.size wc) av :=
  ⟨nPc_blind, fun U hU hW => ⟨rfl, by rw [hU], by rw [hU]; exact hP, va_K.moved hW.alike F.2.2.2.2.2.1, hD.weaken (fun _ _ _ _ => trivial), mNG_warm hW F.2.2.2.2.2.2.1, va_AO.moved hW.alike hAO.1, va_AO.moved hW.alike hAO.2⟩⟩
/-- a constructor of the new object at the end is called -/
theorem n_init {y : MethodName} {cy : ByteArray} {ny idx n h : Nat} {o : va_E} {rm : Nat × Nat × Nat × Nat} {As : List Value} {wf : (Nat → Nat) → va_W} (F : nF p s m args c cc nL own D cA A) (hAO : va_AO "NineOnGrass$State" s ∧ va_AO "NineOnGrass$Tray" s) (hM : nMet l y cy ny rm D cA (.ref h :: As) [(h, o)] wf) (hd : mDc cc pc (.invokespecial idx) 3 = true) (hw : nCall y cy ny rm R n) (hl9 : Cond.methodLink own idx y ∈ mBW ∨ Cond.methodLinkNest own idx y "NineOnGrass" ∈ mNG) (hin : Cond.instanceMethod y ∈ mBW) (hyn : y.name = "<init>") (hn : As.length = n) (hst : (st.map fun v => v.category).sum ≤ 8) (hR : cells + rm.2.2.1 ≤ R.cells ∧ slots + rm.2.2.2 ≤ R.slots)
    (k : ∀ u, nW p l e R s m args below meth c Q nL D A (pc + 3) lv st (ws ++ wf u) (cells + rm.2.2.1) (slots + rm.2.2.2)) : nW p l e R s m args below meth c Q nL D A pc lv (As.reverse ++ .ref h :: st) (ws ++ [(h, o)]) cells slots := by
  intro H locs ls hP hD hS hl
  obtain ⟨w1, w2, w3, w4⟩ := hw
  have hts := F.2.2.2.2.1
  have hPc : va_P D vwCl [(h, o)] H := hP.sub [ws.length] (by simp)
  have hDc : va_D A [(h, o)] := hD.sub [ws.length] (by simp [va_nd]) (by simp)
  have hFc := va_free (wc := [(h, o)]) hD hS F.2.2.2.2.2.2.2 [ws.length] (by simp)
  have hg := mWd_good (t := (y, cy, ny, none, rm)) w1
  have hrun : va_Run p l e R s m args below meth c H locs cells slots rm.2.2.1 rm.2.2.2 (F0 m pc ls (As.reverse ++ .ref h :: st)) st (va_Qv (fun _ : Nat → Nat => True) (fun u t => va_P D vwCl (wf u) t.heap ∧ va_D (va_A [(h, o)] H.size) (wf u)) (va_A [(h, o)] H.size) (Value.ref h :: As).toArray) (va_A [(h, o)] H.size) := by
    rcases hl9 with h9 | h9
    · exact va_runI (As := As) (rest := st) ⟨F.1, F.2.1, F.2.2.1, F.2.2.2.1, hts⟩ (hM H.size) ⟨callB_of n hts hg rfl rfl rfl (hts _ w2) (hts _ h9) w3 w4, hyn, hts _ hin⟩ (nPreS F hAO hPc hDc hS) rfl hn hl.1 rfl (lv_room hst) (mDc_of hd) hR
    · exact va_runIN (As := As) (rest := st) ⟨F.1, F.2.1, F.2.2.1, F.2.2.2.1, hts⟩ (hM H.size) ⟨va_cnB n hts hg rfl rfl rfl (F.2.2.2.2.2.2.1 _ h9) (hts _ w2) w3 w4, hyn, hts _ hin⟩ (nPreS F hAO hPc hDc hS) rfl hn hl.1 rfl (lv_room hst) (mDc_of hd) hR
  refine va_callv hrun hS (fun q _ h => hFc q h) hFc (fun u t H1 locs1 ht hvm _ hB hz1 hk1 hS1 => ?_)
  obtain ⟨hP1, hD1⟩ := hB
  rw [ht] at hP1
  obtain ⟨hP2, hD2⟩ := n_join hP hD hk1 hFc hP1 hD1
  exact k u H1 locs1 ls hP2 hD2 hS1 hl
/-- a call that has the whole world -/
theorem n_all {y : MethodName} {cy : ByteArray} {ny idx h : Nat} {rm : Nat × Nat × Nat × Nat} {wf : (Nat → Nat) → va_W} {o : Nat × List Value} {r : vw_C} (F : nF p s m args c cc nL own D cA A) (hAO : va_AO "NineOnGrass$State" s ∧ va_AO "NineOnGrass$Tray" s) (hM : nMet l y cy ny rm D cA [.ref h] ((h, .inr o) :: wr) wf) (hd : mDc cc pc (.invokevirtual idx) 3 = true) (hw : nCall y cy ny rm R 0) (hl9 : Cond.methodLink own idx y ∈ mBW) (hin : Cond.instanceMethod y ∈ mBW) (hse : Cond.selects y.cls y y ∈ mBW) (hr : vwCl[o.1]? = some r) (hr2 : r.1 = y.cls) (hst : (st.map fun v => v.category).sum ≤ 8) (hR : cells + rm.2.2.1 ≤ R.cells ∧ slots + rm.2.2.2 ≤ R.slots)
    (k : ∀ u, nW p l e R s m args below meth c Q nL D A (pc + 3) lv st (wf u) (cells + rm.2.2.1) (slots + rm.2.2.2)) : nW p l e R s m args below meth c Q nL D A pc lv (.ref h :: st) ((h, .inr o) :: wr) cells slots := by
  intro H locs ls hP hD hS hl
  obtain ⟨w1, w2, w3, w4⟩ := hw
  have hts := F.2.2.2.2.1
  have hg := mWd_good (t := (y, cy, ny, none, rm)) w1
  have hFc : ∀ q, va_A ((h, .inr o) :: wr) H.size q → A q := fun q hq => by
    rcases hq with ⟨k, e, hq⟩ | hq
    · exact hD.2 _ (q, e) hq
    · exact F.2.2.2.2.2.2.2 q (Nat.le_trans hS.1 hq)
  have hrecv := va_recv F.2.2.2.2.2.1 hP (ci := o.1) (q0 := 0) hr rfl
  rw [hr2] at hrecv
  obtain ⟨hbl, hpc⟩ := nPreS (av := [.ref h]) F hAO hP hD hS
  refine va_callv (va_runV (As := []) (rest := st) ⟨F.1, F.2.1, F.2.2.1, F.2.2.2.1, hts⟩ (hM H.size) ⟨callB_of 0 hts hg rfl rfl rfl (hts _ w2) (hts _ hl9) w3 w4, hts _ hin, hts _ hse⟩ ⟨hbl, hrecv, hpc⟩ rfl rfl hl.1 rfl (lv_room hst) (mDc_of hd) hR) hS (fun q _ h => hFc q h) hFc (fun u t H1 locs1 ht hvm _ hB hz1 hk1 hS1 => ?_)
  obtain ⟨hP1, hD1⟩ := hB
  rw [ht] at hP1
  exact k u H1 locs1 ls hP1 (hD1.weaken (fun _ _ _ hq => hFc _ hq)) hS1 hl
/-- a static call over one cell -/
theorem n_one {y : MethodName} {cy : ByteArray} {ny idx n a j : Nat} {o o' : va_E} {rm : Nat × Nat × Nat × Nat} {av : List Value} (F : nF p s m args c cc nL own D cA A) (hAO : va_AO "NineOnGrass$State" s ∧ va_AO "NineOnGrass$Tray" s) (hM : nMet l y cy ny rm D cA av [(a, o)] (fun _ => [(a, o')])) (hj : ws[j]? = some (a, o)) (hd : mDc cc pc (.invokestatic idx) 3 = true) (hw : nCall y cy ny rm R n) (hl9 : Cond.methodLink own idx y ∈ mBW) (hin : Cond.static y ∈ mBW) (hn : av.length = n) (hst : (st.map fun v => v.category).sum ≤ 8) (hR : cells + rm.2.2.1 ≤ R.cells ∧ slots + rm.2.2.2 ≤ R.slots)
    (k : nW p l e R s m args below meth c Q nL D A (pc + 3) lv st (ws.set j (a, o')) (cells + rm.2.2.1) (slots + rm.2.2.2)) : nW p l e R s m args below meth c Q nL D A pc lv (av.reverse ++ st) ws cells slots := by
  intro H locs ls hP hD hS hl
  obtain ⟨w1, w2, w3, w4⟩ := hw
  have hts := F.2.2.2.2.1
  have hPc : va_P D vwCl [(a, o)] H := hP.sub [j] (by simp [hj])
  have hDc : va_D A [(a, o)] := hD.sub [j] (by simp [va_nd]) (by simp [hj])
  have hFc := va_free (wc := [(a, o)]) hD hS F.2.2.2.2.2.2.2 [j] (by simp [hj])
  have hg := mWd_good (t := (y, cy, ny, none, rm)) w1
  refine va_callv (va_runS (As := av) (rest := st) ⟨F.1, F.2.1, F.2.2.1, F.2.2.2.1, hts⟩ (hM H.size) ⟨callB_of n hts hg rfl rfl rfl (hts _ w2) (hts _ hl9) w3 w4, hts _ hin⟩ (nPreS F hAO hPc hDc hS) rfl hn hl.1 rfl (lv_room hst) (mDc_of hd) hR) hS (fun q _ h => hFc q h) hFc (fun u t H1 locs1 ht hvm _ hB hz1 hk1 hS1 => ?_)
  obtain ⟨hP1, hD1⟩ := hB
  rw [ht] at hP1
  have hjl : j < ws.length := (List.getElem?_eq_some_iff.mp hj).1
  refine k H1 locs1 ls (fun i q hi => ?_) ⟨fun i i' p q hi hi' hpq => ?_, fun i q hi => ?_⟩ hS1 hl
  · rw [List.getElem?_set] at hi
    by_cases h9 : j = i
    · rw [if_pos h9, if_pos hjl] at hi
      cases hi
      exact hP1 0 _ rfl
    · rw [if_neg h9] at hi
      have hne : q.1 ≠ a := fun e9 => h9 (hD.1 j i _ _ hj hi e9.symm)
      have hlt := (hP i q hi).lt
      have hke := hk1 q.1 hlt (fun z => by
        rcases z with ⟨k9, e9, z⟩ | z
        · rcases k9 with _ | k9
          · cases z; exact hne rfl
          · simp at z
        · omega)
      exact (hP i q hi).kept hke
  · have g : ∀ (i : Nat) (q : Nat × va_E), (ws.set j (a, o'))[i]? = some q → ∃ q', ws[i]? = some q' ∧ q'.1 = q.1 := fun i q hi => by
      rw [List.getElem?_set] at hi
      by_cases h9 : j = i
      · rw [if_pos h9, if_pos hjl] at hi
        cases hi
        subst h9
        exact ⟨_, hj, rfl⟩
      · rw [if_neg h9] at hi
        exact ⟨_, hi, rfl⟩
    obtain ⟨p', h1, e1⟩ := g i p hi
    obtain ⟨q', h2, e2⟩ := g i' q hi'
    exact hD.1 i i' p' q' h1 h2 (by rw [e1, e2, hpq])
  · rw [List.getElem?_set] at hi
    by_cases h9 : j = i
    · rw [if_pos h9, if_pos hjl] at hi
      cases hi
      show A a
      exact hD.2 j _ hj
    · rw [if_neg h9] at hi
      exact hD.2 i q hi
end LN3
section LN4
variable {p : Program} {l : Launch} {e : Env} {R : Room} {s : State} {m : MethodId} {args : Array Value} {below : List Frame} {meth : Method} {c : Code} {Q : State → Prop} {nL : Nat} {D : va_G} {cA : Nat → ClassId} {cc : ByteArray} {own : String} {A : Nat → Prop} {pc cells slots : Nat} {lv : List (Nat × Value)} {st : List Value} {ws wr : va_W}
theorem n_ia {a j n : Nat} {f : Nat → Int32} {i x : Int32} {o' : va_E} (F : nF p s m args c cc nL own D cA A) (hd : mDc cc pc .iastore 1 = true) (hj : ws[j]? = some (a, .inl (cA 20, n, .inl f))) (hi : vp_in i n) (ho : .inl (cA 20, n, .inl (upd f i.toNatClampNeg x)) = o') (h : nW p l e R s m args below meth c Q nL D A (pc + 1) lv st (ws.set j (a, o')) cells slots) : nW p l e R s m args below meth c Q nL D A pc lv (.int x :: .int i :: .ref a :: st) ws cells slots := by
  subst ho
  exact fun H locs ls hP hD hS hl => va_iast F.1 F.2.1 F.2.2.2.2.2.1 hP hD hS j 0 hj rfl hi (mDc_of hd) (fun H1 locs1 hP hD hS => h H1 locs1 ls hP hD hS hl)
theorem arrV_x {cI : ClassId} {n : Nat} {f g : Nat → Value} (h : ∀ j, j < n → f j = g j) : arrV cI n f = arrV cI n g := by
  have e : (fun j : Fin n => f j.val) = (fun j : Fin n => g j.val) := funext fun j => h j.val j.isLt
  unfold arrV
  rw [e]
theorem va_i_x {a n : Nat} {cI : ClassId} {f g : Nat → Int32} {H : Heap} (hf : ∀ j, j < n → f j = g j) (h : va_P D vwCl [(a, .inl (cI, n, .inl f))] H) : va_P D vwCl [(a, .inl (cI, n, .inl g))] H := fun k q hk => by
  rcases k with _ | k
  · cases hk
    have h0 := h 0 _ rfl
    show H[a]? = some (vp_cell cI (n, .inl g))
    rw [vp_cell_i, ← arrV_x (f := fun j => Value.int (f j)) (fun j hj => by rw [hf j hj])]
    exact h0
  · simp at hk
theorem va_D_x {a : Nat} {o o' : va_E} (h : va_D A [(a, o)]) : va_D A [(a, o')] := by
  refine ⟨fun i j p q hi hj e => ?_, fun k q hk => ?_⟩
  · rcases i with _ | i
    · rcases j with _ | j
      · rfl
      · simp at hj
    · simp at hi
  · rcases k with _ | k
    · cases hk
      exact h.2 0 (a, o) rfl
    · simp at hk
set_option maxRecDepth 100000 in
theorem n_fill {a n : Nat} {f : Nat → Int32} {v : Int32} (hn : n < 2 ^ 31) : nMet l yJ7_fill_53178 cJ7_fill_53178 4 (0, 0, 0, 0) D cA [.ref a, .int v] [(a, .inl (cA 20, n, .inl f))] (fun _ => [(a, .inl (cA 20, n, .inl (fun _ => v)))]) := by
  refine n_ofW (by decide) (Nat.le_of_ble_eq_true rfl) ?_
  intro p e s m below meth c F hm hA1 hA2
  generalize hAe : va_A [(a, (.inl (cA 20, n, .inl f) : va_E))] s.heap.size = A at *
  have hx := F.1
  have hb := F.2.1
  have loop : ∀ (k i : Nat) (g : Nat → Int32), i + k = n → (∀ j, j < i → g j = v) → nW p l e (mRm (0, 0, 0, 0)) s m [Value.ref a, .int v].toArray below meth c (MQ below (va_Qv (fun _ : Nat → Nat => True) (fun u t => va_P D vwCl [(a, .inl (cA 20, n, .inl (fun _ => v)))] t.heap ∧ va_D A [(a, .inl (cA 20, n, .inl (fun _ => v)))]) A) [Value.ref a, .int v].toArray s 0 0 A) 4 D A 5 [(0, .ref a), (1, .int v), (2, .int (nI i)), (3, .int (nI n))] [] [(a, .inl (cA 20, n, .inl g))] 0 0 := by
    intro k
    induction k with
    | zero =>
      intro i g hi hg H locs ls hP hD hS hl
      have e1 : i = n := by omega
      subst e1
      refine lv_iload_n hx hb (by decide +kernel : decode cJ7_fill_53178 5 = .ok (.iload_n 2, 1)) rfl (lv_at hl 2 rfl) ?_
      refine lv_iload_n hx hb (by decide +kernel : decode cJ7_fill_53178 6 = .ok (.iload_n 3, 1)) rfl (lv_at hl 3 rfl) ?_
      refine lv_icmp_ge (tgt := 20) hx hb (by decide +kernel : decode cJ7_fill_53178 7 = .ok (.if_icmp .ge 13, 3)) (by decide) (fun _ => ?_) (fun z => absurd (nI_le (Nat.le_refl _) hn) z)
      have hP2 := va_i_x (D := D) (g := fun _ => v) hg hP
      exact n_vret (wf := fun _ => [(a, .inl (cA 20, i, .inl (fun _ => v)))]) F hm.2.1 hm.2.2 (by decide +kernel) (fun _ => 0) rfl ⟨Nat.le_refl _, Nat.le_refl _⟩ rfl H locs ls hP2 (va_D_x hD) hS hl
    | succ k ih =>
      intro i g hi hg H locs ls hP hD hS hl
      have hin : i < n := by omega
      refine lv_iload_n hx hb (by decide +kernel : decode cJ7_fill_53178 5 = .ok (.iload_n 2, 1)) rfl (lv_at hl 2 rfl) ?_
      refine lv_iload_n hx hb (by decide +kernel : decode cJ7_fill_53178 6 = .ok (.iload_n 3, 1)) rfl (lv_at hl 3 rfl) ?_
      refine lv_icmp_ge (tgt := 20) hx hb (by decide +kernel : decode cJ7_fill_53178 7 = .ok (.if_icmp .ge 13, 3)) (by decide) (fun z => absurd z (nI_ge hin hn)) (fun _ => ?_)
      refine lv_aload_n hx hb (by decide +kernel : decode cJ7_fill_53178 10 = .ok (.aload_n 0, 1)) rfl (lv_at hl 0 rfl) ?_
      refine lv_iload_n hx hb (by decide +kernel : decode cJ7_fill_53178 11 = .ok (.iload_n 2, 1)) rfl (lv_at hl 2 rfl) ?_
      refine lv_iload_n hx hb (by decide +kernel : decode cJ7_fill_53178 12 = .ok (.iload_n 1, 1)) rfl (lv_at hl 1 rfl) ?_
      refine va_iast hx hb F.2.2.2.2.2.1 hP hD hS 0 0 rfl rfl (vp_in_nI hin hn) (by decide +kernel : decode cJ7_fill_53178 13 = .ok (.iastore, 1)) (fun H1 locs1 hP hD hS => ?_)
      refine lv_iinc (v := nI (i + 1)) (lv' := [(2, .int (nI (i + 1))), (0, .ref a), (1, .int v), (3, .int (nI n))]) hx hb (by decide +kernel : decode cJ7_fill_53178 14 = .ok (.iinc 2 1, 3)) hl (k := 2) rfl (nI_1 i) (by decide) rfl (fun ls hl => ?_)
      refine lv_goto (tgt := 5) hx hb (by decide +kernel : decode cJ7_fill_53178 17 = .ok (.goto (-12), 3)) (by decide) ?_
      rw [nI_clamp (by omega)] at hP hD
      exact ih (i + 1) (upd g i v) (by omega) (fun j hj => by
        unfold upd
        by_cases e1 : j = i
        · rw [if_pos e1]
        · rw [if_neg e1]; exact hg j (by omega)) H1 locs1 ls hP hD hS (lv_sub hl [1, 2, 0, 3] rfl)
  intro H locs ls hP hD hS hl
  have hl : lv_has ls 4 [(0, .ref a), (1, .int v)] := hl
  refine lv_iconst (v := 0) hx hb (by decide +kernel : decode cJ7_fill_53178 0 = .ok (.iconst 0, 1)) (by decide) ?_
  refine lv_istore_n (lv' := [(2, .int 0), (0, .ref a), (1, .int v)]) hx hb (by decide +kernel : decode cJ7_fill_53178 1 = .ok (.istore_n 2, 1)) rfl hl (by decide) rfl (fun ls hl => ?_)
  refine lv_aload_n hx hb (by decide +kernel : decode cJ7_fill_53178 2 = .ok (.aload_n 0, 1)) rfl (lv_at hl 1 rfl) ?_
  refine va_alen hx hb F.2.2.2.2.2.1 hP 0 0 rfl rfl (v := nI n) rfl (by decide +kernel : decode cJ7_fill_53178 3 = .ok (.arraylength, 1)) ?_
  refine lv_istore_n (lv' := [(3, .int (nI n)), (2, .int 0), (0, .ref a), (1, .int v)]) hx hb (by decide +kernel : decode cJ7_fill_53178 4 = .ok (.istore_n 3, 1)) rfl hl (by decide) rfl (fun ls hl => ?_)
  rw [← nI_0] at hl
  exact loop n 0 f (by omega) (fun j hj => absurd hj (Nat.not_lt_zero _)) H locs ls hP hD hS (lv_sub hl [2, 3, 1, 0] rfl)
end LN4
section LN5
variable {p : Program} {l : Launch} {e : Env} {R : Room} {s : State} {m : MethodId} {args : Array Value} {below : List Frame} {meth : Method} {c : Code} {Q : State → Prop} {nL : Nat} {D : va_G} {cA : Nat → ClassId} {cc : ByteArray} {own : String} {A : Nat → Prop} {pc cells slots : Nat} {lv : List (Nat × Value)} {st : List Value} {ws wr : va_W}
theorem n_ws {ws' : va_W} {cells' slots' : Nat} (h : ws = ws') (h1 : cells = cells') (h2 : slots = slots') (k : nW p l e R s m args below meth c Q nL D A pc lv st ws' cells' slots') : nW p l e R s m args below meth c Q nL D A pc lv st ws cells slots := by
  subst h; subst h1; subst h2; exact k
end LN5
section LCONS
section LCL
variable {p : Program} {l : Launch} {e : Env} {R : Room} {s : State} {m : MethodId} {args : Array Value} {below : List Frame} {meth : Method} {c : Code} {Q : State → Prop} {nL : Nat} {D : va_G} {cA : Nat → ClassId} {cc : ByteArray} {own : String} {A : Nat → Prop} {pc cells slots : Nat} {lv : List (Nat × Value)} {st : List Value} {ws wr : va_W}
theorem n_putM {ci k idx a : Nat} {r : vw_C} {fs fs' : List Value} {v : Value} {ty : FieldType} (F : nF p s m args c cc nL own D cA A) (hf : (r.2.1 k).2.2.2 = false) (hd : mDc cc pc (.putfield idx) 3 = true) (hc : vwCl[ci]? = some r) (hk : k < r.2.2) (w1 : Cond.fieldLink own idx (r.2.1 k).1 (r.2.1 k).2.1 (r.2.1 k).2.2.1 ∈ mBW) (hpd : parseFieldDescriptor (r.2.1 k).2.2.1 = some ty) (hn : narrow ty v = v) (hfit : fits ty v = true) (hl9 : k < fs.length) (hfs : fs.set k v = fs') (h : nW p l e R s m args below meth c Q nL D A (pc + 3) lv st ((a, .inr (ci, fs')) :: wr) cells slots) : nW p l e R s m args below meth c Q nL D A pc lv (v :: .ref a :: st) ((a, .inr (ci, fs)) :: wr) cells slots := by
  subst hfs
  intro H locs ls hP hD hS hl
  exact va_put F.1 F.2.1 F.2.2.2.2.1 (mU_in hc) (mTy r) (mU_ty hc) (mU_nm hc) F.2.2.2.1 F.2.2.2.2.2.1 hP hD hS 0 rfl hc k hk (F.2.2.2.2.1 _ w1) (fun _ z => z) hf hpd hn hfit hl9 (mDc_of hd) (fun H1 locs1 hP hD hS => h H1 locs1 ls hP hD hS hl)
end LCL

set_option maxRecDepth 100000 in
set_option maxHeartbeats 4000000 in
theorem n_X3_clear {l : Launch} {D : va_G} {cA : Nat → ClassId} {h a0 a1 a2 a3 a4 a5 : Nat} {i0 i1 i2 i3 i4 i5 : Int32} : nMet l yX3_clear cX3_clear 1 (1, 23, 0, 0) D cA [.ref h] [(h, .inr (3, [.int i0, .int i1, .int i2, .int i3, .int i4, .int i5, .ref a0, .ref a1, .ref a2, .ref a3, .ref a4, .ref a5])), (a0, .inl (cA 20, 289, .inl (fun _ => 0))), (a1, .inl (cA 20, 6, .inl (fun _ => 0))), (a2, .inl (cA 20, 48, .inl (fun _ => 0))), (a3, .inl (cA 20, 48, .inl (fun _ => 0))), (a4, .inl (cA 20, 48, .inl (fun _ => 0))), (a5, .inl (cA 20, 48, .inl (fun _ => 0)))] (fun _ => [(h, .inr (3, [.int 0, .int 8, .int 9, .int 20, .int 9, .int 1, .ref a0, .ref a1, .ref a2, .ref a3, .ref a4, .ref a5])), (a0, .inl (cA 20, 289, .inl (fun _ => 0))), (a1, .inl (cA 20, 6, .inl (fun _ => 0))), (a2, .inl (cA 20, 48, .inl (fun _ => 0))), (a3, .inl (cA 20, 48, .inl (fun _ => 0))), (a4, .inl (cA 20, 48, .inl (fun _ => 0))), (a5, .inl (cA 20, 48, .inl (fun _ => 0)))]) := by
  refine n_ofW (by decide) (Nat.le_of_ble_eq_true rfl) ?_
  intro p e s m below meth c F hm hA1 hA2
  have hAO := And.intro hA1 hA2
  generalize va_A _ s.heap.size = A at *
  refine n_aln (k := 0) F (by decide +kernel) rfl (j := 0) rfl ?_
  refine n_ic (x := 0) (v := 0) F (by decide +kernel) (by decide) ?_
  refine n_putM (idx := 33) (ci := 3) (k := 0) (fs' := [.int 0, .int i1, .int i2, .int i3, .int i4, .int i5, .ref a0, .ref a1, .ref a2, .ref a3, .ref a4, .ref a5]) (ty := .int) F rfl (by decide +kernel) rfl (by decide) (mBW_of 159 (by decide +kernel)) (by decide +kernel) rfl rfl (Nat.le_of_ble_eq_true rfl) rfl ?_
  refine n_aln (k := 0) F (by decide +kernel) rfl (j := 0) rfl ?_
  refine n_bi (x := 8) (v := 8) F (by decide +kernel) (by decide) ?_
  refine n_putM (idx := 37) (ci := 3) (k := 1) (fs' := [.int 0, .int 8, .int i2, .int i3, .int i4, .int i5, .ref a0, .ref a1, .ref a2, .ref a3, .ref a4, .ref a5]) (ty := .int) F rfl (by decide +kernel) rfl (by decide) (mBW_of 162 (by decide +kernel)) (by decide +kernel) rfl rfl (Nat.le_of_ble_eq_true rfl) rfl ?_
  refine n_aln (k := 0) F (by decide +kernel) rfl (j := 0) rfl ?_
  refine n_bi (x := 9) (v := 9) F (by decide +kernel) (by decide) ?_
  refine n_putM (idx := 40) (ci := 3) (k := 2) (fs' := [.int 0, .int 8, .int 9, .int i3, .int i4, .int i5, .ref a0, .ref a1, .ref a2, .ref a3, .ref a4, .ref a5]) (ty := .int) F rfl (by decide +kernel) rfl (by decide) (mBW_of 165 (by decide +kernel)) (by decide +kernel) rfl rfl (Nat.le_of_ble_eq_true rfl) rfl ?_
  refine n_aln (k := 0) F (by decide +kernel) rfl (j := 0) rfl ?_
  refine n_bi (x := 20) (v := 20) F (by decide +kernel) (by decide) ?_
  refine n_putM (idx := 43) (ci := 3) (k := 3) (fs' := [.int 0, .int 8, .int 9, .int 20, .int i4, .int i5, .ref a0, .ref a1, .ref a2, .ref a3, .ref a4, .ref a5]) (ty := .int) F rfl (by decide +kernel) rfl (by decide) (mBW_of 169 (by decide +kernel)) (by decide +kernel) rfl rfl (Nat.le_of_ble_eq_true rfl) rfl ?_
  refine n_aln (k := 0) F (by decide +kernel) rfl (j := 0) rfl ?_
  refine n_bi (x := 9) (v := 9) F (by decide +kernel) (by decide) ?_
  refine n_putM (idx := 46) (ci := 3) (k := 4) (fs' := [.int 0, .int 8, .int 9, .int 20, .int 9, .int i5, .ref a0, .ref a1, .ref a2, .ref a3, .ref a4, .ref a5]) (ty := .int) F rfl (by decide +kernel) rfl (by decide) (mBW_of 173 (by decide +kernel)) (by decide +kernel) rfl rfl (Nat.le_of_ble_eq_true rfl) rfl ?_
  refine n_aln (k := 0) F (by decide +kernel) rfl (j := 0) rfl ?_
  refine n_ic (x := 1) (v := 1) F (by decide +kernel) (by decide) ?_
  refine n_putM (idx := 49) (ci := 3) (k := 5) (fs' := [.int 0, .int 8, .int 9, .int 20, .int 9, .int 1, .ref a0, .ref a1, .ref a2, .ref a3, .ref a4, .ref a5]) (ty := .int) F rfl (by decide +kernel) rfl (by decide) (mBW_of 178 (by decide +kernel)) (by decide +kernel) rfl rfl (Nat.le_of_ble_eq_true rfl) rfl ?_
  refine n_aln (k := 0) F (by decide +kernel) rfl (j := 0) rfl ?_
  refine n_get (idx := 9) (ci := 3) (k := 6) (j := 0) (fs := [.int 0, .int 8, .int 9, .int 20, .int 9, .int 1, .ref a0, .ref a1, .ref a2, .ref a3, .ref a4, .ref a5]) (v := .ref a0) F (by decide +kernel) rfl rfl (by decide) (mBW_of 182 (by decide +kernel)) rfl ?_
  refine n_ic (x := 0) (v := 0) F (by decide +kernel) (by decide) ?_
  refine n_one (idx := 52) (n := 2) (av := [.ref a0, .int 0]) (j := 1) F hAO (n_fill (Nat.lt_of_le_of_lt (Nat.le_of_ble_eq_true rfl : 289 ≤ 1000) (by decide))) rfl (by decide +kernel) ⟨(mBW_of 158 (by decide +kernel)), (mBW_of 108 (by decide +kernel)), by decide +kernel, ⟨by decide, by decide⟩⟩ (mBW_of 156 (by decide +kernel)) (mBW_of 157 (by decide +kernel)) rfl (Nat.le_of_ble_eq_true rfl) ⟨by decide, by decide⟩ ?_
  refine n_ws (ws' := (h, .inr (3, [.int 0, .int 8, .int 9, .int 20, .int 9, .int 1, .ref a0, .ref a1, .ref a2, .ref a3, .ref a4, .ref a5])) :: ([(a0, .inl (cA 20, 289, .inl (fun _ => 0))), (a1, .inl (cA 20, 6, .inl (fun _ => 0))), (a2, .inl (cA 20, 48, .inl (fun _ => 0))), (a3, .inl (cA 20, 48, .inl (fun _ => 0))), (a4, .inl (cA 20, 48, .inl (fun _ => 0))), (a5, .inl (cA 20, 48, .inl (fun _ => 0)))])) (cells' := 0) (slots' := 0) rfl rfl rfl ?_
  refine n_aln (k := 0) F (by decide +kernel) rfl (j := 0) rfl ?_
  refine n_get (idx := 15) (ci := 3) (k := 7) (j := 0) (fs := [.int 0, .int 8, .int 9, .int 20, .int 9, .int 1, .ref a0, .ref a1, .ref a2, .ref a3, .ref a4, .ref a5]) (v := .ref a1) F (by decide +kernel) rfl rfl (by decide) (mBW_of 186 (by decide +kernel)) rfl ?_
  refine n_ic (x := 0) (v := 0) F (by decide +kernel) (by decide) ?_
  refine n_one (idx := 52) (n := 2) (av := [.ref a1, .int 0]) (j := 2) F hAO (n_fill (Nat.lt_of_le_of_lt (Nat.le_of_ble_eq_true rfl : 6 ≤ 1000) (by decide))) rfl (by decide +kernel) ⟨(mBW_of 158 (by decide +kernel)), (mBW_of 108 (by decide +kernel)), by decide +kernel, ⟨by decide, by decide⟩⟩ (mBW_of 156 (by decide +kernel)) (mBW_of 157 (by decide +kernel)) rfl (Nat.le_of_ble_eq_true rfl) ⟨by decide, by decide⟩ ?_
  refine n_ws (ws' := (h, .inr (3, [.int 0, .int 8, .int 9, .int 20, .int 9, .int 1, .ref a0, .ref a1, .ref a2, .ref a3, .ref a4, .ref a5])) :: ([(a0, .inl (cA 20, 289, .inl (fun _ => 0))), (a1, .inl (cA 20, 6, .inl (fun _ => 0))), (a2, .inl (cA 20, 48, .inl (fun _ => 0))), (a3, .inl (cA 20, 48, .inl (fun _ => 0))), (a4, .inl (cA 20, 48, .inl (fun _ => 0))), (a5, .inl (cA 20, 48, .inl (fun _ => 0)))])) (cells' := 0) (slots' := 0) rfl rfl rfl ?_
  exact n_vret F hm.2.1 hm.2.2 (by decide +kernel) (fun _ => 0) rfl ⟨by decide, by decide⟩ rfl
def grW (cA : Nat → ClassId) (h : Nat) (u : Nat → Nat) : va_W := [(h, .inr (3, [.int 0, .int 8, .int 9, .int 20, .int 9, .int 1, .ref (u 0), .ref (u 1), .ref (u 2), .ref (u 3), .ref (u 4), .ref (u 5)])), ((u 0), .inl (cA 20, 289, .inl (fun _ => 0))), ((u 1), .inl (cA 20, 6, .inl (fun _ => 0))), ((u 2), .inl (cA 20, 48, .inl (fun _ => 0))), ((u 3), .inl (cA 20, 48, .inl (fun _ => 0))), ((u 4), .inl (cA 20, 48, .inl (fun _ => 0))), ((u 5), .inl (cA 20, 48, .inl (fun _ => 0)))]
set_option maxRecDepth 100000 in
set_option maxHeartbeats 4000000 in
theorem n_X3 {l : Launch} {D : va_G} {cA : Nat → ClassId} {h : Nat} : nMet l yX3_init cX3_init 1 (2, 43, 6, 487) D cA [.ref h] [(h, .inr (3, [.int 0, .int 0, .int 0, .int 0, .int 0, .int 0, .null, .null, .null, .null, .null, .null]))] (grW cA h) := by
  refine n_ofW (by decide) (Nat.le_of_ble_eq_true rfl) ?_
  intro p e s m below meth c F hm hA1 hA2
  have hAO := And.intro hA1 hA2
  generalize va_A _ s.heap.size = A at *
  refine n_ws (ws' := (h, .inr (3, [.int 0, .int 0, .int 0, .int 0, .int 0, .int 0, .null, .null, .null, .null, .null, .null])) :: ([])) (cells' := 0) (slots' := 0) rfl rfl rfl ?_
  refine n_aln (k := 0) F (by decide +kernel) rfl (j := 0) rfl ?_
  refine n_obj (idx := 3) F (by decide +kernel) (mBW_of 151 (by decide +kernel)) ⟨by decide, by decide⟩ (by decide) ?_
  refine n_aln (k := 0) F (by decide +kernel) rfl (j := 0) rfl ?_
  refine n_si (x := 289) (v := 289) F (by decide +kernel) (by decide) ?_
  refine n_newa (atype := .int) (ty := .int) (k0 := 0) (N' := 289) (a0 := (289, .inl (fun _ => 0))) F (by decide +kernel) (mBW_of 226 (by decide +kernel)) rfl rfl (fun _ => rfl) (by decide) (by decide) (Nat.le_of_ble_eq_true rfl) ⟨by decide, by decide⟩ (fun q1 => ?_)
  refine n_put (idx := 9) (ci := 3) (k := 6) (fs' := [.int 0, .int 0, .int 0, .int 0, .int 0, .int 0, .ref q1, .null, .null, .null, .null, .null]) (ty := (.array .int)) F hm.1 (by decide +kernel) rfl (by decide) (mBW_of 182 (by decide +kernel)) rfl (by decide +kernel) rfl rfl (Nat.le_of_ble_eq_true rfl) rfl ?_
  refine n_aln (k := 0) F (by decide +kernel) rfl (j := 0) rfl ?_
  refine n_bi (x := 6) (v := 6) F (by decide +kernel) (by decide) ?_
  refine n_newa (atype := .int) (ty := .int) (k0 := 0) (N' := 6) (a0 := (6, .inl (fun _ => 0))) F (by decide +kernel) (mBW_of 226 (by decide +kernel)) rfl rfl (fun _ => rfl) (by decide) (by decide) (Nat.le_of_ble_eq_true rfl) ⟨by decide, by decide⟩ (fun q2 => ?_)
  refine n_put (idx := 15) (ci := 3) (k := 7) (fs' := [.int 0, .int 0, .int 0, .int 0, .int 0, .int 0, .ref q1, .ref q2, .null, .null, .null, .null]) (ty := (.array .int)) F hm.1 (by decide +kernel) rfl (by decide) (mBW_of 186 (by decide +kernel)) rfl (by decide +kernel) rfl rfl (Nat.le_of_ble_eq_true rfl) rfl ?_
  refine n_aln (k := 0) F (by decide +kernel) rfl (j := 0) rfl ?_
  refine n_bi (x := 48) (v := 48) F (by decide +kernel) (by decide) ?_
  refine n_newa (atype := .int) (ty := .int) (k0 := 0) (N' := 48) (a0 := (48, .inl (fun _ => 0))) F (by decide +kernel) (mBW_of 226 (by decide +kernel)) rfl rfl (fun _ => rfl) (by decide) (by decide) (Nat.le_of_ble_eq_true rfl) ⟨by decide, by decide⟩ (fun q3 => ?_)
  refine n_put (idx := 18) (ci := 3) (k := 8) (fs' := [.int 0, .int 0, .int 0, .int 0, .int 0, .int 0, .ref q1, .ref q2, .ref q3, .null, .null, .null]) (ty := (.array .int)) F hm.1 (by decide +kernel) rfl (by decide) (mBW_of 188 (by decide +kernel)) rfl (by decide +kernel) rfl rfl (Nat.le_of_ble_eq_true rfl) rfl ?_
  refine n_aln (k := 0) F (by decide +kernel) rfl (j := 0) rfl ?_
  refine n_bi (x := 48) (v := 48) F (by decide +kernel) (by decide) ?_
  refine n_newa (atype := .int) (ty := .int) (k0 := 0) (N' := 48) (a0 := (48, .inl (fun _ => 0))) F (by decide +kernel) (mBW_of 226 (by decide +kernel)) rfl rfl (fun _ => rfl) (by decide) (by decide) (Nat.le_of_ble_eq_true rfl) ⟨by decide, by decide⟩ (fun q4 => ?_)
  refine n_put (idx := 21) (ci := 3) (k := 9) (fs' := [.int 0, .int 0, .int 0, .int 0, .int 0, .int 0, .ref q1, .ref q2, .ref q3, .ref q4, .null, .null]) (ty := (.array .int)) F hm.1 (by decide +kernel) rfl (by decide) (mBW_of 191 (by decide +kernel)) rfl (by decide +kernel) rfl rfl (Nat.le_of_ble_eq_true rfl) rfl ?_
  refine n_aln (k := 0) F (by decide +kernel) rfl (j := 0) rfl ?_
  refine n_bi (x := 48) (v := 48) F (by decide +kernel) (by decide) ?_
  refine n_newa (atype := .int) (ty := .int) (k0 := 0) (N' := 48) (a0 := (48, .inl (fun _ => 0))) F (by decide +kernel) (mBW_of 226 (by decide +kernel)) rfl rfl (fun _ => rfl) (by decide) (by decide) (Nat.le_of_ble_eq_true rfl) ⟨by decide, by decide⟩ (fun q5 => ?_)
  refine n_put (idx := 24) (ci := 3) (k := 10) (fs' := [.int 0, .int 0, .int 0, .int 0, .int 0, .int 0, .ref q1, .ref q2, .ref q3, .ref q4, .ref q5, .null]) (ty := (.array .int)) F hm.1 (by decide +kernel) rfl (by decide) (mBW_of 194 (by decide +kernel)) rfl (by decide +kernel) rfl rfl (Nat.le_of_ble_eq_true rfl) rfl ?_
  refine n_aln (k := 0) F (by decide +kernel) rfl (j := 0) rfl ?_
  refine n_bi (x := 48) (v := 48) F (by decide +kernel) (by decide) ?_
  refine n_newa (atype := .int) (ty := .int) (k0 := 0) (N' := 48) (a0 := (48, .inl (fun _ => 0))) F (by decide +kernel) (mBW_of 226 (by decide +kernel)) rfl rfl (fun _ => rfl) (by decide) (by decide) (Nat.le_of_ble_eq_true rfl) ⟨by decide, by decide⟩ (fun q6 => ?_)
  refine n_put (idx := 27) (ci := 3) (k := 11) (fs' := [.int 0, .int 0, .int 0, .int 0, .int 0, .int 0, .ref q1, .ref q2, .ref q3, .ref q4, .ref q5, .ref q6]) (ty := (.array .int)) F hm.1 (by decide +kernel) rfl (by decide) (mBW_of 197 (by decide +kernel)) rfl (by decide +kernel) rfl rfl (Nat.le_of_ble_eq_true rfl) rfl ?_
  refine n_aln (k := 0) F (by decide +kernel) rfl (j := 0) rfl ?_
  refine n_all (idx := 30) (wf := fun _ => (h, .inr (3, [.int 0, .int 8, .int 9, .int 20, .int 9, .int 1, .ref q1, .ref q2, .ref q3, .ref q4, .ref q5, .ref q6])) :: ([(q1, .inl (cA 20, 289, .inl (fun _ => 0))), (q2, .inl (cA 20, 6, .inl (fun _ => 0))), (q3, .inl (cA 20, 48, .inl (fun _ => 0))), (q4, .inl (cA 20, 48, .inl (fun _ => 0))), (q5, .inl (cA 20, 48, .inl (fun _ => 0))), (q6, .inl (cA 20, 48, .inl (fun _ => 0)))])) (o := (3, [.int 0, .int 0, .int 0, .int 0, .int 0, .int 0, .ref q1, .ref q2, .ref q3, .ref q4, .ref q5, .ref q6])) F hAO (n_X3_clear) (by decide +kernel) ⟨(mBW_of 155 (by decide +kernel)), (mBW_of 107 (by decide +kernel)), by decide +kernel, ⟨by decide, by decide⟩⟩ (mBW_of 152 (by decide +kernel)) (mBW_of 153 (by decide +kernel)) (mBW_of 154 (by decide +kernel)) rfl rfl (Nat.le_of_ble_eq_true rfl) ⟨by decide, by decide⟩ (fun _ => ?_)
  exact n_vret F hm.2.1 hm.2.2 (by decide +kernel) (fun k => match k with | 0 => q1 | 1 => q2 | 2 => q3 | 3 => q4 | 4 => q5 | _ => q6) rfl ⟨by decide, by decide⟩ rfl
def sqW (cA : Nat → ClassId) (h : Nat) (u : Nat → Nat) : va_W := [(h, .inr (6, [.ref (u 0), .ref (u 1), .ref (u 2), .ref (u 3), .ref (u 4), .ref (u 5), .int 0])), ((u 0), .inl (cA 20, 9, .inl (fun _ => (-1)))), ((u 1), .inl (cA 20, 9, .inl (fun _ => 3))), ((u 2), .inl (cA 20, 9, .inl (fun _ => 80))), ((u 3), .inl (cA 20, 9, .inl (fun _ => 10))), ((u 4), .inl (cA 20, 9, .inl (fun _ => 1))), ((u 5), .inl (cA 20, 36, .inl (fun _ => 0)))]
set_option maxRecDepth 100000 in
set_option maxHeartbeats 4000000 in
theorem n_X6 {l : Launch} {D : va_G} {cA : Nat → ClassId} {h : Nat} : nMet l yX6_init cX6_init 1 (1, 23, 6, 81) D cA [.ref h] [(h, .inr (6, [.null, .null, .null, .null, .null, .null, .int 0]))] (sqW cA h) := by
  refine n_ofW (by decide) (Nat.le_of_ble_eq_true rfl) ?_
  intro p e s m below meth c F hm hA1 hA2
  have hAO := And.intro hA1 hA2
  generalize va_A _ s.heap.size = A at *
  refine n_ws (ws' := (h, .inr (6, [.null, .null, .null, .null, .null, .null, .int 0])) :: ([])) (cells' := 0) (slots' := 0) rfl rfl rfl ?_
  refine n_aln (k := 0) F (by decide +kernel) rfl (j := 0) rfl ?_
  refine n_obj (idx := 3) F (by decide +kernel) (mBW_of 232 (by decide +kernel)) ⟨by decide, by decide⟩ (by decide) ?_
  refine n_aln (k := 0) F (by decide +kernel) rfl (j := 0) rfl ?_
  refine n_bi (x := 9) (v := 9) F (by decide +kernel) (by decide) ?_
  refine n_newa (atype := .int) (ty := .int) (k0 := 0) (N' := 9) (a0 := (9, .inl (fun _ => 0))) F (by decide +kernel) (mBW_of 226 (by decide +kernel)) rfl rfl (fun _ => rfl) (by decide) (by decide) (Nat.le_of_ble_eq_true rfl) ⟨by decide, by decide⟩ (fun q1 => ?_)
  refine n_put (idx := 9) (ci := 6) (k := 0) (fs' := [.ref q1, .null, .null, .null, .null, .null, .int 0]) (ty := (.array .int)) F hm.1 (by decide +kernel) rfl (by decide) (mBW_of 234 (by decide +kernel)) rfl (by decide +kernel) rfl rfl (Nat.le_of_ble_eq_true rfl) rfl ?_
  refine n_aln (k := 0) F (by decide +kernel) rfl (j := 0) rfl ?_
  refine n_bi (x := 9) (v := 9) F (by decide +kernel) (by decide) ?_
  refine n_newa (atype := .int) (ty := .int) (k0 := 0) (N' := 9) (a0 := (9, .inl (fun _ => 0))) F (by decide +kernel) (mBW_of 226 (by decide +kernel)) rfl rfl (fun _ => rfl) (by decide) (by decide) (Nat.le_of_ble_eq_true rfl) ⟨by decide, by decide⟩ (fun q2 => ?_)
  refine n_put (idx := 15) (ci := 6) (k := 1) (fs' := [.ref q1, .ref q2, .null, .null, .null, .null, .int 0]) (ty := (.array .int)) F hm.1 (by decide +kernel) rfl (by decide) (mBW_of 237 (by decide +kernel)) rfl (by decide +kernel) rfl rfl (Nat.le_of_ble_eq_true rfl) rfl ?_
  refine n_aln (k := 0) F (by decide +kernel) rfl (j := 0) rfl ?_
  refine n_bi (x := 9) (v := 9) F (by decide +kernel) (by decide) ?_
  refine n_newa (atype := .int) (ty := .int) (k0 := 0) (N' := 9) (a0 := (9, .inl (fun _ => 0))) F (by decide +kernel) (mBW_of 226 (by decide +kernel)) rfl rfl (fun _ => rfl) (by decide) (by decide) (Nat.le_of_ble_eq_true rfl) ⟨by decide, by decide⟩ (fun q3 => ?_)
  refine n_put (idx := 18) (ci := 6) (k := 2) (fs' := [.ref q1, .ref q2, .ref q3, .null, .null, .null, .int 0]) (ty := (.array .int)) F hm.1 (by decide +kernel) rfl (by decide) (mBW_of 241 (by decide +kernel)) rfl (by decide +kernel) rfl rfl (Nat.le_of_ble_eq_true rfl) rfl ?_
  refine n_aln (k := 0) F (by decide +kernel) rfl (j := 0) rfl ?_
  refine n_bi (x := 9) (v := 9) F (by decide +kernel) (by decide) ?_
  refine n_newa (atype := .int) (ty := .int) (k0 := 0) (N' := 9) (a0 := (9, .inl (fun _ => 0))) F (by decide +kernel) (mBW_of 226 (by decide +kernel)) rfl rfl (fun _ => rfl) (by decide) (by decide) (Nat.le_of_ble_eq_true rfl) ⟨by decide, by decide⟩ (fun q4 => ?_)
  refine n_put (idx := 21) (ci := 6) (k := 3) (fs' := [.ref q1, .ref q2, .ref q3, .ref q4, .null, .null, .int 0]) (ty := (.array .int)) F hm.1 (by decide +kernel) rfl (by decide) (mBW_of 244 (by decide +kernel)) rfl (by decide +kernel) rfl rfl (Nat.le_of_ble_eq_true rfl) rfl ?_
  refine n_aln (k := 0) F (by decide +kernel) rfl (j := 0) rfl ?_
  refine n_bi (x := 9) (v := 9) F (by decide +kernel) (by decide) ?_
  refine n_newa (atype := .int) (ty := .int) (k0 := 0) (N' := 9) (a0 := (9, .inl (fun _ => 0))) F (by decide +kernel) (mBW_of 226 (by decide +kernel)) rfl rfl (fun _ => rfl) (by decide) (by decide) (Nat.le_of_ble_eq_true rfl) ⟨by decide, by decide⟩ (fun q5 => ?_)
  refine n_put (idx := 24) (ci := 6) (k := 4) (fs' := [.ref q1, .ref q2, .ref q3, .ref q4, .ref q5, .null, .int 0]) (ty := (.array .int)) F hm.1 (by decide +kernel) rfl (by decide) (mBW_of 247 (by decide +kernel)) rfl (by decide +kernel) rfl rfl (Nat.le_of_ble_eq_true rfl) rfl ?_
  refine n_aln (k := 0) F (by decide +kernel) rfl (j := 0) rfl ?_
  refine n_bi (x := 36) (v := 36) F (by decide +kernel) (by decide) ?_
  refine n_newa (atype := .int) (ty := .int) (k0 := 0) (N' := 36) (a0 := (36, .inl (fun _ => 0))) F (by decide +kernel) (mBW_of 226 (by decide +kernel)) rfl rfl (fun _ => rfl) (by decide) (by decide) (Nat.le_of_ble_eq_true rfl) ⟨by decide, by decide⟩ (fun q6 => ?_)
  refine n_put (idx := 27) (ci := 6) (k := 5) (fs' := [.ref q1, .ref q2, .ref q3, .ref q4, .ref q5, .ref q6, .int 0]) (ty := (.array .int)) F hm.1 (by decide +kernel) rfl (by decide) (mBW_of 250 (by decide +kernel)) rfl (by decide +kernel) rfl rfl (Nat.le_of_ble_eq_true rfl) rfl ?_
  refine n_aln (k := 0) F (by decide +kernel) rfl (j := 0) rfl ?_
  refine n_get (idx := 9) (ci := 6) (k := 0) (j := 0) (fs := [.ref q1, .ref q2, .ref q3, .ref q4, .ref q5, .ref q6, .int 0]) (v := .ref q1) F (by decide +kernel) rfl rfl (by decide) (mBW_of 234 (by decide +kernel)) rfl ?_
  refine n_ic (x := -1) (v := (-1)) F (by decide +kernel) (by decide) ?_
  refine n_one (idx := 30) (n := 2) (av := [.ref q1, .int (-1)]) (j := 1) F hAO (n_fill (Nat.lt_of_le_of_lt (Nat.le_of_ble_eq_true rfl : 9 ≤ 1000) (by decide))) rfl (by decide +kernel) ⟨(mBW_of 158 (by decide +kernel)), (mBW_of 108 (by decide +kernel)), by decide +kernel, ⟨by decide, by decide⟩⟩ (mBW_of 233 (by decide +kernel)) (mBW_of 157 (by decide +kernel)) rfl (Nat.le_of_ble_eq_true rfl) ⟨by decide, by decide⟩ ?_
  refine n_ws (ws' := (h, .inr (6, [.ref q1, .ref q2, .ref q3, .ref q4, .ref q5, .ref q6, .int 0])) :: ([(q1, .inl (cA 20, 9, .inl (fun _ => (-1)))), (q2, .inl (cA 20, 9, .inl (fun _ => 0))), (q3, .inl (cA 20, 9, .inl (fun _ => 0))), (q4, .inl (cA 20, 9, .inl (fun _ => 0))), (q5, .inl (cA 20, 9, .inl (fun _ => 0))), (q6, .inl (cA 20, 36, .inl (fun _ => 0)))])) (cells' := 6) (slots' := 81) rfl rfl rfl ?_
  refine n_aln (k := 0) F (by decide +kernel) rfl (j := 0) rfl ?_
  refine n_get (idx := 15) (ci := 6) (k := 1) (j := 0) (fs := [.ref q1, .ref q2, .ref q3, .ref q4, .ref q5, .ref q6, .int 0]) (v := .ref q2) F (by decide +kernel) rfl rfl (by decide) (mBW_of 237 (by decide +kernel)) rfl ?_
  refine n_ic (x := 3) (v := 3) F (by decide +kernel) (by decide) ?_
  refine n_one (idx := 30) (n := 2) (av := [.ref q2, .int 3]) (j := 2) F hAO (n_fill (Nat.lt_of_le_of_lt (Nat.le_of_ble_eq_true rfl : 9 ≤ 1000) (by decide))) rfl (by decide +kernel) ⟨(mBW_of 158 (by decide +kernel)), (mBW_of 108 (by decide +kernel)), by decide +kernel, ⟨by decide, by decide⟩⟩ (mBW_of 233 (by decide +kernel)) (mBW_of 157 (by decide +kernel)) rfl (Nat.le_of_ble_eq_true rfl) ⟨by decide, by decide⟩ ?_
  refine n_ws (ws' := (h, .inr (6, [.ref q1, .ref q2, .ref q3, .ref q4, .ref q5, .ref q6, .int 0])) :: ([(q1, .inl (cA 20, 9, .inl (fun _ => (-1)))), (q2, .inl (cA 20, 9, .inl (fun _ => 3))), (q3, .inl (cA 20, 9, .inl (fun _ => 0))), (q4, .inl (cA 20, 9, .inl (fun _ => 0))), (q5, .inl (cA 20, 9, .inl (fun _ => 0))), (q6, .inl (cA 20, 36, .inl (fun _ => 0)))])) (cells' := 6) (slots' := 81) rfl rfl rfl ?_
  refine n_aln (k := 0) F (by decide +kernel) rfl (j := 0) rfl ?_
  refine n_get (idx := 18) (ci := 6) (k := 2) (j := 0) (fs := [.ref q1, .ref q2, .ref q3, .ref q4, .ref q5, .ref q6, .int 0]) (v := .ref q3) F (by decide +kernel) rfl rfl (by decide) (mBW_of 241 (by decide +kernel)) rfl ?_
  refine n_bi (x := 80) (v := 80) F (by decide +kernel) (by decide) ?_
  refine n_one (idx := 30) (n := 2) (av := [.ref q3, .int 80]) (j := 3) F hAO (n_fill (Nat.lt_of_le_of_lt (Nat.le_of_ble_eq_true rfl : 9 ≤ 1000) (by decide))) rfl (by decide +kernel) ⟨(mBW_of 158 (by decide +kernel)), (mBW_of 108 (by decide +kernel)), by decide +kernel, ⟨by decide, by decide⟩⟩ (mBW_of 233 (by decide +kernel)) (mBW_of 157 (by decide +kernel)) rfl (Nat.le_of_ble_eq_true rfl) ⟨by decide, by decide⟩ ?_
  refine n_ws (ws' := (h, .inr (6, [.ref q1, .ref q2, .ref q3, .ref q4, .ref q5, .ref q6, .int 0])) :: ([(q1, .inl (cA 20, 9, .inl (fun _ => (-1)))), (q2, .inl (cA 20, 9, .inl (fun _ => 3))), (q3, .inl (cA 20, 9, .inl (fun _ => 80))), (q4, .inl (cA 20, 9, .inl (fun _ => 0))), (q5, .inl (cA 20, 9, .inl (fun _ => 0))), (q6, .inl (cA 20, 36, .inl (fun _ => 0)))])) (cells' := 6) (slots' := 81) rfl rfl rfl ?_
  refine n_aln (k := 0) F (by decide +kernel) rfl (j := 0) rfl ?_
  refine n_get (idx := 21) (ci := 6) (k := 3) (j := 0) (fs := [.ref q1, .ref q2, .ref q3, .ref q4, .ref q5, .ref q6, .int 0]) (v := .ref q4) F (by decide +kernel) rfl rfl (by decide) (mBW_of 244 (by decide +kernel)) rfl ?_
  refine n_bi (x := 10) (v := 10) F (by decide +kernel) (by decide) ?_
  refine n_one (idx := 30) (n := 2) (av := [.ref q4, .int 10]) (j := 4) F hAO (n_fill (Nat.lt_of_le_of_lt (Nat.le_of_ble_eq_true rfl : 9 ≤ 1000) (by decide))) rfl (by decide +kernel) ⟨(mBW_of 158 (by decide +kernel)), (mBW_of 108 (by decide +kernel)), by decide +kernel, ⟨by decide, by decide⟩⟩ (mBW_of 233 (by decide +kernel)) (mBW_of 157 (by decide +kernel)) rfl (Nat.le_of_ble_eq_true rfl) ⟨by decide, by decide⟩ ?_
  refine n_ws (ws' := (h, .inr (6, [.ref q1, .ref q2, .ref q3, .ref q4, .ref q5, .ref q6, .int 0])) :: ([(q1, .inl (cA 20, 9, .inl (fun _ => (-1)))), (q2, .inl (cA 20, 9, .inl (fun _ => 3))), (q3, .inl (cA 20, 9, .inl (fun _ => 80))), (q4, .inl (cA 20, 9, .inl (fun _ => 10))), (q5, .inl (cA 20, 9, .inl (fun _ => 0))), (q6, .inl (cA 20, 36, .inl (fun _ => 0)))])) (cells' := 6) (slots' := 81) rfl rfl rfl ?_
  refine n_aln (k := 0) F (by decide +kernel) rfl (j := 0) rfl ?_
  refine n_get (idx := 24) (ci := 6) (k := 4) (j := 0) (fs := [.ref q1, .ref q2, .ref q3, .ref q4, .ref q5, .ref q6, .int 0]) (v := .ref q5) F (by decide +kernel) rfl rfl (by decide) (mBW_of 247 (by decide +kernel)) rfl ?_
  refine n_ic (x := 1) (v := 1) F (by decide +kernel) (by decide) ?_
  refine n_one (idx := 30) (n := 2) (av := [.ref q5, .int 1]) (j := 5) F hAO (n_fill (Nat.lt_of_le_of_lt (Nat.le_of_ble_eq_true rfl : 9 ≤ 1000) (by decide))) rfl (by decide +kernel) ⟨(mBW_of 158 (by decide +kernel)), (mBW_of 108 (by decide +kernel)), by decide +kernel, ⟨by decide, by decide⟩⟩ (mBW_of 233 (by decide +kernel)) (mBW_of 157 (by decide +kernel)) rfl (Nat.le_of_ble_eq_true rfl) ⟨by decide, by decide⟩ ?_
  refine n_ws (ws' := (h, .inr (6, [.ref q1, .ref q2, .ref q3, .ref q4, .ref q5, .ref q6, .int 0])) :: ([(q1, .inl (cA 20, 9, .inl (fun _ => (-1)))), (q2, .inl (cA 20, 9, .inl (fun _ => 3))), (q3, .inl (cA 20, 9, .inl (fun _ => 80))), (q4, .inl (cA 20, 9, .inl (fun _ => 10))), (q5, .inl (cA 20, 9, .inl (fun _ => 1))), (q6, .inl (cA 20, 36, .inl (fun _ => 0)))])) (cells' := 6) (slots' := 81) rfl rfl rfl ?_
  exact n_vret F hm.2.1 hm.2.2 (by decide +kernel) (fun k => match k with | 0 => q1 | 1 => q2 | 2 => q3 | 3 => q4 | 4 => q5 | _ => q6) rfl ⟨by decide, by decide⟩ rfl
def dyW (cA : Nat → ClassId) (h : Nat) (u : Nat → Nat) : va_W := [(h, .inr (1, [.int 0, .int 0, .int 0, .ref (u 0), .ref (u 1)])), ((u 0), .inl (cA 20, 48, .inl (fun _ => 0))), ((u 1), .inl (cA 20, 4, .inl (fun _ => 0)))]
set_option maxRecDepth 100000 in
set_option maxHeartbeats 4000000 in
theorem n_X1 {l : Launch} {D : va_G} {cA : Nat → ClassId} {h : Nat} : nMet l yX1_init cX1_init 1 (1, 20, 2, 52) D cA [.ref h] [(h, .inr (1, [.int 0, .int 0, .int 0, .null, .null]))] (dyW cA h) := by
  refine n_ofW (by decide) (Nat.le_of_ble_eq_true rfl) ?_
  intro p e s m below meth c F hm hA1 hA2
  have hAO := And.intro hA1 hA2
  generalize va_A _ s.heap.size = A at *
  refine n_ws (ws' := (h, .inr (1, [.int 0, .int 0, .int 0, .null, .null])) :: ([])) (cells' := 0) (slots' := 0) rfl rfl rfl ?_
  refine n_aln (k := 0) F (by decide +kernel) rfl (j := 0) rfl ?_
  refine n_obj (idx := 3) F (by decide +kernel) (mBW_of 273 (by decide +kernel)) ⟨by decide, by decide⟩ (by decide) ?_
  refine n_aln (k := 0) F (by decide +kernel) rfl (j := 0) rfl ?_
  refine n_bi (x := 48) (v := 48) F (by decide +kernel) (by decide) ?_
  refine n_newa (atype := .int) (ty := .int) (k0 := 0) (N' := 48) (a0 := (48, .inl (fun _ => 0))) F (by decide +kernel) (mBW_of 226 (by decide +kernel)) rfl rfl (fun _ => rfl) (by decide) (by decide) (Nat.le_of_ble_eq_true rfl) ⟨by decide, by decide⟩ (fun q1 => ?_)
  refine n_put (idx := 9) (ci := 1) (k := 3) (fs' := [.int 0, .int 0, .int 0, .ref q1, .null]) (ty := (.array .int)) F hm.1 (by decide +kernel) rfl (by decide) (mBW_of 280 (by decide +kernel)) rfl (by decide +kernel) rfl rfl (Nat.le_of_ble_eq_true rfl) rfl ?_
  refine n_aln (k := 0) F (by decide +kernel) rfl (j := 0) rfl ?_
  refine n_ic (x := 4) (v := 4) F (by decide +kernel) (by decide) ?_
  refine n_newa (atype := .int) (ty := .int) (k0 := 0) (N' := 4) (a0 := (4, .inl (fun _ => 0))) F (by decide +kernel) (mBW_of 226 (by decide +kernel)) rfl rfl (fun _ => rfl) (by decide) (by decide) (Nat.le_of_ble_eq_true rfl) ⟨by decide, by decide⟩ (fun q2 => ?_)
  refine n_put (idx := 15) (ci := 1) (k := 4) (fs' := [.int 0, .int 0, .int 0, .ref q1, .ref q2]) (ty := (.array .int)) F hm.1 (by decide +kernel) rfl (by decide) (mBW_of 282 (by decide +kernel)) rfl (by decide +kernel) rfl rfl (Nat.le_of_ble_eq_true rfl) rfl ?_
  exact n_vret F hm.2.1 hm.2.2 (by decide +kernel) (fun k => match k with | 0 => q1 | _ => q2) rfl ⟨by decide, by decide⟩ rfl
def stW (cA : Nat → ClassId) (h : Nat) (u : Nat → Nat) : va_W := [(h, .inr (7, [.ref (u 0), .ref (u 7), .ref (u 14)])), ((u 0), .inr (3, [.int 0, .int 8, .int 9, .int 20, .int 9, .int 1, .ref (u 1), .ref (u 2), .ref (u 3), .ref (u 4), .ref (u 5), .ref (u 6)])), ((u 1), .inl (cA 20, 289, .inl (fun _ => 0))), ((u 2), .inl (cA 20, 6, .inl (fun _ => 0))), ((u 3), .inl (cA 20, 48, .inl (fun _ => 0))), ((u 4), .inl (cA 20, 48, .inl (fun _ => 0))), ((u 5), .inl (cA 20, 48, .inl (fun _ => 0))), ((u 6), .inl (cA 20, 48, .inl (fun _ => 0))), ((u 7), .inr (6, [.ref (u 8), .ref (u 9), .ref (u 10), .ref (u 11), .ref (u 12), .ref (u 13), .int 0])), ((u 8), .inl (cA 20, 9, .inl (fun _ => (-1)))), ((u 9), .inl (cA 20, 9, .inl (fun _ => 3))), ((u 10), .inl (cA 20, 9, .inl (fun _ => 80))), ((u 11), .inl (cA 20, 9, .inl (fun _ => 10))), ((u 12), .inl (cA 20, 9, .inl (fun _ => 1))), ((u 13), .inl (cA 20, 36, .inl (fun _ => 0))), ((u 14), .inr (1, [.int 0, .int 0, .int 0, .ref (u 15), .ref (u 16)])), ((u 15), .inl (cA 20, 48, .inl (fun _ => 0))), ((u 16), .inl (cA 20, 4, .inl (fun _ => 0)))]
set_option maxRecDepth 100000 in
set_option maxHeartbeats 4000000 in
theorem n_X7 {l : Launch} {D : va_G} {cA : Nat → ClassId} {h : Nat} : nMet l yX7_init cX7_init 1 (3, 63, 17, 644) D cA [.ref h] [(h, .inr (7, [.null, .null, .null]))] (stW cA h) := by
  refine n_ofW (by decide) (Nat.le_of_ble_eq_true rfl) ?_
  intro p e s m below meth c F hm hA1 hA2
  have hAO := And.intro hA1 hA2
  generalize va_A _ s.heap.size = A at *
  refine n_ws (ws' := (h, .inr (7, [.null, .null, .null])) :: ([])) (cells' := 0) (slots' := 0) rfl rfl rfl ?_
  refine n_aln (k := 0) F (by decide +kernel) rfl (j := 0) rfl ?_
  refine n_obj (idx := 1) F (by decide +kernel) (mBW_of 145 (by decide +kernel)) ⟨by decide, by decide⟩ (by decide) ?_
  refine n_aln (k := 0) F (by decide +kernel) rfl (j := 0) rfl ?_
  refine n_new (idx := 7) (ci := 3) (fs := [.int 0, .int 0, .int 0, .int 0, .int 0, .int 0, .null, .null, .null, .null, .null, .null]) F (by decide +kernel) rfl (mBW_of 146 (by decide +kernel)) (mBW_of 147 (by decide +kernel)) (mBW_of 107 (by decide +kernel)) (by decide +kernel) ⟨by decide, by decide⟩ (fun q1 => ?_)
  refine n_dup F (by decide +kernel) ?_
  refine n_init (idx := 9) (n := 0) (wf := grW cA q1) (As := []) F hAO (n_X3) (by decide +kernel) ⟨(mBW_of 150 (by decide +kernel)), (mBW_of 107 (by decide +kernel)), by decide +kernel, ⟨by decide, by decide⟩⟩ (Or.inl (mBW_of 148 (by decide +kernel))) (mBW_of 149 (by decide +kernel)) rfl rfl (Nat.le_of_ble_eq_true rfl) ⟨by decide, by decide⟩ (fun u2 => ?_)
  refine n_ws (ws' := (h, .inr (7, [.null, .null, .null])) :: (grW cA q1 u2)) (cells' := 7) (slots' := 499) rfl rfl rfl ?_
  refine n_put (idx := 10) (ci := 7) (k := 0) (fs' := [.ref q1, .null, .null]) (ty := (.object "NineOnGrass$Ground")) F hm.1 (by decide +kernel) rfl (by decide) (mBW_of 295 (by decide +kernel)) rfl (by decide +kernel) rfl rfl (Nat.le_of_ble_eq_true rfl) rfl ?_
  refine n_aln (k := 0) F (by decide +kernel) rfl (j := 0) rfl ?_
  refine n_new (idx := 16) (ci := 6) (fs := [.null, .null, .null, .null, .null, .null, .int 0]) F (by decide +kernel) rfl (mBW_of 227 (by decide +kernel)) (mBW_of 228 (by decide +kernel)) (mBW_of 109 (by decide +kernel)) (by decide +kernel) ⟨by decide, by decide⟩ (fun q3 => ?_)
  refine n_dup F (by decide +kernel) ?_
  refine n_init (idx := 18) (n := 0) (wf := sqW cA q3) (As := []) F hAO (n_X6) (by decide +kernel) ⟨(mBW_of 231 (by decide +kernel)), (mBW_of 109 (by decide +kernel)), by decide +kernel, ⟨by decide, by decide⟩⟩ (Or.inl (mBW_of 229 (by decide +kernel))) (mBW_of 230 (by decide +kernel)) rfl rfl (Nat.le_of_ble_eq_true rfl) ⟨by decide, by decide⟩ (fun u4 => ?_)
  refine n_ws (ws' := (h, .inr (7, [.ref q1, .null, .null])) :: (grW cA q1 u2 ++ sqW cA q3 u4)) (cells' := 14) (slots' := 587) rfl rfl rfl ?_
  refine n_put (idx := 19) (ci := 7) (k := 1) (fs' := [.ref q1, .ref q3, .null]) (ty := (.object "NineOnGrass$Squad")) F hm.1 (by decide +kernel) rfl (by decide) (mBW_of 297 (by decide +kernel)) rfl (by decide +kernel) rfl rfl (Nat.le_of_ble_eq_true rfl) rfl ?_
  refine n_aln (k := 0) F (by decide +kernel) rfl (j := 0) rfl ?_
  refine n_new (idx := 23) (ci := 1) (fs := [.int 0, .int 0, .int 0, .null, .null]) F (by decide +kernel) rfl (mBW_of 268 (by decide +kernel)) (mBW_of 269 (by decide +kernel)) (mBW_of 110 (by decide +kernel)) (by decide +kernel) ⟨by decide, by decide⟩ (fun q5 => ?_)
  refine n_dup F (by decide +kernel) ?_
  refine n_init (idx := 25) (n := 0) (wf := dyW cA q5) (As := []) F hAO (n_X1) (by decide +kernel) ⟨(mBW_of 272 (by decide +kernel)), (mBW_of 110 (by decide +kernel)), by decide +kernel, ⟨by decide, by decide⟩⟩ (Or.inr (by decide +kernel)) (mBW_of 271 (by decide +kernel)) rfl rfl (Nat.le_of_ble_eq_true rfl) ⟨by decide, by decide⟩ (fun u6 => ?_)
  refine n_ws (ws' := (h, .inr (7, [.ref q1, .ref q3, .null])) :: (grW cA q1 u2 ++ sqW cA q3 u4 ++ dyW cA q5 u6)) (cells' := 17) (slots' := 644) rfl rfl rfl ?_
  refine n_put (idx := 26) (ci := 7) (k := 2) (fs' := [.ref q1, .ref q3, .ref q5]) (ty := (.object "NineOnGrass$Day")) F hm.1 (by decide +kernel) rfl (by decide) (mBW_of 299 (by decide +kernel)) rfl (by decide +kernel) rfl rfl (Nat.le_of_ble_eq_true rfl) rfl ?_
  exact n_vret F hm.2.1 hm.2.2 (by decide +kernel) (fun k => match k with | 0 => q1 | 1 => u2 0 | 2 => u2 1 | 3 => u2 2 | 4 => u2 3 | 5 => u2 4 | 6 => u2 5 | 7 => q3 | 8 => u4 0 | 9 => u4 1 | 10 => u4 2 | 11 => u4 3 | 12 => u4 4 | 13 => u4 5 | 14 => q5 | 15 => u6 0 | _ => u6 1) rfl ⟨by decide, by decide⟩ rfl
def trayW (cA : Nat → ClassId) (h : Nat) (u : Nat → Nat) : va_W := [(h, .inr (8, [.int 0, .int 0, .ref (u 0)])), ((u 0), .inl (cA 23, 40, .inr (.inl (fun _ => 0))))]
set_option maxRecDepth 100000 in
set_option maxHeartbeats 4000000 in
theorem n_X8 {l : Launch} {D : va_G} {cA : Nat → ClassId} {h : Nat} : nMet l yX8_init cX8_init 1 (1, 20, 1, 40) D cA [.ref h] [(h, .inr (8, [.int 0, .int 0, .null]))] (trayW cA h) := by
  refine n_ofW (by decide) (Nat.le_of_ble_eq_true rfl) ?_
  intro p e s m below meth c F hm hA1 hA2
  have hAO := And.intro hA1 hA2
  generalize va_A _ s.heap.size = A at *
  refine n_ws (ws' := (h, .inr (8, [.int 0, .int 0, .null])) :: ([])) (cells' := 0) (slots' := 0) rfl rfl rfl ?_
  refine n_aln (k := 0) F (by decide +kernel) rfl (j := 0) rfl ?_
  refine n_obj (idx := 3) F (by decide +kernel) (mBW_of 1492 (by decide +kernel)) ⟨by decide, by decide⟩ (by decide) ?_
  refine n_aln (k := 0) F (by decide +kernel) rfl (j := 0) rfl ?_
  refine n_bi (x := 40) (v := 40) F (by decide +kernel) (by decide) ?_
  refine n_newa (atype := .long) (ty := .long) (k0 := 3) (N' := 40) (a0 := (40, .inr (.inl (fun _ => 0)))) F (by decide +kernel) (mBW_of 1505 (by decide +kernel)) rfl rfl (fun _ => rfl) (by decide) (by decide) (Nat.le_of_ble_eq_true rfl) ⟨by decide, by decide⟩ (fun q1 => ?_)
  refine n_put (idx := 11) (ci := 8) (k := 2) (fs' := [.int 0, .int 0, .ref q1]) (ty := (.array .long)) F hm.1 (by decide +kernel) rfl (by decide) (mBW_of 1496 (by decide +kernel)) rfl (by decide +kernel) rfl rfl (Nat.le_of_ble_eq_true rfl) rfl ?_
  exact n_vret F hm.2.1 hm.2.2 (by decide +kernel) (fun k => match k with  | _ => q1) rfl ⟨by decide, by decide⟩ rfl
def ballW (cA : Nat → ClassId) (h : Nat) (u : Nat → Nat) : va_W := [(h, .inr (0, [.int 0, .int 0, .int 0, .ref (u 0), .ref (u 1), .ref (u 2), .ref (u 3), .ref (u 4), .ref (u 5), .ref (u 6)])), ((u 0), .inl (cA 20, 8, .inl (fun _ => 0))), ((u 1), .inl (cA 20, 8, .inl (fun _ => 0))), ((u 2), .inl (cA 20, 8, .inl (fun _ => 0))), ((u 3), .inl (cA 20, 8, .inl (fun _ => 0))), ((u 4), .inl (cA 20, 8, .inl (fun _ => 0))), ((u 5), .inl (cA 20, 64, .inl (fun _ => 0))), ((u 6), .inl (cA 20, 64, .inl (fun _ => 0)))]
set_option maxRecDepth 100000 in
set_option maxHeartbeats 4000000 in
theorem n_X0 {l : Launch} {D : va_G} {cA : Nat → ClassId} {h : Nat} : nMet l yX0_init cX0_init 1 (1, 20, 7, 168) D cA [.ref h] [(h, .inr (0, [.int 0, .int 0, .int 0, .null, .null, .null, .null, .null, .null, .null]))] (ballW cA h) := by
  refine n_ofW (by decide) (Nat.le_of_ble_eq_true rfl) ?_
  intro p e s m below meth c F hm hA1 hA2
  have hAO := And.intro hA1 hA2
  generalize va_A _ s.heap.size = A at *
  refine n_ws (ws' := (h, .inr (0, [.int 0, .int 0, .int 0, .null, .null, .null, .null, .null, .null, .null])) :: ([])) (cells' := 0) (slots' := 0) rfl rfl rfl ?_
  refine n_aln (k := 0) F (by decide +kernel) rfl (j := 0) rfl ?_
  refine n_obj (idx := 3) F (by decide +kernel) (mBW_of 313 (by decide +kernel)) ⟨by decide, by decide⟩ (by decide) ?_
  refine n_aln (k := 0) F (by decide +kernel) rfl (j := 0) rfl ?_
  refine n_bi (x := 8) (v := 8) F (by decide +kernel) (by decide) ?_
  refine n_newa (atype := .int) (ty := .int) (k0 := 0) (N' := 8) (a0 := (8, .inl (fun _ => 0))) F (by decide +kernel) (mBW_of 226 (by decide +kernel)) rfl rfl (fun _ => rfl) (by decide) (by decide) (Nat.le_of_ble_eq_true rfl) ⟨by decide, by decide⟩ (fun q1 => ?_)
  refine n_put (idx := 9) (ci := 0) (k := 3) (fs' := [.int 0, .int 0, .int 0, .ref q1, .null, .null, .null, .null, .null, .null]) (ty := (.array .int)) F hm.1 (by decide +kernel) rfl (by decide) (mBW_of 321 (by decide +kernel)) rfl (by decide +kernel) rfl rfl (Nat.le_of_ble_eq_true rfl) rfl ?_
  refine n_aln (k := 0) F (by decide +kernel) rfl (j := 0) rfl ?_
  refine n_bi (x := 8) (v := 8) F (by decide +kernel) (by decide) ?_
  refine n_newa (atype := .int) (ty := .int) (k0 := 0) (N' := 8) (a0 := (8, .inl (fun _ => 0))) F (by decide +kernel) (mBW_of 226 (by decide +kernel)) rfl rfl (fun _ => rfl) (by decide) (by decide) (Nat.le_of_ble_eq_true rfl) ⟨by decide, by decide⟩ (fun q2 => ?_)
  refine n_put (idx := 15) (ci := 0) (k := 4) (fs' := [.int 0, .int 0, .int 0, .ref q1, .ref q2, .null, .null, .null, .null, .null]) (ty := (.array .int)) F hm.1 (by decide +kernel) rfl (by decide) (mBW_of 323 (by decide +kernel)) rfl (by decide +kernel) rfl rfl (Nat.le_of_ble_eq_true rfl) rfl ?_
  refine n_aln (k := 0) F (by decide +kernel) rfl (j := 0) rfl ?_
  refine n_bi (x := 8) (v := 8) F (by decide +kernel) (by decide) ?_
  refine n_newa (atype := .int) (ty := .int) (k0 := 0) (N' := 8) (a0 := (8, .inl (fun _ => 0))) F (by decide +kernel) (mBW_of 226 (by decide +kernel)) rfl rfl (fun _ => rfl) (by decide) (by decide) (Nat.le_of_ble_eq_true rfl) ⟨by decide, by decide⟩ (fun q3 => ?_)
  refine n_put (idx := 18) (ci := 0) (k := 5) (fs' := [.int 0, .int 0, .int 0, .ref q1, .ref q2, .ref q3, .null, .null, .null, .null]) (ty := (.array .int)) F hm.1 (by decide +kernel) rfl (by decide) (mBW_of 325 (by decide +kernel)) rfl (by decide +kernel) rfl rfl (Nat.le_of_ble_eq_true rfl) rfl ?_
  refine n_aln (k := 0) F (by decide +kernel) rfl (j := 0) rfl ?_
  refine n_bi (x := 8) (v := 8) F (by decide +kernel) (by decide) ?_
  refine n_newa (atype := .int) (ty := .int) (k0 := 0) (N' := 8) (a0 := (8, .inl (fun _ => 0))) F (by decide +kernel) (mBW_of 226 (by decide +kernel)) rfl rfl (fun _ => rfl) (by decide) (by decide) (Nat.le_of_ble_eq_true rfl) ⟨by decide, by decide⟩ (fun q4 => ?_)
  refine n_put (idx := 21) (ci := 0) (k := 6) (fs' := [.int 0, .int 0, .int 0, .ref q1, .ref q2, .ref q3, .ref q4, .null, .null, .null]) (ty := (.array .int)) F hm.1 (by decide +kernel) rfl (by decide) (mBW_of 329 (by decide +kernel)) rfl (by decide +kernel) rfl rfl (Nat.le_of_ble_eq_true rfl) rfl ?_
  refine n_aln (k := 0) F (by decide +kernel) rfl (j := 0) rfl ?_
  refine n_bi (x := 8) (v := 8) F (by decide +kernel) (by decide) ?_
  refine n_newa (atype := .int) (ty := .int) (k0 := 0) (N' := 8) (a0 := (8, .inl (fun _ => 0))) F (by decide +kernel) (mBW_of 226 (by decide +kernel)) rfl rfl (fun _ => rfl) (by decide) (by decide) (Nat.le_of_ble_eq_true rfl) ⟨by decide, by decide⟩ (fun q5 => ?_)
  refine n_put (idx := 24) (ci := 0) (k := 7) (fs' := [.int 0, .int 0, .int 0, .ref q1, .ref q2, .ref q3, .ref q4, .ref q5, .null, .null]) (ty := (.array .int)) F hm.1 (by decide +kernel) rfl (by decide) (mBW_of 333 (by decide +kernel)) rfl (by decide +kernel) rfl rfl (Nat.le_of_ble_eq_true rfl) rfl ?_
  refine n_aln (k := 0) F (by decide +kernel) rfl (j := 0) rfl ?_
  refine n_bi (x := 64) (v := 64) F (by decide +kernel) (by decide) ?_
  refine n_newa (atype := .int) (ty := .int) (k0 := 0) (N' := 64) (a0 := (64, .inl (fun _ => 0))) F (by decide +kernel) (mBW_of 226 (by decide +kernel)) rfl rfl (fun _ => rfl) (by decide) (by decide) (Nat.le_of_ble_eq_true rfl) ⟨by decide, by decide⟩ (fun q6 => ?_)
  refine n_put (idx := 27) (ci := 0) (k := 8) (fs' := [.int 0, .int 0, .int 0, .ref q1, .ref q2, .ref q3, .ref q4, .ref q5, .ref q6, .null]) (ty := (.array .int)) F hm.1 (by decide +kernel) rfl (by decide) (mBW_of 337 (by decide +kernel)) rfl (by decide +kernel) rfl rfl (Nat.le_of_ble_eq_true rfl) rfl ?_
  refine n_aln (k := 0) F (by decide +kernel) rfl (j := 0) rfl ?_
  refine n_bi (x := 64) (v := 64) F (by decide +kernel) (by decide) ?_
  refine n_newa (atype := .int) (ty := .int) (k0 := 0) (N' := 64) (a0 := (64, .inl (fun _ => 0))) F (by decide +kernel) (mBW_of 226 (by decide +kernel)) rfl rfl (fun _ => rfl) (by decide) (by decide) (Nat.le_of_ble_eq_true rfl) ⟨by decide, by decide⟩ (fun q7 => ?_)
  refine n_put (idx := 30) (ci := 0) (k := 9) (fs' := [.int 0, .int 0, .int 0, .ref q1, .ref q2, .ref q3, .ref q4, .ref q5, .ref q6, .ref q7]) (ty := (.array .int)) F hm.1 (by decide +kernel) rfl (by decide) (mBW_of 338 (by decide +kernel)) rfl (by decide +kernel) rfl rfl (Nat.le_of_ble_eq_true rfl) rfl ?_
  exact n_vret F hm.2.1 hm.2.2 (by decide +kernel) (fun k => match k with | 0 => q1 | 1 => q2 | 2 => q3 | 3 => q4 | 4 => q5 | 5 => q6 | _ => q7) rfl ⟨by decide, by decide⟩ rfl
def umW (cA : Nat → ClassId) (h x0 x1 x2 : Nat) (u : Nat → Nat) : va_W := [(h, .inr (9, [.ref x0, .ref x1, .ref x2, .int 0, .int 0, .int 0, .int 0, .int 0, .int 0]))]
set_option maxRecDepth 100000 in
set_option maxHeartbeats 4000000 in
theorem n_X9 {l : Launch} {D : va_G} {cA : Nat → ClassId} {h x0 x1 x2 : Nat} : nMet l yX9_init cX9_init 4 (1, 20, 0, 0) D cA [.ref h, .ref x0, .ref x1, .ref x2] [(h, .inr (9, [.null, .null, .null, .int 0, .int 0, .int 0, .int 0, .int 0, .int 0]))] (umW cA h x0 x1 x2) := by
  refine n_ofW (by decide) (Nat.le_of_ble_eq_true rfl) ?_
  intro p e s m below meth c F hm hA1 hA2
  have hAO := And.intro hA1 hA2
  generalize va_A _ s.heap.size = A at *
  refine n_ws (ws' := (h, .inr (9, [.null, .null, .null, .int 0, .int 0, .int 0, .int 0, .int 0, .int 0])) :: ([])) (cells' := 0) (slots' := 0) rfl rfl rfl ?_
  refine n_aln (k := 0) F (by decide +kernel) rfl (j := 0) rfl ?_
  refine n_obj (idx := 3) F (by decide +kernel) (mBW_of 365 (by decide +kernel)) ⟨by decide, by decide⟩ (by decide) ?_
  refine n_aln (k := 0) F (by decide +kernel) rfl (j := 0) rfl ?_
  refine n_aln (k := 1) F (by decide +kernel) rfl (j := 1) rfl ?_
  refine n_put (idx := 9) (ci := 9) (k := 0) (fs' := [.ref x0, .null, .null, .int 0, .int 0, .int 0, .int 0, .int 0, .int 0]) (ty := (.object "NineOnGrass$Ground")) F hm.1 (by decide +kernel) rfl (by decide) (mBW_of 366 (by decide +kernel)) rfl (by decide +kernel) rfl rfl (Nat.le_of_ble_eq_true rfl) rfl ?_
  refine n_aln (k := 0) F (by decide +kernel) rfl (j := 0) rfl ?_
  refine n_aln (k := 2) F (by decide +kernel) rfl (j := 2) rfl ?_
  refine n_put (idx := 15) (ci := 9) (k := 1) (fs' := [.ref x0, .ref x1, .null, .int 0, .int 0, .int 0, .int 0, .int 0, .int 0]) (ty := (.object "NineOnGrass$Squad")) F hm.1 (by decide +kernel) rfl (by decide) (mBW_of 367 (by decide +kernel)) rfl (by decide +kernel) rfl rfl (Nat.le_of_ble_eq_true rfl) rfl ?_
  refine n_aln (k := 0) F (by decide +kernel) rfl (j := 0) rfl ?_
  refine n_aln (k := 3) F (by decide +kernel) rfl (j := 3) rfl ?_
  refine n_put (idx := 19) (ci := 9) (k := 2) (fs' := [.ref x0, .ref x1, .ref x2, .int 0, .int 0, .int 0, .int 0, .int 0, .int 0]) (ty := (.object "NineOnGrass$Ball")) F hm.1 (by decide +kernel) rfl (by decide) (mBW_of 368 (by decide +kernel)) rfl (by decide +kernel) rfl rfl (Nat.le_of_ble_eq_true rfl) rfl ?_
  exact n_vret F hm.2.1 hm.2.2 (by decide +kernel) (fun k => match k with  | _ => 0) rfl ⟨by decide, by decide⟩ rfl
def fiW (cA : Nat → ClassId) (h x0 x1 x2 x3 : Nat) (u : Nat → Nat) : va_W := [(h, .inr (2, [.ref x0, .ref x1, .ref x2, .ref x3, .ref (u 0), .ref (u 1), .ref (u 2), .ref (u 3), .ref (u 4), .ref (u 5), .ref (u 6), .ref (u 7), .ref (u 8), .ref (u 9), .int 0, .long 0])), ((u 0), .inl (cA 20, 9, .inl (fun _ => 0))), ((u 1), .inl (cA 20, 8, .inl (fun _ => 0))), ((u 2), .inl (cA 20, 8, .inl (fun _ => 0))), ((u 3), .inl (cA 20, 8, .inl (fun _ => 0))), ((u 4), .inl (cA 20, 8, .inl (fun _ => 0))), ((u 5), .inl (cA 20, 8, .inl (fun _ => 0))), ((u 6), .inl (cA 20, 8, .inl (fun _ => 0))), ((u 7), .inl (cA 20, 8, .inl (fun _ => 0))), ((u 8), .inl (cA 20, 8, .inl (fun _ => 0))), ((u 9), .inl (cA 20, 9, .inl (fun _ => 0)))]
set_option maxRecDepth 100000 in
set_option maxHeartbeats 4000000 in
theorem n_X2 {l : Launch} {D : va_G} {cA : Nat → ClassId} {h x0 x1 x2 x3 : Nat} : nMet l yX2_init cX2_init 5 (1, 20, 10, 82) D cA [.ref h, .ref x0, .ref x1, .ref x2, .ref x3] [(h, .inr (2, [.null, .null, .null, .null, .null, .null, .null, .null, .null, .null, .null, .null, .null, .null, .int 0, .long 0]))] (fiW cA h x0 x1 x2 x3) := by
  refine n_ofW (by decide) (Nat.le_of_ble_eq_true rfl) ?_
  intro p e s m below meth c F hm hA1 hA2
  have hAO := And.intro hA1 hA2
  generalize va_A _ s.heap.size = A at *
  refine n_ws (ws' := (h, .inr (2, [.null, .null, .null, .null, .null, .null, .null, .null, .null, .null, .null, .null, .null, .null, .int 0, .long 0])) :: ([])) (cells' := 0) (slots' := 0) rfl rfl rfl ?_
  refine n_aln (k := 0) F (by decide +kernel) rfl (j := 0) rfl ?_
  refine n_obj (idx := 3) F (by decide +kernel) (mBW_of 410 (by decide +kernel)) ⟨by decide, by decide⟩ (by decide) ?_
  refine n_aln (k := 0) F (by decide +kernel) rfl (j := 0) rfl ?_
  refine n_bi (x := 9) (v := 9) F (by decide +kernel) (by decide) ?_
  refine n_newa (atype := .int) (ty := .int) (k0 := 0) (N' := 9) (a0 := (9, .inl (fun _ => 0))) F (by decide +kernel) (mBW_of 226 (by decide +kernel)) rfl rfl (fun _ => rfl) (by decide) (by decide) (Nat.le_of_ble_eq_true rfl) ⟨by decide, by decide⟩ (fun q1 => ?_)
  refine n_put (idx := 9) (ci := 2) (k := 4) (fs' := [.null, .null, .null, .null, .ref q1, .null, .null, .null, .null, .null, .null, .null, .null, .null, .int 0, .long 0]) (ty := (.array .int)) F hm.1 (by decide +kernel) rfl (by decide) (mBW_of 415 (by decide +kernel)) rfl (by decide +kernel) rfl rfl (Nat.le_of_ble_eq_true rfl) rfl ?_
  refine n_aln (k := 0) F (by decide +kernel) rfl (j := 0) rfl ?_
  refine n_bi (x := 8) (v := 8) F (by decide +kernel) (by decide) ?_
  refine n_newa (atype := .int) (ty := .int) (k0 := 0) (N' := 8) (a0 := (8, .inl (fun _ => 0))) F (by decide +kernel) (mBW_of 226 (by decide +kernel)) rfl rfl (fun _ => rfl) (by decide) (by decide) (Nat.le_of_ble_eq_true rfl) ⟨by decide, by decide⟩ (fun q2 => ?_)
  refine n_put (idx := 15) (ci := 2) (k := 5) (fs' := [.null, .null, .null, .null, .ref q1, .ref q2, .null, .null, .null, .null, .null, .null, .null, .null, .int 0, .long 0]) (ty := (.array .int)) F hm.1 (by decide +kernel) rfl (by decide) (mBW_of 416 (by decide +kernel)) rfl (by decide +kernel) rfl rfl (Nat.le_of_ble_eq_true rfl) rfl ?_
  refine n_aln (k := 0) F (by decide +kernel) rfl (j := 0) rfl ?_
  refine n_bi (x := 8) (v := 8) F (by decide +kernel) (by decide) ?_
  refine n_newa (atype := .int) (ty := .int) (k0 := 0) (N' := 8) (a0 := (8, .inl (fun _ => 0))) F (by decide +kernel) (mBW_of 226 (by decide +kernel)) rfl rfl (fun _ => rfl) (by decide) (by decide) (Nat.le_of_ble_eq_true rfl) ⟨by decide, by decide⟩ (fun q3 => ?_)
  refine n_put (idx := 18) (ci := 2) (k := 6) (fs' := [.null, .null, .null, .null, .ref q1, .ref q2, .ref q3, .null, .null, .null, .null, .null, .null, .null, .int 0, .long 0]) (ty := (.array .int)) F hm.1 (by decide +kernel) rfl (by decide) (mBW_of 417 (by decide +kernel)) rfl (by decide +kernel) rfl rfl (Nat.le_of_ble_eq_true rfl) rfl ?_
  refine n_aln (k := 0) F (by decide +kernel) rfl (j := 0) rfl ?_
  refine n_bi (x := 8) (v := 8) F (by decide +kernel) (by decide) ?_
  refine n_newa (atype := .int) (ty := .int) (k0 := 0) (N' := 8) (a0 := (8, .inl (fun _ => 0))) F (by decide +kernel) (mBW_of 226 (by decide +kernel)) rfl rfl (fun _ => rfl) (by decide) (by decide) (Nat.le_of_ble_eq_true rfl) ⟨by decide, by decide⟩ (fun q4 => ?_)
  refine n_put (idx := 21) (ci := 2) (k := 7) (fs' := [.null, .null, .null, .null, .ref q1, .ref q2, .ref q3, .ref q4, .null, .null, .null, .null, .null, .null, .int 0, .long 0]) (ty := (.array .int)) F hm.1 (by decide +kernel) rfl (by decide) (mBW_of 418 (by decide +kernel)) rfl (by decide +kernel) rfl rfl (Nat.le_of_ble_eq_true rfl) rfl ?_
  refine n_aln (k := 0) F (by decide +kernel) rfl (j := 0) rfl ?_
  refine n_bi (x := 8) (v := 8) F (by decide +kernel) (by decide) ?_
  refine n_newa (atype := .int) (ty := .int) (k0 := 0) (N' := 8) (a0 := (8, .inl (fun _ => 0))) F (by decide +kernel) (mBW_of 226 (by decide +kernel)) rfl rfl (fun _ => rfl) (by decide) (by decide) (Nat.le_of_ble_eq_true rfl) ⟨by decide, by decide⟩ (fun q5 => ?_)
  refine n_put (idx := 24) (ci := 2) (k := 8) (fs' := [.null, .null, .null, .null, .ref q1, .ref q2, .ref q3, .ref q4, .ref q5, .null, .null, .null, .null, .null, .int 0, .long 0]) (ty := (.array .int)) F hm.1 (by decide +kernel) rfl (by decide) (mBW_of 419 (by decide +kernel)) rfl (by decide +kernel) rfl rfl (Nat.le_of_ble_eq_true rfl) rfl ?_
  refine n_aln (k := 0) F (by decide +kernel) rfl (j := 0) rfl ?_
  refine n_bi (x := 8) (v := 8) F (by decide +kernel) (by decide) ?_
  refine n_newa (atype := .int) (ty := .int) (k0 := 0) (N' := 8) (a0 := (8, .inl (fun _ => 0))) F (by decide +kernel) (mBW_of 226 (by decide +kernel)) rfl rfl (fun _ => rfl) (by decide) (by decide) (Nat.le_of_ble_eq_true rfl) ⟨by decide, by decide⟩ (fun q6 => ?_)
  refine n_put (idx := 27) (ci := 2) (k := 9) (fs' := [.null, .null, .null, .null, .ref q1, .ref q2, .ref q3, .ref q4, .ref q5, .ref q6, .null, .null, .null, .null, .int 0, .long 0]) (ty := (.array .int)) F hm.1 (by decide +kernel) rfl (by decide) (mBW_of 420 (by decide +kernel)) rfl (by decide +kernel) rfl rfl (Nat.le_of_ble_eq_true rfl) rfl ?_
  refine n_aln (k := 0) F (by decide +kernel) rfl (j := 0) rfl ?_
  refine n_bi (x := 8) (v := 8) F (by decide +kernel) (by decide) ?_
  refine n_newa (atype := .int) (ty := .int) (k0 := 0) (N' := 8) (a0 := (8, .inl (fun _ => 0))) F (by decide +kernel) (mBW_of 226 (by decide +kernel)) rfl rfl (fun _ => rfl) (by decide) (by decide) (Nat.le_of_ble_eq_true rfl) ⟨by decide, by decide⟩ (fun q7 => ?_)
  refine n_put (idx := 30) (ci := 2) (k := 10) (fs' := [.null, .null, .null, .null, .ref q1, .ref q2, .ref q3, .ref q4, .ref q5, .ref q6, .ref q7, .null, .null, .null, .int 0, .long 0]) (ty := (.array .int)) F hm.1 (by decide +kernel) rfl (by decide) (mBW_of 421 (by decide +kernel)) rfl (by decide +kernel) rfl rfl (Nat.le_of_ble_eq_true rfl) rfl ?_
  refine n_aln (k := 0) F (by decide +kernel) rfl (j := 0) rfl ?_
  refine n_bi (x := 8) (v := 8) F (by decide +kernel) (by decide) ?_
  refine n_newa (atype := .int) (ty := .int) (k0 := 0) (N' := 8) (a0 := (8, .inl (fun _ => 0))) F (by decide +kernel) (mBW_of 226 (by decide +kernel)) rfl rfl (fun _ => rfl) (by decide) (by decide) (Nat.le_of_ble_eq_true rfl) ⟨by decide, by decide⟩ (fun q8 => ?_)
  refine n_put (idx := 33) (ci := 2) (k := 11) (fs' := [.null, .null, .null, .null, .ref q1, .ref q2, .ref q3, .ref q4, .ref q5, .ref q6, .ref q7, .ref q8, .null, .null, .int 0, .long 0]) (ty := (.array .int)) F hm.1 (by decide +kernel) rfl (by decide) (mBW_of 422 (by decide +kernel)) rfl (by decide +kernel) rfl rfl (Nat.le_of_ble_eq_true rfl) rfl ?_
  refine n_aln (k := 0) F (by decide +kernel) rfl (j := 0) rfl ?_
  refine n_bi (x := 8) (v := 8) F (by decide +kernel) (by decide) ?_
  refine n_newa (atype := .int) (ty := .int) (k0 := 0) (N' := 8) (a0 := (8, .inl (fun _ => 0))) F (by decide +kernel) (mBW_of 226 (by decide +kernel)) rfl rfl (fun _ => rfl) (by decide) (by decide) (Nat.le_of_ble_eq_true rfl) ⟨by decide, by decide⟩ (fun q9 => ?_)
  refine n_put (idx := 36) (ci := 2) (k := 12) (fs' := [.null, .null, .null, .null, .ref q1, .ref q2, .ref q3, .ref q4, .ref q5, .ref q6, .ref q7, .ref q8, .ref q9, .null, .int 0, .long 0]) (ty := (.array .int)) F hm.1 (by decide +kernel) rfl (by decide) (mBW_of 423 (by decide +kernel)) rfl (by decide +kernel) rfl rfl (Nat.le_of_ble_eq_true rfl) rfl ?_
  refine n_aln (k := 0) F (by decide +kernel) rfl (j := 0) rfl ?_
  refine n_bi (x := 9) (v := 9) F (by decide +kernel) (by decide) ?_
  refine n_newa (atype := .int) (ty := .int) (k0 := 0) (N' := 9) (a0 := (9, .inl (fun _ => 0))) F (by decide +kernel) (mBW_of 226 (by decide +kernel)) rfl rfl (fun _ => rfl) (by decide) (by decide) (Nat.le_of_ble_eq_true rfl) ⟨by decide, by decide⟩ (fun q10 => ?_)
  refine n_put (idx := 39) (ci := 2) (k := 13) (fs' := [.null, .null, .null, .null, .ref q1, .ref q2, .ref q3, .ref q4, .ref q5, .ref q6, .ref q7, .ref q8, .ref q9, .ref q10, .int 0, .long 0]) (ty := (.array .int)) F hm.1 (by decide +kernel) rfl (by decide) (mBW_of 424 (by decide +kernel)) rfl (by decide +kernel) rfl rfl (Nat.le_of_ble_eq_true rfl) rfl ?_
  refine n_aln (k := 0) F (by decide +kernel) rfl (j := 0) rfl ?_
  refine n_aln (k := 1) F (by decide +kernel) rfl (j := 1) rfl ?_
  refine n_put (idx := 42) (ci := 2) (k := 0) (fs' := [.ref x0, .null, .null, .null, .ref q1, .ref q2, .ref q3, .ref q4, .ref q5, .ref q6, .ref q7, .ref q8, .ref q9, .ref q10, .int 0, .long 0]) (ty := (.object "NineOnGrass$Ground")) F hm.1 (by decide +kernel) rfl (by decide) (mBW_of 411 (by decide +kernel)) rfl (by decide +kernel) rfl rfl (Nat.le_of_ble_eq_true rfl) rfl ?_
  refine n_aln (k := 0) F (by decide +kernel) rfl (j := 0) rfl ?_
  refine n_aln (k := 2) F (by decide +kernel) rfl (j := 2) rfl ?_
  refine n_put (idx := 46) (ci := 2) (k := 1) (fs' := [.ref x0, .ref x1, .null, .null, .ref q1, .ref q2, .ref q3, .ref q4, .ref q5, .ref q6, .ref q7, .ref q8, .ref q9, .ref q10, .int 0, .long 0]) (ty := (.object "NineOnGrass$Squad")) F hm.1 (by decide +kernel) rfl (by decide) (mBW_of 412 (by decide +kernel)) rfl (by decide +kernel) rfl rfl (Nat.le_of_ble_eq_true rfl) rfl ?_
  refine n_aln (k := 0) F (by decide +kernel) rfl (j := 0) rfl ?_
  refine n_aln (k := 3) F (by decide +kernel) rfl (j := 3) rfl ?_
  refine n_put (idx := 50) (ci := 2) (k := 2) (fs' := [.ref x0, .ref x1, .ref x2, .null, .ref q1, .ref q2, .ref q3, .ref q4, .ref q5, .ref q6, .ref q7, .ref q8, .ref q9, .ref q10, .int 0, .long 0]) (ty := (.object "NineOnGrass$Ball")) F hm.1 (by decide +kernel) rfl (by decide) (mBW_of 413 (by decide +kernel)) rfl (by decide +kernel) rfl rfl (Nat.le_of_ble_eq_true rfl) rfl ?_
  refine n_aln (k := 0) F (by decide +kernel) rfl (j := 0) rfl ?_
  refine n_al (i := 4) F (by decide +kernel) (j := 4) rfl ?_
  refine n_put (idx := 54) (ci := 2) (k := 3) (fs' := [.ref x0, .ref x1, .ref x2, .ref x3, .ref q1, .ref q2, .ref q3, .ref q4, .ref q5, .ref q6, .ref q7, .ref q8, .ref q9, .ref q10, .int 0, .long 0]) (ty := (.object "NineOnGrass$Umpire")) F hm.1 (by decide +kernel) rfl (by decide) (mBW_of 414 (by decide +kernel)) rfl (by decide +kernel) rfl rfl (Nat.le_of_ble_eq_true rfl) rfl ?_
  exact n_vret F hm.2.1 hm.2.2 (by decide +kernel) (fun k => match k with | 0 => q1 | 1 => q2 | 2 => q3 | 3 => q4 | 4 => q5 | 5 => q6 | 6 => q7 | 7 => q8 | 8 => q9 | _ => q10) rfl ⟨by decide, by decide⟩ rfl
def mixW (cA : Nat → ClassId) (h : Nat) (u : Nat → Nat) : va_W := [(h, .inr (4, [.ref (u 0), .ref (u 1), .int 0, .long 0, .long 0, .long 0])), ((u 0), .inl (cA 20, 8, .inl (fun _ => 0))), ((u 1), .inl (cA 20, 8, .inl (fun _ => 0)))]
set_option maxRecDepth 100000 in
set_option maxHeartbeats 4000000 in
theorem n_X4 {l : Launch} {D : va_G} {cA : Nat → ClassId} {h : Nat} : nMet l yX4_init cX4_init 1 (1, 20, 2, 16) D cA [.ref h] [(h, .inr (4, [.null, .null, .int 0, .long 0, .long 0, .long 0]))] (mixW cA h) := by
  refine n_ofW (by decide) (Nat.le_of_ble_eq_true rfl) ?_
  intro p e s m below meth c F hm hA1 hA2
  have hAO := And.intro hA1 hA2
  generalize va_A _ s.heap.size = A at *
  refine n_ws (ws' := (h, .inr (4, [.null, .null, .int 0, .long 0, .long 0, .long 0])) :: ([])) (cells' := 0) (slots' := 0) rfl rfl rfl ?_
  refine n_aln (k := 0) F (by decide +kernel) rfl (j := 0) rfl ?_
  refine n_obj (idx := 3) F (by decide +kernel) (mBW_of 516 (by decide +kernel)) ⟨by decide, by decide⟩ (by decide) ?_
  refine n_aln (k := 0) F (by decide +kernel) rfl (j := 0) rfl ?_
  refine n_bi (x := 8) (v := 8) F (by decide +kernel) (by decide) ?_
  refine n_newa (atype := .int) (ty := .int) (k0 := 0) (N' := 8) (a0 := (8, .inl (fun _ => 0))) F (by decide +kernel) (mBW_of 226 (by decide +kernel)) rfl rfl (fun _ => rfl) (by decide) (by decide) (Nat.le_of_ble_eq_true rfl) ⟨by decide, by decide⟩ (fun q1 => ?_)
  refine n_put (idx := 9) (ci := 4) (k := 0) (fs' := [.ref q1, .null, .int 0, .long 0, .long 0, .long 0]) (ty := (.array .int)) F hm.1 (by decide +kernel) rfl (by decide) (mBW_of 517 (by decide +kernel)) rfl (by decide +kernel) rfl rfl (Nat.le_of_ble_eq_true rfl) rfl ?_
  refine n_aln (k := 0) F (by decide +kernel) rfl (j := 0) rfl ?_
  refine n_bi (x := 8) (v := 8) F (by decide +kernel) (by decide) ?_
  refine n_newa (atype := .int) (ty := .int) (k0 := 0) (N' := 8) (a0 := (8, .inl (fun _ => 0))) F (by decide +kernel) (mBW_of 226 (by decide +kernel)) rfl rfl (fun _ => rfl) (by decide) (by decide) (Nat.le_of_ble_eq_true rfl) ⟨by decide, by decide⟩ (fun q2 => ?_)
  refine n_put (idx := 15) (ci := 4) (k := 1) (fs' := [.ref q1, .ref q2, .int 0, .long 0, .long 0, .long 0]) (ty := (.array .int)) F hm.1 (by decide +kernel) rfl (by decide) (mBW_of 519 (by decide +kernel)) rfl (by decide +kernel) rfl rfl (Nat.le_of_ble_eq_true rfl) rfl ?_
  exact n_vret F hm.2.1 hm.2.2 (by decide +kernel) (fun k => match k with | 0 => q1 | _ => q2) rfl ⟨by decide, by decide⟩ rfl
def rdW (cA : Nat → ClassId) (h : Nat) (u : Nat → Nat) : va_W := [(h, .inr (5, [.ref (u 0), .int 0, .ref (u 1), .int 0, .int (-1), .int 0, .int 0, .int 0, .int 0, .int 0, .int 0])), ((u 0), .inl (cA 21, 800, .inl (fun _ => 0))), ((u 1), .inr (3, [.int 0, .int 8, .int 9, .int 20, .int 9, .int 1, .ref (u 2), .ref (u 3), .ref (u 4), .ref (u 5), .ref (u 6), .ref (u 7)])), ((u 2), .inl (cA 20, 289, .inl (fun _ => 0))), ((u 3), .inl (cA 20, 6, .inl (fun _ => 0))), ((u 4), .inl (cA 20, 48, .inl (fun _ => 0))), ((u 5), .inl (cA 20, 48, .inl (fun _ => 0))), ((u 6), .inl (cA 20, 48, .inl (fun _ => 0))), ((u 7), .inl (cA 20, 48, .inl (fun _ => 0)))]
set_option maxRecDepth 100000 in
set_option maxHeartbeats 4000000 in
theorem n_X5 {l : Launch} {D : va_G} {cA : Nat → ClassId} {h : Nat} : nMet l yX5_init cX5_init 1 (3, 63, 8, 1299) D cA [.ref h] [(h, .inr (5, [.null, .int 0, .null, .int 0, .int 0, .int 0, .int 0, .int 0, .int 0, .int 0, .int 0]))] (rdW cA h) := by
  refine n_ofW (by decide) (Nat.le_of_ble_eq_true rfl) ?_
  intro p e s m below meth c F hm hA1 hA2
  have hAO := And.intro hA1 hA2
  generalize va_A _ s.heap.size = A at *
  refine n_ws (ws' := (h, .inr (5, [.null, .int 0, .null, .int 0, .int 0, .int 0, .int 0, .int 0, .int 0, .int 0, .int 0])) :: ([])) (cells' := 0) (slots' := 0) rfl rfl rfl ?_
  refine n_aln (k := 0) F (by decide +kernel) rfl (j := 0) rfl ?_
  refine n_obj (idx := 3) F (by decide +kernel) (mBW_of 469 (by decide +kernel)) ⟨by decide, by decide⟩ (by decide) ?_
  refine n_aln (k := 0) F (by decide +kernel) rfl (j := 0) rfl ?_
  refine n_si (x := 800) (v := 800) F (by decide +kernel) (by decide) ?_
  refine n_newa (atype := .byte) (ty := .byte) (k0 := 1) (N' := 800) (a0 := (800, .inl (fun _ => 0))) F (by decide +kernel) (mBW_of 510 (by decide +kernel)) rfl rfl (fun _ => rfl) (by decide) (by decide) (Nat.le_of_ble_eq_true rfl) ⟨by decide, by decide⟩ (fun q1 => ?_)
  refine n_put (idx := 9) (ci := 5) (k := 0) (fs' := [.ref q1, .int 0, .null, .int 0, .int 0, .int 0, .int 0, .int 0, .int 0, .int 0, .int 0]) (ty := (.array .byte)) F hm.1 (by decide +kernel) rfl (by decide) (mBW_of 472 (by decide +kernel)) rfl (by decide +kernel) rfl rfl (Nat.le_of_ble_eq_true rfl) rfl ?_
  refine n_aln (k := 0) F (by decide +kernel) rfl (j := 0) rfl ?_
  refine n_new (idx := 15) (ci := 3) (fs := [.int 0, .int 0, .int 0, .int 0, .int 0, .int 0, .null, .null, .null, .null, .null, .null]) F (by decide +kernel) rfl (mBW_of 470 (by decide +kernel)) (mBW_of 147 (by decide +kernel)) (mBW_of 107 (by decide +kernel)) (by decide +kernel) ⟨by decide, by decide⟩ (fun q2 => ?_)
  refine n_dup F (by decide +kernel) ?_
  refine n_init (idx := 17) (n := 0) (wf := grW cA q2) (As := []) F hAO (n_X3) (by decide +kernel) ⟨(mBW_of 150 (by decide +kernel)), (mBW_of 107 (by decide +kernel)), by decide +kernel, ⟨by decide, by decide⟩⟩ (Or.inl (mBW_of 471 (by decide +kernel))) (mBW_of 149 (by decide +kernel)) rfl rfl (Nat.le_of_ble_eq_true rfl) ⟨by decide, by decide⟩ (fun u3 => ?_)
  refine n_ws (ws' := (h, .inr (5, [.ref q1, .int 0, .null, .int 0, .int 0, .int 0, .int 0, .int 0, .int 0, .int 0, .int 0])) :: ([(q1, .inl (cA 21, 800, .inl (fun _ => 0)))] ++ grW cA q2 u3)) (cells' := 8) (slots' := 1299) rfl rfl rfl ?_
  refine n_put (idx := 18) (ci := 5) (k := 2) (fs' := [.ref q1, .int 0, .ref q2, .int 0, .int 0, .int 0, .int 0, .int 0, .int 0, .int 0, .int 0]) (ty := (.object "NineOnGrass$Ground")) F hm.1 (by decide +kernel) rfl (by decide) (mBW_of 475 (by decide +kernel)) rfl (by decide +kernel) rfl rfl (Nat.le_of_ble_eq_true rfl) rfl ?_
  refine n_aln (k := 0) F (by decide +kernel) rfl (j := 0) rfl ?_
  refine n_ic (x := -1) (v := (-1)) F (by decide +kernel) (by decide) ?_
  refine n_put (idx := 22) (ci := 5) (k := 4) (fs' := [.ref q1, .int 0, .ref q2, .int 0, .int (-1), .int 0, .int 0, .int 0, .int 0, .int 0, .int 0]) (ty := .int) F hm.1 (by decide +kernel) rfl (by decide) (mBW_of 479 (by decide +kernel)) rfl (by decide +kernel) rfl rfl (Nat.le_of_ble_eq_true rfl) rfl ?_
  exact n_vret F hm.2.1 hm.2.2 (by decide +kernel) (fun k => match k with | 0 => q1 | 1 => q2 | 2 => u3 0 | 3 => u3 1 | 4 => u3 2 | 5 => u3 3 | 6 => u3 4 | _ => u3 5) rfl ⟨by decide, by decide⟩ rfl
def mnW (cA : Nat → ClassId) (h : Nat) (u : Nat → Nat) : va_W := [(h, .inr (10, [.ref (u 0), .ref (u 38), .ref (u 39), .ref (u 40), .ref (u 18), .ref (u 26), .ref (u 27), .ref (u 49), .ref (u 52), .ref (u 53), .ref (u 54), .ref (u 55), .ref (u 56), .long 0, .long 0, .int 0])), ((u 0), .inr (7, [.ref (u 1), .ref (u 8), .ref (u 15)])), ((u 1), .inr (3, [.int 0, .int 8, .int 9, .int 20, .int 9, .int 1, .ref (u 2), .ref (u 3), .ref (u 4), .ref (u 5), .ref (u 6), .ref (u 7)])), ((u 2), .inl (cA 20, 289, .inl (fun _ => 0))), ((u 3), .inl (cA 20, 6, .inl (fun _ => 0))), ((u 4), .inl (cA 20, 48, .inl (fun _ => 0))), ((u 5), .inl (cA 20, 48, .inl (fun _ => 0))), ((u 6), .inl (cA 20, 48, .inl (fun _ => 0))), ((u 7), .inl (cA 20, 48, .inl (fun _ => 0))), ((u 8), .inr (6, [.ref (u 9), .ref (u 10), .ref (u 11), .ref (u 12), .ref (u 13), .ref (u 14), .int 0])), ((u 9), .inl (cA 20, 9, .inl (fun _ => (-1)))), ((u 10), .inl (cA 20, 9, .inl (fun _ => 3))), ((u 11), .inl (cA 20, 9, .inl (fun _ => 80))), ((u 12), .inl (cA 20, 9, .inl (fun _ => 10))), ((u 13), .inl (cA 20, 9, .inl (fun _ => 1))), ((u 14), .inl (cA 20, 36, .inl (fun _ => 0))), ((u 15), .inr (1, [.int 0, .int 0, .int 0, .ref (u 16), .ref (u 17)])), ((u 16), .inl (cA 20, 48, .inl (fun _ => 0))), ((u 17), .inl (cA 20, 4, .inl (fun _ => 0))), ((u 18), .inr (0, [.int 0, .int 0, .int 0, .ref (u 19), .ref (u 20), .ref (u 21), .ref (u 22), .ref (u 23), .ref (u 24), .ref (u 25)])), ((u 19), .inl (cA 20, 8, .inl (fun _ => 0))), ((u 20), .inl (cA 20, 8, .inl (fun _ => 0))), ((u 21), .inl (cA 20, 8, .inl (fun _ => 0))), ((u 22), .inl (cA 20, 8, .inl (fun _ => 0))), ((u 23), .inl (cA 20, 8, .inl (fun _ => 0))), ((u 24), .inl (cA 20, 64, .inl (fun _ => 0))), ((u 25), .inl (cA 20, 64, .inl (fun _ => 0))), ((u 26), .inr (9, [.ref (u 1), .ref (u 8), .ref (u 18), .int 0, .int 0, .int 0, .int 0, .int 0, .int 0])), ((u 27), .inr (2, [.ref (u 1), .ref (u 8), .ref (u 18), .ref (u 26), .ref (u 28), .ref (u 29), .ref (u 30), .ref (u 31), .ref (u 32), .ref (u 33), .ref (u 34), .ref (u 35), .ref (u 36), .ref (u 37), .int 0, .long 0])), ((u 28), .inl (cA 20, 9, .inl (fun _ => 0))), ((u 29), .inl (cA 20, 8, .inl (fun _ => 0))), ((u 30), .inl (cA 20, 8, .inl (fun _ => 0))), ((u 31), .inl (cA 20, 8, .inl (fun _ => 0))), ((u 32), .inl (cA 20, 8, .inl (fun _ => 0))), ((u 33), .inl (cA 20, 8, .inl (fun _ => 0))), ((u 34), .inl (cA 20, 8, .inl (fun _ => 0))), ((u 35), .inl (cA 20, 8, .inl (fun _ => 0))), ((u 36), .inl (cA 20, 8, .inl (fun _ => 0))), ((u 37), .inl (cA 20, 9, .inl (fun _ => 0))), ((u 38), .inl (cA 24, 3, .inr (.inr (.inr (.inr (fun _ => none)))))), ((u 39), .inl (cA 25, 4, .inr (.inr (.inr (.inr (fun _ => none)))))), ((u 40), .inr (5, [.ref (u 41), .int 0, .ref (u 42), .int 0, .int (-1), .int 0, .int 0, .int 0, .int 0, .int 0, .int 0])), ((u 41), .inl (cA 21, 800, .inl (fun _ => 0))), ((u 42), .inr (3, [.int 0, .int 8, .int 9, .int 20, .int 9, .int 1, .ref (u 43), .ref (u 44), .ref (u 45), .ref (u 46), .ref (u 47), .ref (u 48)])), ((u 43), .inl (cA 20, 289, .inl (fun _ => 0))), ((u 44), .inl (cA 20, 6, .inl (fun _ => 0))), ((u 45), .inl (cA 20, 48, .inl (fun _ => 0))), ((u 46), .inl (cA 20, 48, .inl (fun _ => 0))), ((u 47), .inl (cA 20, 48, .inl (fun _ => 0))), ((u 48), .inl (cA 20, 48, .inl (fun _ => 0))), ((u 49), .inr (4, [.ref (u 50), .ref (u 51), .int 0, .long 0, .long 0, .long 0])), ((u 50), .inl (cA 20, 8, .inl (fun _ => 0))), ((u 51), .inl (cA 20, 8, .inl (fun _ => 0))), ((u 52), .inl (cA 20, 9, .inl (fun _ => 0))), ((u 53), .inl (cA 20, 6, .inl (fun _ => 0))), ((u 54), .inl (cA 20, 9, .inl (fun _ => 0))), ((u 55), .inl (cA 20, 9, .inl (fun _ => 0))), ((u 56), .inl (cA 20, 512, .inl (fun _ => 0)))]
set_option maxRecDepth 100000 in
set_option maxHeartbeats 4000000 in
theorem n_X10 {l : Launch} {D : va_G} {cA : Nat → ClassId} {h : Nat} : nMet l yX10_init cX10_init 4 (4, 83, 57, 2816) D cA [.ref h] [(h, .inr (10, [.null, .null, .null, .null, .null, .null, .null, .null, .null, .null, .null, .null, .null, .long 0, .long 0, .int 0]))] (mnW cA h) := by
  refine n_ofW (by decide) (Nat.le_of_ble_eq_true rfl) ?_
  intro p e s m below meth c F hm hA1 hA2
  have hAO := And.intro hA1 hA2
  generalize va_A _ s.heap.size = A at *
  refine n_ws (ws' := (h, .inr (10, [.null, .null, .null, .null, .null, .null, .null, .null, .null, .null, .null, .null, .null, .long 0, .long 0, .int 0])) :: ([])) (cells' := 0) (slots' := 0) rfl rfl rfl ?_
  refine n_aln (k := 0) F (by decide +kernel) rfl (j := 0) rfl ?_
  refine n_obj (idx := 3) F (by decide +kernel) (mBW_of 137 (by decide +kernel)) ⟨by decide, by decide⟩ (by decide) ?_
  refine n_new (idx := 9) (ci := 7) (fs := [.null, .null, .null]) F (by decide +kernel) rfl (mBW_of 140 (by decide +kernel)) (mBW_of 141 (by decide +kernel)) (mBW_of 106 (by decide +kernel)) (by decide +kernel) ⟨by decide, by decide⟩ (fun q1 => ?_)
  refine n_dup F (by decide +kernel) ?_
  refine n_init (idx := 11) (n := 0) (wf := stW cA q1) (As := []) F hAO (n_X7) (by decide +kernel) ⟨(mBW_of 144 (by decide +kernel)), (mBW_of 106 (by decide +kernel)), by decide +kernel, ⟨by decide, by decide⟩⟩ (Or.inr (by decide +kernel)) (mBW_of 143 (by decide +kernel)) rfl rfl (Nat.le_of_ble_eq_true rfl) ⟨by decide, by decide⟩ (fun u2 => ?_)
  refine n_ws (ws' := (h, .inr (10, [.null, .null, .null, .null, .null, .null, .null, .null, .null, .null, .null, .null, .null, .long 0, .long 0, .int 0])) :: (stW cA q1 u2)) (cells' := 18) (slots' := 647) rfl rfl rfl ?_
  refine n_asn (k := 1) (lv' := [(1, .ref q1), (0, .ref h)]) F (by decide +kernel) rfl (by decide) rfl ?_
  refine n_new (idx := 12) (ci := 0) (fs := [.int 0, .int 0, .int 0, .null, .null, .null, .null, .null, .null, .null]) F (by decide +kernel) rfl (mBW_of 308 (by decide +kernel)) (mBW_of 309 (by decide +kernel)) (mBW_of 111 (by decide +kernel)) (by decide +kernel) ⟨by decide, by decide⟩ (fun q3 => ?_)
  refine n_dup F (by decide +kernel) ?_
  refine n_init (idx := 14) (n := 0) (wf := ballW cA q3) (As := []) F hAO (n_X0) (by decide +kernel) ⟨(mBW_of 312 (by decide +kernel)), (mBW_of 111 (by decide +kernel)), by decide +kernel, ⟨by decide, by decide⟩⟩ (Or.inr (by decide +kernel)) (mBW_of 311 (by decide +kernel)) rfl rfl (Nat.le_of_ble_eq_true rfl) ⟨by decide, by decide⟩ (fun u4 => ?_)
  refine n_ws (ws' := (h, .inr (10, [.null, .null, .null, .null, .null, .null, .null, .null, .null, .null, .null, .null, .null, .long 0, .long 0, .int 0])) :: (stW cA q1 u2 ++ ballW cA q3 u4)) (cells' := 26) (slots' := 825) rfl rfl rfl ?_
  refine n_asn (k := 2) (lv' := [(2, .ref q3), (1, .ref q1), (0, .ref h)]) F (by decide +kernel) rfl (by decide) rfl ?_
  refine n_new (idx := 15) (ci := 9) (fs := [.null, .null, .null, .int 0, .int 0, .int 0, .int 0, .int 0, .int 0]) F (by decide +kernel) rfl (mBW_of 360 (by decide +kernel)) (mBW_of 361 (by decide +kernel)) (mBW_of 112 (by decide +kernel)) (by decide +kernel) ⟨by decide, by decide⟩ (fun q5 => ?_)
  refine n_dup F (by decide +kernel) ?_
  refine n_aln (k := 1) F (by decide +kernel) rfl (j := 1) rfl ?_
  refine n_get (idx := 17) (ci := 7) (k := 0) (j := 1) (fs := [.ref (u2 0), .ref (u2 7), .ref (u2 14)]) (v := .ref (u2 0)) F (by decide +kernel) rfl rfl (by decide) (mBW_of 296 (by decide +kernel)) rfl ?_
  refine n_aln (k := 1) F (by decide +kernel) rfl (j := 1) rfl ?_
  refine n_get (idx := 21) (ci := 7) (k := 1) (j := 1) (fs := [.ref (u2 0), .ref (u2 7), .ref (u2 14)]) (v := .ref (u2 7)) F (by decide +kernel) rfl rfl (by decide) (mBW_of 298 (by decide +kernel)) rfl ?_
  refine n_aln (k := 2) F (by decide +kernel) rfl (j := 0) rfl ?_
  refine n_init (idx := 25) (n := 3) (wf := umW cA q5 (u2 0) (u2 7) q3) (As := [.ref (u2 0), .ref (u2 7), .ref q3]) F hAO (n_X9) (by decide +kernel) ⟨(mBW_of 364 (by decide +kernel)), (mBW_of 112 (by decide +kernel)), by decide +kernel, ⟨by decide, by decide⟩⟩ (Or.inl (mBW_of 362 (by decide +kernel))) (mBW_of 363 (by decide +kernel)) rfl rfl (Nat.le_of_ble_eq_true rfl) ⟨by decide, by decide⟩ (fun u6 => ?_)
  refine n_ws (ws' := (h, .inr (10, [.null, .null, .null, .null, .null, .null, .null, .null, .null, .null, .null, .null, .null, .long 0, .long 0, .int 0])) :: (stW cA q1 u2 ++ ballW cA q3 u4 ++ umW cA q5 (u2 0) (u2 7) q3 u6)) (cells' := 27) (slots' := 834) rfl rfl rfl ?_
  refine n_asn (k := 3) (lv' := [(3, .ref q5), (2, .ref q3), (1, .ref q1), (0, .ref h)]) F (by decide +kernel) rfl (by decide) rfl ?_
  refine n_aln (k := 0) F (by decide +kernel) rfl (j := 3) rfl ?_
  refine n_aln (k := 1) F (by decide +kernel) rfl (j := 2) rfl ?_
  refine n_put (idx := 28) (ci := 10) (k := 0) (fs' := [.ref q1, .null, .null, .null, .null, .null, .null, .null, .null, .null, .null, .null, .null, .long 0, .long 0, .int 0]) (ty := (.object "NineOnGrass$State")) F hm.1 (by decide +kernel) rfl (by decide) (mBW_of 541 (by decide +kernel)) rfl (by decide +kernel) rfl rfl (Nat.le_of_ble_eq_true rfl) rfl ?_
  refine n_aln (k := 0) F (by decide +kernel) rfl (j := 3) rfl ?_
  refine n_aln (k := 2) F (by decide +kernel) rfl (j := 1) rfl ?_
  refine n_put (idx := 32) (ci := 10) (k := 4) (fs' := [.ref q1, .null, .null, .null, .ref q3, .null, .null, .null, .null, .null, .null, .null, .null, .long 0, .long 0, .int 0]) (ty := (.object "NineOnGrass$Ball")) F hm.1 (by decide +kernel) rfl (by decide) (mBW_of 545 (by decide +kernel)) rfl (by decide +kernel) rfl rfl (Nat.le_of_ble_eq_true rfl) rfl ?_
  refine n_aln (k := 0) F (by decide +kernel) rfl (j := 3) rfl ?_
  refine n_aln (k := 3) F (by decide +kernel) rfl (j := 0) rfl ?_
  refine n_put (idx := 36) (ci := 10) (k := 5) (fs' := [.ref q1, .null, .null, .null, .ref q3, .ref q5, .null, .null, .null, .null, .null, .null, .null, .long 0, .long 0, .int 0]) (ty := (.object "NineOnGrass$Umpire")) F hm.1 (by decide +kernel) rfl (by decide) (mBW_of 546 (by decide +kernel)) rfl (by decide +kernel) rfl rfl (Nat.le_of_ble_eq_true rfl) rfl ?_
  refine n_aln (k := 0) F (by decide +kernel) rfl (j := 3) rfl ?_
  refine n_new (idx := 40) (ci := 2) (fs := [.null, .null, .null, .null, .null, .null, .null, .null, .null, .null, .null, .null, .null, .null, .int 0, .long 0]) F (by decide +kernel) rfl (mBW_of 405 (by decide +kernel)) (mBW_of 406 (by decide +kernel)) (mBW_of 113 (by decide +kernel)) (by decide +kernel) ⟨by decide, by decide⟩ (fun q7 => ?_)
  refine n_dup F (by decide +kernel) ?_
  refine n_aln (k := 1) F (by decide +kernel) rfl (j := 2) rfl ?_
  refine n_get (idx := 17) (ci := 7) (k := 0) (j := 1) (fs := [.ref (u2 0), .ref (u2 7), .ref (u2 14)]) (v := .ref (u2 0)) F (by decide +kernel) rfl rfl (by decide) (mBW_of 296 (by decide +kernel)) rfl ?_
  refine n_aln (k := 1) F (by decide +kernel) rfl (j := 2) rfl ?_
  refine n_get (idx := 21) (ci := 7) (k := 1) (j := 1) (fs := [.ref (u2 0), .ref (u2 7), .ref (u2 14)]) (v := .ref (u2 7)) F (by decide +kernel) rfl rfl (by decide) (mBW_of 298 (by decide +kernel)) rfl ?_
  refine n_aln (k := 2) F (by decide +kernel) rfl (j := 1) rfl ?_
  refine n_aln (k := 3) F (by decide +kernel) rfl (j := 0) rfl ?_
  refine n_init (idx := 42) (n := 4) (wf := fiW cA q7 (u2 0) (u2 7) q3 q5) (As := [.ref (u2 0), .ref (u2 7), .ref q3, .ref q5]) F hAO (n_X2) (by decide +kernel) ⟨(mBW_of 409 (by decide +kernel)), (mBW_of 113 (by decide +kernel)), by decide +kernel, ⟨by decide, by decide⟩⟩ (Or.inl (mBW_of 407 (by decide +kernel))) (mBW_of 408 (by decide +kernel)) rfl rfl (Nat.le_of_ble_eq_true rfl) ⟨by decide, by decide⟩ (fun u8 => ?_)
  refine n_ws (ws' := (h, .inr (10, [.ref q1, .null, .null, .null, .ref q3, .ref q5, .null, .null, .null, .null, .null, .null, .null, .long 0, .long 0, .int 0])) :: (stW cA q1 u2 ++ ballW cA q3 u4 ++ umW cA q5 (u2 0) (u2 7) q3 u6 ++ fiW cA q7 (u2 0) (u2 7) q3 q5 u8)) (cells' := 38) (slots' := 932) rfl rfl rfl ?_
  refine n_put (idx := 45) (ci := 10) (k := 6) (fs' := [.ref q1, .null, .null, .null, .ref q3, .ref q5, .ref q7, .null, .null, .null, .null, .null, .null, .long 0, .long 0, .int 0]) (ty := (.object "NineOnGrass$Finder")) F hm.1 (by decide +kernel) rfl (by decide) (mBW_of 547 (by decide +kernel)) rfl (by decide +kernel) rfl rfl (Nat.le_of_ble_eq_true rfl) rfl ?_
  refine n_aln (k := 0) F (by decide +kernel) rfl (j := 3) rfl ?_
  refine n_ic (x := 3) (v := 3) F (by decide +kernel) (by decide) ?_
  refine n_newq (idx := 9) (C := "NineOnGrass$State") (k0 := 4) (N' := 3) F (by decide +kernel) (mBW_of 140 (by decide +kernel)) hAO.1 rfl (by decide) (by decide) (Nat.le_of_ble_eq_true rfl) ⟨by decide, by decide⟩ (fun q9 => ?_)
  refine n_put (idx := 49) (ci := 10) (k := 1) (fs' := [.ref q1, .ref q9, .null, .null, .ref q3, .ref q5, .ref q7, .null, .null, .null, .null, .null, .null, .long 0, .long 0, .int 0]) (ty := (.array (.object "NineOnGrass$State"))) F hm.1 (by decide +kernel) rfl (by decide) (mBW_of 542 (by decide +kernel)) rfl (by decide +kernel) rfl rfl (Nat.le_of_ble_eq_true rfl) rfl ?_
  refine n_aln (k := 0) F (by decide +kernel) rfl (j := 3) rfl ?_
  refine n_ic (x := 4) (v := 4) F (by decide +kernel) (by decide) ?_
  refine n_newq (idx := 53) (C := "NineOnGrass$Tray") (k0 := 5) (N' := 4) F (by decide +kernel) (mBW_of 462 (by decide +kernel)) hAO.2 rfl (by decide) (by decide) (Nat.le_of_ble_eq_true rfl) ⟨by decide, by decide⟩ (fun q10 => ?_)
  refine n_put (idx := 55) (ci := 10) (k := 2) (fs' := [.ref q1, .ref q9, .ref q10, .null, .ref q3, .ref q5, .ref q7, .null, .null, .null, .null, .null, .null, .long 0, .long 0, .int 0]) (ty := (.array (.object "NineOnGrass$Tray"))) F hm.1 (by decide +kernel) rfl (by decide) (mBW_of 543 (by decide +kernel)) rfl (by decide +kernel) rfl rfl (Nat.le_of_ble_eq_true rfl) rfl ?_
  refine n_aln (k := 0) F (by decide +kernel) rfl (j := 3) rfl ?_
  refine n_new (idx := 59) (ci := 5) (fs := [.null, .int 0, .null, .int 0, .int 0, .int 0, .int 0, .int 0, .int 0, .int 0, .int 0]) F (by decide +kernel) rfl (mBW_of 464 (by decide +kernel)) (mBW_of 465 (by decide +kernel)) (mBW_of 114 (by decide +kernel)) (by decide +kernel) ⟨by decide, by decide⟩ (fun q11 => ?_)
  refine n_dup F (by decide +kernel) ?_
  refine n_init (idx := 61) (n := 0) (wf := rdW cA q11) (As := []) F hAO (n_X5) (by decide +kernel) ⟨(mBW_of 468 (by decide +kernel)), (mBW_of 114 (by decide +kernel)), by decide +kernel, ⟨by decide, by decide⟩⟩ (Or.inr (by decide +kernel)) (mBW_of 467 (by decide +kernel)) rfl rfl (Nat.le_of_ble_eq_true rfl) ⟨by decide, by decide⟩ (fun u12 => ?_)
  refine n_ws (ws' := (h, .inr (10, [.ref q1, .ref q9, .ref q10, .null, .ref q3, .ref q5, .ref q7, .null, .null, .null, .null, .null, .null, .long 0, .long 0, .int 0])) :: (stW cA q1 u2 ++ ballW cA q3 u4 ++ umW cA q5 (u2 0) (u2 7) q3 u6 ++ fiW cA q7 (u2 0) (u2 7) q3 q5 u8 ++ [(q9, .inl (cA 24, 3, .inr (.inr (.inr (.inr (fun _ => none)))))), (q10, .inl (cA 25, 4, .inr (.inr (.inr (.inr (fun _ => none))))))] ++ rdW cA q11 u12)) (cells' := 49) (slots' := 2249) rfl rfl rfl ?_
  refine n_put (idx := 62) (ci := 10) (k := 3) (fs' := [.ref q1, .ref q9, .ref q10, .ref q11, .ref q3, .ref q5, .ref q7, .null, .null, .null, .null, .null, .null, .long 0, .long 0, .int 0]) (ty := (.object "NineOnGrass$Reader")) F hm.1 (by decide +kernel) rfl (by decide) (mBW_of 544 (by decide +kernel)) rfl (by decide +kernel) rfl rfl (Nat.le_of_ble_eq_true rfl) rfl ?_
  refine n_aln (k := 0) F (by decide +kernel) rfl (j := 3) rfl ?_
  refine n_new (idx := 66) (ci := 4) (fs := [.null, .null, .int 0, .long 0, .long 0, .long 0]) F (by decide +kernel) rfl (mBW_of 511 (by decide +kernel)) (mBW_of 512 (by decide +kernel)) (mBW_of 115 (by decide +kernel)) (by decide +kernel) ⟨by decide, by decide⟩ (fun q13 => ?_)
  refine n_dup F (by decide +kernel) ?_
  refine n_init (idx := 68) (n := 0) (wf := mixW cA q13) (As := []) F hAO (n_X4) (by decide +kernel) ⟨(mBW_of 515 (by decide +kernel)), (mBW_of 115 (by decide +kernel)), by decide +kernel, ⟨by decide, by decide⟩⟩ (Or.inr (by decide +kernel)) (mBW_of 514 (by decide +kernel)) rfl rfl (Nat.le_of_ble_eq_true rfl) ⟨by decide, by decide⟩ (fun u14 => ?_)
  refine n_ws (ws' := (h, .inr (10, [.ref q1, .ref q9, .ref q10, .ref q11, .ref q3, .ref q5, .ref q7, .null, .null, .null, .null, .null, .null, .long 0, .long 0, .int 0])) :: (stW cA q1 u2 ++ ballW cA q3 u4 ++ umW cA q5 (u2 0) (u2 7) q3 u6 ++ fiW cA q7 (u2 0) (u2 7) q3 q5 u8 ++ [(q9, .inl (cA 24, 3, .inr (.inr (.inr (.inr (fun _ => none)))))), (q10, .inl (cA 25, 4, .inr (.inr (.inr (.inr (fun _ => none))))))] ++ rdW cA q11 u12 ++ mixW cA q13 u14)) (cells' := 52) (slots' := 2271) rfl rfl rfl ?_
  refine n_put (idx := 69) (ci := 10) (k := 7) (fs' := [.ref q1, .ref q9, .ref q10, .ref q11, .ref q3, .ref q5, .ref q7, .ref q13, .null, .null, .null, .null, .null, .long 0, .long 0, .int 0]) (ty := (.object "NineOnGrass$Mix")) F hm.1 (by decide +kernel) rfl (by decide) (mBW_of 548 (by decide +kernel)) rfl (by decide +kernel) rfl rfl (Nat.le_of_ble_eq_true rfl) rfl ?_
  refine n_aln (k := 0) F (by decide +kernel) rfl (j := 3) rfl ?_
  refine n_bi (x := 9) (v := 9) F (by decide +kernel) (by decide) ?_
  refine n_newa (atype := .int) (ty := .int) (k0 := 0) (N' := 9) (a0 := (9, .inl (fun _ => 0))) F (by decide +kernel) (mBW_of 226 (by decide +kernel)) rfl rfl (fun _ => rfl) (by decide) (by decide) (Nat.le_of_ble_eq_true rfl) ⟨by decide, by decide⟩ (fun q15 => ?_)
  refine n_put (idx := 73) (ci := 10) (k := 8) (fs' := [.ref q1, .ref q9, .ref q10, .ref q11, .ref q3, .ref q5, .ref q7, .ref q13, .ref q15, .null, .null, .null, .null, .long 0, .long 0, .int 0]) (ty := (.array .int)) F hm.1 (by decide +kernel) rfl (by decide) (mBW_of 549 (by decide +kernel)) rfl (by decide +kernel) rfl rfl (Nat.le_of_ble_eq_true rfl) rfl ?_
  refine n_aln (k := 0) F (by decide +kernel) rfl (j := 3) rfl ?_
  refine n_bi (x := 6) (v := 6) F (by decide +kernel) (by decide) ?_
  refine n_newa (atype := .int) (ty := .int) (k0 := 0) (N' := 6) (a0 := (6, .inl (fun _ => 0))) F (by decide +kernel) (mBW_of 226 (by decide +kernel)) rfl rfl (fun _ => rfl) (by decide) (by decide) (Nat.le_of_ble_eq_true rfl) ⟨by decide, by decide⟩ (fun q16 => ?_)
  refine n_put (idx := 77) (ci := 10) (k := 9) (fs' := [.ref q1, .ref q9, .ref q10, .ref q11, .ref q3, .ref q5, .ref q7, .ref q13, .ref q15, .ref q16, .null, .null, .null, .long 0, .long 0, .int 0]) (ty := (.array .int)) F hm.1 (by decide +kernel) rfl (by decide) (mBW_of 550 (by decide +kernel)) rfl (by decide +kernel) rfl rfl (Nat.le_of_ble_eq_true rfl) rfl ?_
  refine n_aln (k := 0) F (by decide +kernel) rfl (j := 3) rfl ?_
  refine n_bi (x := 9) (v := 9) F (by decide +kernel) (by decide) ?_
  refine n_newa (atype := .int) (ty := .int) (k0 := 0) (N' := 9) (a0 := (9, .inl (fun _ => 0))) F (by decide +kernel) (mBW_of 226 (by decide +kernel)) rfl rfl (fun _ => rfl) (by decide) (by decide) (Nat.le_of_ble_eq_true rfl) ⟨by decide, by decide⟩ (fun q17 => ?_)
  refine n_put (idx := 80) (ci := 10) (k := 10) (fs' := [.ref q1, .ref q9, .ref q10, .ref q11, .ref q3, .ref q5, .ref q7, .ref q13, .ref q15, .ref q16, .ref q17, .null, .null, .long 0, .long 0, .int 0]) (ty := (.array .int)) F hm.1 (by decide +kernel) rfl (by decide) (mBW_of 551 (by decide +kernel)) rfl (by decide +kernel) rfl rfl (Nat.le_of_ble_eq_true rfl) rfl ?_
  refine n_aln (k := 0) F (by decide +kernel) rfl (j := 3) rfl ?_
  refine n_bi (x := 9) (v := 9) F (by decide +kernel) (by decide) ?_
  refine n_newa (atype := .int) (ty := .int) (k0 := 0) (N' := 9) (a0 := (9, .inl (fun _ => 0))) F (by decide +kernel) (mBW_of 226 (by decide +kernel)) rfl rfl (fun _ => rfl) (by decide) (by decide) (Nat.le_of_ble_eq_true rfl) ⟨by decide, by decide⟩ (fun q18 => ?_)
  refine n_put (idx := 83) (ci := 10) (k := 11) (fs' := [.ref q1, .ref q9, .ref q10, .ref q11, .ref q3, .ref q5, .ref q7, .ref q13, .ref q15, .ref q16, .ref q17, .ref q18, .null, .long 0, .long 0, .int 0]) (ty := (.array .int)) F hm.1 (by decide +kernel) rfl (by decide) (mBW_of 552 (by decide +kernel)) rfl (by decide +kernel) rfl rfl (Nat.le_of_ble_eq_true rfl) rfl ?_
  refine n_aln (k := 0) F (by decide +kernel) rfl (j := 3) rfl ?_
  refine n_si (x := 512) (v := 512) F (by decide +kernel) (by decide) ?_
  refine n_newa (atype := .int) (ty := .int) (k0 := 0) (N' := 512) (a0 := (512, .inl (fun _ => 0))) F (by decide +kernel) (mBW_of 226 (by decide +kernel)) rfl rfl (fun _ => rfl) (by decide) (by decide) (Nat.le_of_ble_eq_true rfl) ⟨by decide, by decide⟩ (fun q19 => ?_)
  refine n_put (idx := 86) (ci := 10) (k := 12) (fs' := [.ref q1, .ref q9, .ref q10, .ref q11, .ref q3, .ref q5, .ref q7, .ref q13, .ref q15, .ref q16, .ref q17, .ref q18, .ref q19, .long 0, .long 0, .int 0]) (ty := (.array .int)) F hm.1 (by decide +kernel) rfl (by decide) (mBW_of 553 (by decide +kernel)) rfl (by decide +kernel) rfl rfl (Nat.le_of_ble_eq_true rfl) rfl ?_
  exact n_vret F hm.2.1 hm.2.2 (by decide +kernel) (fun k => match k with | 0 => q1 | 1 => u2 0 | 2 => u2 1 | 3 => u2 2 | 4 => u2 3 | 5 => u2 4 | 6 => u2 5 | 7 => u2 6 | 8 => u2 7 | 9 => u2 8 | 10 => u2 9 | 11 => u2 10 | 12 => u2 11 | 13 => u2 12 | 14 => u2 13 | 15 => u2 14 | 16 => u2 15 | 17 => u2 16 | 18 => q3 | 19 => u4 0 | 20 => u4 1 | 21 => u4 2 | 22 => u4 3 | 23 => u4 4 | 24 => u4 5 | 25 => u4 6 | 26 => q5 | 27 => q7 | 28 => u8 0 | 29 => u8 1 | 30 => u8 2 | 31 => u8 3 | 32 => u8 4 | 33 => u8 5 | 34 => u8 6 | 35 => u8 7 | 36 => u8 8 | 37 => u8 9 | 38 => q9 | 39 => q10 | 40 => q11 | 41 => u12 0 | 42 => u12 1 | 43 => u12 2 | 44 => u12 3 | 45 => u12 4 | 46 => u12 5 | 47 => u12 6 | 48 => u12 7 | 49 => q13 | 50 => u14 0 | 51 => u14 1 | 52 => q15 | 53 => q16 | 54 => q17 | 55 => q18 | _ => q19) rfl ⟨by decide, by decide⟩ rfl
end LCONS
