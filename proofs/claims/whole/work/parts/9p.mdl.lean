section LCONM
section LMD
variable {p : Program} {l : Launch} {e : Env} {R : Room} {s : State} {m : MethodId} {args : Array Value} {below : List Frame} {meth : Method} {c : Code} {Q : State → Prop} {nL : Nat} {D : va_G} {cA : Nat → ClassId} {cc : ByteArray} {own : String} {A : Nat → Prop} {pc cells slots : Nat} {lv : List (Nat × Value)} {st : List Value} {ws wr : va_W}
theorem n_mul {x y z : Int32} (F : nF p s m args c cc nL own D cA A) (hd : mDc cc pc .imul 1 = true) (hv : x * y = z) (h : nW p l e R s m args below meth c Q nL D A (pc + 1) lv (.int z :: st) ws cells slots) : nW p l e R s m args below meth c Q nL D A pc lv (.int y :: .int x :: st) ws cells slots := by
  subst hv
  exact fun H locs ls hP hD hS hl => lv_imul F.1 F.2.1 (mDc_of hd) (h H locs ls hP hD hS hl)
theorem n_add {x y z : Int32} (F : nF p s m args c cc nL own D cA A) (hd : mDc cc pc .iadd 1 = true) (hv : x + y = z) (h : nW p l e R s m args below meth c Q nL D A (pc + 1) lv (.int z :: st) ws cells slots) : nW p l e R s m args below meth c Q nL D A pc lv (.int y :: .int x :: st) ws cells slots := by
  subst hv
  exact fun H locs ls hP hD hS hl => lv_iadd F.1 F.2.1 (mDc_of hd) (h H locs ls hP hD hS hl)
theorem n_get_ge {x y : Int32} {off : Int} {tgt : Nat} (F : nF p s m args c cc nL own D cA A) (hd : mDc cc pc (.if_icmp .ge off) 3 = true) (ht : (pc : Int) + off = (tgt : Int)) (hv : y ≤ x) (h : nW p l e R s m args below meth c Q nL D A tgt lv st ws cells slots) : nW p l e R s m args below meth c Q nL D A pc lv (.int y :: .int x :: st) ws cells slots :=
  fun H locs ls hP hD hS hl => lv_icmp_ge F.1 F.2.1 (mDc_of hd) ht (fun _ => h H locs ls hP hD hS hl) (fun z => absurd hv z)
theorem n_get_lt {x y : Int32} {off : Int} {tgt : Nat} (F : nF p s m args c cc nL own D cA A) (hd : mDc cc pc (.if_icmp .ge off) 3 = true) (ht : (pc : Int) + off = (tgt : Int)) (hv : ¬ y ≤ x) (h : nW p l e R s m args below meth c Q nL D A (pc + 3) lv st ws cells slots) : nW p l e R s m args below meth c Q nL D A pc lv (.int y :: .int x :: st) ws cells slots :=
  fun H locs ls hP hD hS hl => lv_icmp_ge F.1 F.2.1 (mDc_of hd) ht (fun z => absurd z hv) (fun _ => h H locs ls hP hD hS hl)
theorem n_go {off : Int} {tgt : Nat} (F : nF p s m args c cc nL own D cA A) (hd : mDc cc pc (.goto off) 3 = true) (ht : (pc : Int) + off = (tgt : Int)) (h : nW p l e R s m args below meth c Q nL D A tgt lv st ws cells slots) : nW p l e R s m args below meth c Q nL D A pc lv st ws cells slots :=
  fun H locs ls hP hD hS hl => lv_goto F.1 F.2.1 (mDc_of hd) ht (h H locs ls hP hD hS hl)
theorem n_inc {i k : Nat} {n : Int} {x v : Int32} {lv' : List (Nat × Value)} (F : nF p s m args c cc nL own D cA A) (hd : mDc cc pc (.iinc i n) 3 = true) (hk : lv[k]? = some (i, .int x)) (hv : x + Int32.ofInt n = v) (hn : i < nL) (hl' : (i, Value.int v) :: lv.filter (fun q => !(q.1 == i) && !(q.1 + 1 == i && q.2.category == 2)) = lv') (h : nW p l e R s m args below meth c Q nL D A (pc + 3) lv' st ws cells slots) : nW p l e R s m args below meth c Q nL D A pc lv st ws cells slots :=
  fun H locs ls hP hD hS hl => lv_iinc F.1 F.2.1 (mDc_of hd) hl hk hv hn hl' (fun ls hl => h H locs ls hP hD hS hl)
theorem n_dupi {a : Nat} (F : nF p s m args c cc nL own D cA A) (hd : mDc cc pc .dup 1 = true) (h : nW p l e R s m args below meth c Q nL D A (pc + 1) lv (.ref a :: .ref a :: st) ws cells slots) : nW p l e R s m args below meth c Q nL D A pc lv (.ref a :: st) ws cells slots := n_dup F hd h
end LMD

def tk0 : Nat → Int32 := upd (fun _ => 0) 1 8
def tk1 : Nat → Int32 := upd tk0 2 9
def tk2 : Nat → Int32 := upd tk1 3 20
def tk3 : Nat → Int32 := upd tk2 4 9
def tk4 : Nat → Int32 := upd tk3 5 1
set_option maxRecDepth 100000 in
set_option maxHeartbeats 4000000 in
theorem n_X11_begins {l : Launch} {D : va_G} {cA : Nat → ClassId} {h : Nat} : nMet l yX11_begins cX11_begins 1 (0, 0, 0, 0) D cA [.ref h] [(h, .inl (cA 20, 635, .inl (fun _ => 0)))] (fun _ => [(h, .inl (cA 20, 635, .inl tk4))]) := by
  refine n_ofW (by decide) (Nat.le_of_ble_eq_true rfl) ?_
  intro p e s m below meth c F hm hA1 hA2
  have hAO := And.intro hA1 hA2
  generalize va_A _ s.heap.size = A at *
  refine n_aln (k := 0) F (by decide +kernel) rfl (j := 0) rfl ?_
  refine n_ic (x := 1) (v := 1) F (by decide +kernel) (by decide) ?_
  refine n_bi (x := 8) (v := 8) F (by decide +kernel) (by decide) ?_
  refine n_ia (j := 0) (n := 635) (f := (fun _ => 0)) (o' := .inl (cA 20, 635, .inl tk0)) F (by decide +kernel) rfl (by unfold vp_in; decide) rfl ?_
  refine n_ws (ws' := (h, .inl (cA 20, 635, .inl tk0)) :: ([])) (cells' := 0) (slots' := 0) rfl rfl rfl ?_
  refine n_aln (k := 0) F (by decide +kernel) rfl (j := 0) rfl ?_
  refine n_ic (x := 2) (v := 2) F (by decide +kernel) (by decide) ?_
  refine n_bi (x := 9) (v := 9) F (by decide +kernel) (by decide) ?_
  refine n_ia (j := 0) (n := 635) (f := tk0) (o' := .inl (cA 20, 635, .inl tk1)) F (by decide +kernel) rfl (by unfold vp_in; decide) rfl ?_
  refine n_ws (ws' := (h, .inl (cA 20, 635, .inl tk1)) :: ([])) (cells' := 0) (slots' := 0) rfl rfl rfl ?_
  refine n_aln (k := 0) F (by decide +kernel) rfl (j := 0) rfl ?_
  refine n_ic (x := 3) (v := 3) F (by decide +kernel) (by decide) ?_
  refine n_bi (x := 20) (v := 20) F (by decide +kernel) (by decide) ?_
  refine n_ia (j := 0) (n := 635) (f := tk1) (o' := .inl (cA 20, 635, .inl tk2)) F (by decide +kernel) rfl (by unfold vp_in; decide) rfl ?_
  refine n_ws (ws' := (h, .inl (cA 20, 635, .inl tk2)) :: ([])) (cells' := 0) (slots' := 0) rfl rfl rfl ?_
  refine n_aln (k := 0) F (by decide +kernel) rfl (j := 0) rfl ?_
  refine n_ic (x := 4) (v := 4) F (by decide +kernel) (by decide) ?_
  refine n_bi (x := 9) (v := 9) F (by decide +kernel) (by decide) ?_
  refine n_ia (j := 0) (n := 635) (f := tk2) (o' := .inl (cA 20, 635, .inl tk3)) F (by decide +kernel) rfl (by unfold vp_in; decide) rfl ?_
  refine n_ws (ws' := (h, .inl (cA 20, 635, .inl tk3)) :: ([])) (cells' := 0) (slots' := 0) rfl rfl rfl ?_
  refine n_aln (k := 0) F (by decide +kernel) rfl (j := 0) rfl ?_
  refine n_ic (x := 5) (v := 5) F (by decide +kernel) (by decide) ?_
  refine n_ic (x := 1) (v := 1) F (by decide +kernel) (by decide) ?_
  refine n_ia (j := 0) (n := 635) (f := tk3) (o' := .inl (cA 20, 635, .inl tk4)) F (by decide +kernel) rfl (by unfold vp_in; decide) rfl ?_
  refine n_ws (ws' := (h, .inl (cA 20, 635, .inl tk4)) :: ([])) (cells' := 0) (slots' := 0) rfl rfl rfl ?_
  exact n_vret F hm.2.1 hm.2.2 (by decide +kernel) (fun _ => 0) rfl ⟨by decide, by decide⟩ rfl
def tk5 : Nat → Int32 := upd (fun _ => 0) 0 (-1)
def tk6 : Nat → Int32 := upd tk5 1 (-1)
def tk7 : Nat → Int32 := upd tk6 2 (-1)
def tk8 : Nat → Int32 := upd tk7 3 (-1)
def tk9 : Nat → Int32 := upd tk4 550 (-1)
def tk10 : Nat → Int32 := upd tk9 551 3
def tk11 : Nat → Int32 := upd tk10 552 80
def tk12 : Nat → Int32 := upd tk11 553 10
def tk13 : Nat → Int32 := upd tk12 554 1
def tk14 : Nat → Int32 := upd tk13 555 (-1)
def tk15 : Nat → Int32 := upd tk14 556 3
def tk16 : Nat → Int32 := upd tk15 557 80
def tk17 : Nat → Int32 := upd tk16 558 10
def tk18 : Nat → Int32 := upd tk17 559 1
def tk19 : Nat → Int32 := upd tk18 560 (-1)
def tk20 : Nat → Int32 := upd tk19 561 3
def tk21 : Nat → Int32 := upd tk20 562 80
def tk22 : Nat → Int32 := upd tk21 563 10
def tk23 : Nat → Int32 := upd tk22 564 1
def tk24 : Nat → Int32 := upd tk23 565 (-1)
def tk25 : Nat → Int32 := upd tk24 566 3
def tk26 : Nat → Int32 := upd tk25 567 80
def tk27 : Nat → Int32 := upd tk26 568 10
def tk28 : Nat → Int32 := upd tk27 569 1
def tk29 : Nat → Int32 := upd tk28 570 (-1)
def tk30 : Nat → Int32 := upd tk29 571 3
def tk31 : Nat → Int32 := upd tk30 572 80
def tk32 : Nat → Int32 := upd tk31 573 10
def tk33 : Nat → Int32 := upd tk32 574 1
def tk34 : Nat → Int32 := upd tk33 575 (-1)
def tk35 : Nat → Int32 := upd tk34 576 3
def tk36 : Nat → Int32 := upd tk35 577 80
def tk37 : Nat → Int32 := upd tk36 578 10
def tk38 : Nat → Int32 := upd tk37 579 1
def tk39 : Nat → Int32 := upd tk38 580 (-1)
def tk40 : Nat → Int32 := upd tk39 581 3
def tk41 : Nat → Int32 := upd tk40 582 80
def tk42 : Nat → Int32 := upd tk41 583 10
def tk43 : Nat → Int32 := upd tk42 584 1
def tk44 : Nat → Int32 := upd tk43 585 (-1)
def tk45 : Nat → Int32 := upd tk44 586 3
def tk46 : Nat → Int32 := upd tk45 587 80
def tk47 : Nat → Int32 := upd tk46 588 10
def tk48 : Nat → Int32 := upd tk47 589 1
def tk49 : Nat → Int32 := upd tk48 590 (-1)
def tk50 : Nat → Int32 := upd tk49 591 3
def tk51 : Nat → Int32 := upd tk50 592 80
def tk52 : Nat → Int32 := upd tk51 593 10
def tk53 : Nat → Int32 := upd tk52 594 1
def mdW (cA : Nat → ClassId) (h : Nat) (u : Nat → Nat) : va_W := [(h, .inr (11, [.ref (u 0), .ref (u 1), .ref (u 2), .int 0, .ref (u 3), .ref (u 4), .int 0, .int 0, .int 0, .int 0, .int 0, .int 0, .int 0, .int 0, .int 0, .int (-1), .long 0, .long 0, .long 0, .ref (u 5), .ref (u 6), .ref (u 7), .ref (u 8), .ref (u 9), .long 0, .long 0, .long 0, .ref (u 10), .ref (u 11), .ref (u 12), .ref (u 13), .ref (u 14), .int 0, .ref (u 15), .ref (u 16), .ref (u 17)])), ((u 0), .inl (cA 20, 635, .inl tk53)), ((u 1), .inl (cA 20, 1905, .inl (fun _ => 0))), ((u 2), .inl (cA 22, 3, .inl (fun _ => 0))), ((u 3), .inl (cA 20, 800, .inl (fun _ => 0))), ((u 4), .inl (cA 20, 550, .inl (fun _ => 0))), ((u 5), .inl (cA 20, 2, .inl (fun _ => 0))), ((u 6), .inl (cA 20, 9, .inl (fun _ => 0))), ((u 7), .inl (cA 20, 9, .inl (fun _ => 0))), ((u 8), .inl (cA 23, 8, .inr (.inl (fun _ => 0)))), ((u 9), .inl (cA 23, 8, .inr (.inl (fun _ => 0)))), ((u 10), .inl (cA 20, 9, .inl (fun _ => 0))), ((u 11), .inl (cA 20, 9, .inl (fun _ => 0))), ((u 12), .inl (cA 20, 512, .inl (fun _ => 0))), ((u 13), .inl (cA 20, 6, .inl (fun _ => 0))), ((u 14), .inl (cA 20, 6, .inl (fun _ => 0))), ((u 15), .inl (cA 20, 4, .inl tk8)), ((u 16), .inl (cA 20, 4, .inl (fun _ => 0))), ((u 17), .inl (cA 23, 160, .inr (.inl (fun _ => 0))))]
set_option maxRecDepth 100000 in
set_option maxHeartbeats 4000000 in
theorem n_X11 {l : Launch} {D : va_G} {cA : Nat → ClassId} {h : Nat} : nMet l yX11_init cX11_init 2 (1, 20, 18, 4639) D cA [.ref h] [(h, .inr (11, [.null, .null, .null, .int 0, .null, .null, .int 0, .int 0, .int 0, .int 0, .int 0, .int 0, .int 0, .int 0, .int 0, .int 0, .long 0, .long 0, .long 0, .null, .null, .null, .null, .null, .long 0, .long 0, .long 0, .null, .null, .null, .null, .null, .int 0, .null, .null, .null]))] (mdW cA h) := by
  refine n_ofW (by decide) (Nat.le_of_ble_eq_true rfl) ?_
  intro p e s m below meth c F hm hA1 hA2
  have hAO := And.intro hA1 hA2
  generalize va_A _ s.heap.size = A at *
  refine n_ws (ws' := (h, .inr (11, [.null, .null, .null, .int 0, .null, .null, .int 0, .int 0, .int 0, .int 0, .int 0, .int 0, .int 0, .int 0, .int 0, .int 0, .long 0, .long 0, .long 0, .null, .null, .null, .null, .null, .long 0, .long 0, .long 0, .null, .null, .null, .null, .null, .int 0, .null, .null, .null])) :: ([])) (cells' := 0) (slots' := 0) rfl rfl rfl ?_
  refine n_aln (k := 0) F (by decide +kernel) rfl (j := 0) rfl ?_
  refine n_obj (idx := 1) F (by decide +kernel) (mBW_of 1571 (by decide +kernel)) ⟨by decide, by decide⟩ (by decide) ?_
  refine n_aln (k := 0) F (by decide +kernel) rfl (j := 0) rfl ?_
  refine n_si (x := 635) (v := 635) F (by decide +kernel) (by decide) ?_
  refine n_newa (atype := .int) (ty := .int) (k0 := 0) (N' := 635) (a0 := (635, .inl (fun _ => 0))) F (by decide +kernel) (mBW_of 226 (by decide +kernel)) rfl rfl (fun _ => rfl) (by decide) (by decide) (Nat.le_of_ble_eq_true rfl) ⟨by decide, by decide⟩ (fun q1 => ?_)
  refine n_put (idx := 9) (ci := 11) (k := 0) (fs' := [.ref q1, .null, .null, .int 0, .null, .null, .int 0, .int 0, .int 0, .int 0, .int 0, .int 0, .int 0, .int 0, .int 0, .int 0, .long 0, .long 0, .long 0, .null, .null, .null, .null, .null, .long 0, .long 0, .long 0, .null, .null, .null, .null, .null, .int 0, .null, .null, .null]) (ty := (.array .int)) F hm.1 (by decide +kernel) rfl (by decide) (mBW_of 1575 (by decide +kernel)) rfl (by decide +kernel) rfl rfl (Nat.le_of_ble_eq_true rfl) rfl ?_
  refine n_aln (k := 0) F (by decide +kernel) rfl (j := 0) rfl ?_
  refine n_si (x := 1905) (v := 1905) F (by decide +kernel) (by decide) ?_
  refine n_newa (atype := .int) (ty := .int) (k0 := 0) (N' := 1905) (a0 := (1905, .inl (fun _ => 0))) F (by decide +kernel) (mBW_of 226 (by decide +kernel)) rfl rfl (fun _ => rfl) (by decide) (by decide) (Nat.le_of_ble_eq_true rfl) ⟨by decide, by decide⟩ (fun q2 => ?_)
  refine n_put (idx := 13) (ci := 11) (k := 1) (fs' := [.ref q1, .ref q2, .null, .int 0, .null, .null, .int 0, .int 0, .int 0, .int 0, .int 0, .int 0, .int 0, .int 0, .int 0, .int 0, .long 0, .long 0, .long 0, .null, .null, .null, .null, .null, .long 0, .long 0, .long 0, .null, .null, .null, .null, .null, .int 0, .null, .null, .null]) (ty := (.array .int)) F hm.1 (by decide +kernel) rfl (by decide) (mBW_of 1576 (by decide +kernel)) rfl (by decide +kernel) rfl rfl (Nat.le_of_ble_eq_true rfl) rfl ?_
  refine n_aln (k := 0) F (by decide +kernel) rfl (j := 0) rfl ?_
  refine n_ic (x := 3) (v := 3) F (by decide +kernel) (by decide) ?_
  refine n_newa (atype := .boolean) (ty := .boolean) (k0 := 2) (N' := 3) (a0 := (3, .inl (fun _ => 0))) F (by decide +kernel) (mBW_of 1684 (by decide +kernel)) rfl rfl (fun _ => rfl) (by decide) (by decide) (Nat.le_of_ble_eq_true rfl) ⟨by decide, by decide⟩ (fun q3 => ?_)
  refine n_put (idx := 16) (ci := 11) (k := 2) (fs' := [.ref q1, .ref q2, .ref q3, .int 0, .null, .null, .int 0, .int 0, .int 0, .int 0, .int 0, .int 0, .int 0, .int 0, .int 0, .int 0, .long 0, .long 0, .long 0, .null, .null, .null, .null, .null, .long 0, .long 0, .long 0, .null, .null, .null, .null, .null, .int 0, .null, .null, .null]) (ty := (.array .boolean)) F hm.1 (by decide +kernel) rfl (by decide) (mBW_of 1577 (by decide +kernel)) rfl (by decide +kernel) rfl rfl (Nat.le_of_ble_eq_true rfl) rfl ?_
  refine n_aln (k := 0) F (by decide +kernel) rfl (j := 0) rfl ?_
  refine n_si (x := 800) (v := 800) F (by decide +kernel) (by decide) ?_
  refine n_newa (atype := .int) (ty := .int) (k0 := 0) (N' := 800) (a0 := (800, .inl (fun _ => 0))) F (by decide +kernel) (mBW_of 226 (by decide +kernel)) rfl rfl (fun _ => rfl) (by decide) (by decide) (Nat.le_of_ble_eq_true rfl) ⟨by decide, by decide⟩ (fun q4 => ?_)
  refine n_put (idx := 20) (ci := 11) (k := 4) (fs' := [.ref q1, .ref q2, .ref q3, .int 0, .ref q4, .null, .int 0, .int 0, .int 0, .int 0, .int 0, .int 0, .int 0, .int 0, .int 0, .int 0, .long 0, .long 0, .long 0, .null, .null, .null, .null, .null, .long 0, .long 0, .long 0, .null, .null, .null, .null, .null, .int 0, .null, .null, .null]) (ty := (.array .int)) F hm.1 (by decide +kernel) rfl (by decide) (mBW_of 1579 (by decide +kernel)) rfl (by decide +kernel) rfl rfl (Nat.le_of_ble_eq_true rfl) rfl ?_
  refine n_aln (k := 0) F (by decide +kernel) rfl (j := 0) rfl ?_
  refine n_si (x := 550) (v := 550) F (by decide +kernel) (by decide) ?_
  refine n_newa (atype := .int) (ty := .int) (k0 := 0) (N' := 550) (a0 := (550, .inl (fun _ => 0))) F (by decide +kernel) (mBW_of 226 (by decide +kernel)) rfl rfl (fun _ => rfl) (by decide) (by decide) (Nat.le_of_ble_eq_true rfl) ⟨by decide, by decide⟩ (fun q5 => ?_)
  refine n_put (idx := 23) (ci := 11) (k := 5) (fs' := [.ref q1, .ref q2, .ref q3, .int 0, .ref q4, .ref q5, .int 0, .int 0, .int 0, .int 0, .int 0, .int 0, .int 0, .int 0, .int 0, .int 0, .long 0, .long 0, .long 0, .null, .null, .null, .null, .null, .long 0, .long 0, .long 0, .null, .null, .null, .null, .null, .int 0, .null, .null, .null]) (ty := (.array .int)) F hm.1 (by decide +kernel) rfl (by decide) (mBW_of 1580 (by decide +kernel)) rfl (by decide +kernel) rfl rfl (Nat.le_of_ble_eq_true rfl) rfl ?_
  refine n_aln (k := 0) F (by decide +kernel) rfl (j := 0) rfl ?_
  refine n_ic (x := -1) (v := (-1)) F (by decide +kernel) (by decide) ?_
  refine n_put (idx := 26) (ci := 11) (k := 15) (fs' := [.ref q1, .ref q2, .ref q3, .int 0, .ref q4, .ref q5, .int 0, .int 0, .int 0, .int 0, .int 0, .int 0, .int 0, .int 0, .int 0, .int (-1), .long 0, .long 0, .long 0, .null, .null, .null, .null, .null, .long 0, .long 0, .long 0, .null, .null, .null, .null, .null, .int 0, .null, .null, .null]) (ty := .int) F hm.1 (by decide +kernel) rfl (by decide) (mBW_of 1590 (by decide +kernel)) rfl (by decide +kernel) rfl rfl (Nat.le_of_ble_eq_true rfl) rfl ?_
  refine n_aln (k := 0) F (by decide +kernel) rfl (j := 0) rfl ?_
  refine n_ic (x := 2) (v := 2) F (by decide +kernel) (by decide) ?_
  refine n_newa (atype := .int) (ty := .int) (k0 := 0) (N' := 2) (a0 := (2, .inl (fun _ => 0))) F (by decide +kernel) (mBW_of 226 (by decide +kernel)) rfl rfl (fun _ => rfl) (by decide) (by decide) (Nat.le_of_ble_eq_true rfl) ⟨by decide, by decide⟩ (fun q6 => ?_)
  refine n_put (idx := 30) (ci := 11) (k := 19) (fs' := [.ref q1, .ref q2, .ref q3, .int 0, .ref q4, .ref q5, .int 0, .int 0, .int 0, .int 0, .int 0, .int 0, .int 0, .int 0, .int 0, .int (-1), .long 0, .long 0, .long 0, .ref q6, .null, .null, .null, .null, .long 0, .long 0, .long 0, .null, .null, .null, .null, .null, .int 0, .null, .null, .null]) (ty := (.array .int)) F hm.1 (by decide +kernel) rfl (by decide) (mBW_of 1594 (by decide +kernel)) rfl (by decide +kernel) rfl rfl (Nat.le_of_ble_eq_true rfl) rfl ?_
  refine n_aln (k := 0) F (by decide +kernel) rfl (j := 0) rfl ?_
  refine n_bi (x := 9) (v := 9) F (by decide +kernel) (by decide) ?_
  refine n_newa (atype := .int) (ty := .int) (k0 := 0) (N' := 9) (a0 := (9, .inl (fun _ => 0))) F (by decide +kernel) (mBW_of 226 (by decide +kernel)) rfl rfl (fun _ => rfl) (by decide) (by decide) (Nat.le_of_ble_eq_true rfl) ⟨by decide, by decide⟩ (fun q7 => ?_)
  refine n_put (idx := 33) (ci := 11) (k := 20) (fs' := [.ref q1, .ref q2, .ref q3, .int 0, .ref q4, .ref q5, .int 0, .int 0, .int 0, .int 0, .int 0, .int 0, .int 0, .int 0, .int 0, .int (-1), .long 0, .long 0, .long 0, .ref q6, .ref q7, .null, .null, .null, .long 0, .long 0, .long 0, .null, .null, .null, .null, .null, .int 0, .null, .null, .null]) (ty := (.array .int)) F hm.1 (by decide +kernel) rfl (by decide) (mBW_of 1595 (by decide +kernel)) rfl (by decide +kernel) rfl rfl (Nat.le_of_ble_eq_true rfl) rfl ?_
  refine n_aln (k := 0) F (by decide +kernel) rfl (j := 0) rfl ?_
  refine n_bi (x := 9) (v := 9) F (by decide +kernel) (by decide) ?_
  refine n_newa (atype := .int) (ty := .int) (k0 := 0) (N' := 9) (a0 := (9, .inl (fun _ => 0))) F (by decide +kernel) (mBW_of 226 (by decide +kernel)) rfl rfl (fun _ => rfl) (by decide) (by decide) (Nat.le_of_ble_eq_true rfl) ⟨by decide, by decide⟩ (fun q8 => ?_)
  refine n_put (idx := 36) (ci := 11) (k := 21) (fs' := [.ref q1, .ref q2, .ref q3, .int 0, .ref q4, .ref q5, .int 0, .int 0, .int 0, .int 0, .int 0, .int 0, .int 0, .int 0, .int 0, .int (-1), .long 0, .long 0, .long 0, .ref q6, .ref q7, .ref q8, .null, .null, .long 0, .long 0, .long 0, .null, .null, .null, .null, .null, .int 0, .null, .null, .null]) (ty := (.array .int)) F hm.1 (by decide +kernel) rfl (by decide) (mBW_of 1596 (by decide +kernel)) rfl (by decide +kernel) rfl rfl (Nat.le_of_ble_eq_true rfl) rfl ?_
  refine n_aln (k := 0) F (by decide +kernel) rfl (j := 0) rfl ?_
  refine n_bi (x := 8) (v := 8) F (by decide +kernel) (by decide) ?_
  refine n_newa (atype := .long) (ty := .long) (k0 := 3) (N' := 8) (a0 := (8, .inr (.inl (fun _ => 0)))) F (by decide +kernel) (mBW_of 1505 (by decide +kernel)) rfl rfl (fun _ => rfl) (by decide) (by decide) (Nat.le_of_ble_eq_true rfl) ⟨by decide, by decide⟩ (fun q9 => ?_)
  refine n_put (idx := 39) (ci := 11) (k := 22) (fs' := [.ref q1, .ref q2, .ref q3, .int 0, .ref q4, .ref q5, .int 0, .int 0, .int 0, .int 0, .int 0, .int 0, .int 0, .int 0, .int 0, .int (-1), .long 0, .long 0, .long 0, .ref q6, .ref q7, .ref q8, .ref q9, .null, .long 0, .long 0, .long 0, .null, .null, .null, .null, .null, .int 0, .null, .null, .null]) (ty := (.array .long)) F hm.1 (by decide +kernel) rfl (by decide) (mBW_of 1597 (by decide +kernel)) rfl (by decide +kernel) rfl rfl (Nat.le_of_ble_eq_true rfl) rfl ?_
  refine n_aln (k := 0) F (by decide +kernel) rfl (j := 0) rfl ?_
  refine n_bi (x := 8) (v := 8) F (by decide +kernel) (by decide) ?_
  refine n_newa (atype := .long) (ty := .long) (k0 := 3) (N' := 8) (a0 := (8, .inr (.inl (fun _ => 0)))) F (by decide +kernel) (mBW_of 1505 (by decide +kernel)) rfl rfl (fun _ => rfl) (by decide) (by decide) (Nat.le_of_ble_eq_true rfl) ⟨by decide, by decide⟩ (fun q10 => ?_)
  refine n_put (idx := 43) (ci := 11) (k := 23) (fs' := [.ref q1, .ref q2, .ref q3, .int 0, .ref q4, .ref q5, .int 0, .int 0, .int 0, .int 0, .int 0, .int 0, .int 0, .int 0, .int 0, .int (-1), .long 0, .long 0, .long 0, .ref q6, .ref q7, .ref q8, .ref q9, .ref q10, .long 0, .long 0, .long 0, .null, .null, .null, .null, .null, .int 0, .null, .null, .null]) (ty := (.array .long)) F hm.1 (by decide +kernel) rfl (by decide) (mBW_of 1598 (by decide +kernel)) rfl (by decide +kernel) rfl rfl (Nat.le_of_ble_eq_true rfl) rfl ?_
  refine n_aln (k := 0) F (by decide +kernel) rfl (j := 0) rfl ?_
  refine n_bi (x := 9) (v := 9) F (by decide +kernel) (by decide) ?_
  refine n_newa (atype := .int) (ty := .int) (k0 := 0) (N' := 9) (a0 := (9, .inl (fun _ => 0))) F (by decide +kernel) (mBW_of 226 (by decide +kernel)) rfl rfl (fun _ => rfl) (by decide) (by decide) (Nat.le_of_ble_eq_true rfl) ⟨by decide, by decide⟩ (fun q11 => ?_)
  refine n_put (idx := 46) (ci := 11) (k := 27) (fs' := [.ref q1, .ref q2, .ref q3, .int 0, .ref q4, .ref q5, .int 0, .int 0, .int 0, .int 0, .int 0, .int 0, .int 0, .int 0, .int 0, .int (-1), .long 0, .long 0, .long 0, .ref q6, .ref q7, .ref q8, .ref q9, .ref q10, .long 0, .long 0, .long 0, .ref q11, .null, .null, .null, .null, .int 0, .null, .null, .null]) (ty := (.array .int)) F hm.1 (by decide +kernel) rfl (by decide) (mBW_of 1602 (by decide +kernel)) rfl (by decide +kernel) rfl rfl (Nat.le_of_ble_eq_true rfl) rfl ?_
  refine n_aln (k := 0) F (by decide +kernel) rfl (j := 0) rfl ?_
  refine n_bi (x := 9) (v := 9) F (by decide +kernel) (by decide) ?_
  refine n_newa (atype := .int) (ty := .int) (k0 := 0) (N' := 9) (a0 := (9, .inl (fun _ => 0))) F (by decide +kernel) (mBW_of 226 (by decide +kernel)) rfl rfl (fun _ => rfl) (by decide) (by decide) (Nat.le_of_ble_eq_true rfl) ⟨by decide, by decide⟩ (fun q12 => ?_)
  refine n_put (idx := 49) (ci := 11) (k := 28) (fs' := [.ref q1, .ref q2, .ref q3, .int 0, .ref q4, .ref q5, .int 0, .int 0, .int 0, .int 0, .int 0, .int 0, .int 0, .int 0, .int 0, .int (-1), .long 0, .long 0, .long 0, .ref q6, .ref q7, .ref q8, .ref q9, .ref q10, .long 0, .long 0, .long 0, .ref q11, .ref q12, .null, .null, .null, .int 0, .null, .null, .null]) (ty := (.array .int)) F hm.1 (by decide +kernel) rfl (by decide) (mBW_of 1603 (by decide +kernel)) rfl (by decide +kernel) rfl rfl (Nat.le_of_ble_eq_true rfl) rfl ?_
  refine n_aln (k := 0) F (by decide +kernel) rfl (j := 0) rfl ?_
  refine n_si (x := 512) (v := 512) F (by decide +kernel) (by decide) ?_
  refine n_newa (atype := .int) (ty := .int) (k0 := 0) (N' := 512) (a0 := (512, .inl (fun _ => 0))) F (by decide +kernel) (mBW_of 226 (by decide +kernel)) rfl rfl (fun _ => rfl) (by decide) (by decide) (Nat.le_of_ble_eq_true rfl) ⟨by decide, by decide⟩ (fun q13 => ?_)
  refine n_put (idx := 52) (ci := 11) (k := 29) (fs' := [.ref q1, .ref q2, .ref q3, .int 0, .ref q4, .ref q5, .int 0, .int 0, .int 0, .int 0, .int 0, .int 0, .int 0, .int 0, .int 0, .int (-1), .long 0, .long 0, .long 0, .ref q6, .ref q7, .ref q8, .ref q9, .ref q10, .long 0, .long 0, .long 0, .ref q11, .ref q12, .ref q13, .null, .null, .int 0, .null, .null, .null]) (ty := (.array .int)) F hm.1 (by decide +kernel) rfl (by decide) (mBW_of 1604 (by decide +kernel)) rfl (by decide +kernel) rfl rfl (Nat.le_of_ble_eq_true rfl) rfl ?_
  refine n_aln (k := 0) F (by decide +kernel) rfl (j := 0) rfl ?_
  refine n_bi (x := 6) (v := 6) F (by decide +kernel) (by decide) ?_
  refine n_newa (atype := .int) (ty := .int) (k0 := 0) (N' := 6) (a0 := (6, .inl (fun _ => 0))) F (by decide +kernel) (mBW_of 226 (by decide +kernel)) rfl rfl (fun _ => rfl) (by decide) (by decide) (Nat.le_of_ble_eq_true rfl) ⟨by decide, by decide⟩ (fun q14 => ?_)
  refine n_put (idx := 55) (ci := 11) (k := 30) (fs' := [.ref q1, .ref q2, .ref q3, .int 0, .ref q4, .ref q5, .int 0, .int 0, .int 0, .int 0, .int 0, .int 0, .int 0, .int 0, .int 0, .int (-1), .long 0, .long 0, .long 0, .ref q6, .ref q7, .ref q8, .ref q9, .ref q10, .long 0, .long 0, .long 0, .ref q11, .ref q12, .ref q13, .ref q14, .null, .int 0, .null, .null, .null]) (ty := (.array .int)) F hm.1 (by decide +kernel) rfl (by decide) (mBW_of 1605 (by decide +kernel)) rfl (by decide +kernel) rfl rfl (Nat.le_of_ble_eq_true rfl) rfl ?_
  refine n_aln (k := 0) F (by decide +kernel) rfl (j := 0) rfl ?_
  refine n_bi (x := 6) (v := 6) F (by decide +kernel) (by decide) ?_
  refine n_newa (atype := .int) (ty := .int) (k0 := 0) (N' := 6) (a0 := (6, .inl (fun _ => 0))) F (by decide +kernel) (mBW_of 226 (by decide +kernel)) rfl rfl (fun _ => rfl) (by decide) (by decide) (Nat.le_of_ble_eq_true rfl) ⟨by decide, by decide⟩ (fun q15 => ?_)
  refine n_put (idx := 58) (ci := 11) (k := 31) (fs' := [.ref q1, .ref q2, .ref q3, .int 0, .ref q4, .ref q5, .int 0, .int 0, .int 0, .int 0, .int 0, .int 0, .int 0, .int 0, .int 0, .int (-1), .long 0, .long 0, .long 0, .ref q6, .ref q7, .ref q8, .ref q9, .ref q10, .long 0, .long 0, .long 0, .ref q11, .ref q12, .ref q13, .ref q14, .ref q15, .int 0, .null, .null, .null]) (ty := (.array .int)) F hm.1 (by decide +kernel) rfl (by decide) (mBW_of 1606 (by decide +kernel)) rfl (by decide +kernel) rfl rfl (Nat.le_of_ble_eq_true rfl) rfl ?_
  refine n_aln (k := 0) F (by decide +kernel) rfl (j := 0) rfl ?_
  refine n_ic (x := 4) (v := 4) F (by decide +kernel) (by decide) ?_
  refine n_newa (atype := .int) (ty := .int) (k0 := 0) (N' := 4) (a0 := (4, .inl (fun _ => 0))) F (by decide +kernel) (mBW_of 226 (by decide +kernel)) rfl rfl (fun _ => rfl) (by decide) (by decide) (Nat.le_of_ble_eq_true rfl) ⟨by decide, by decide⟩ (fun q16 => ?_)
  refine n_dup F (by decide +kernel) ?_
  refine n_ic (x := 0) (v := 0) F (by decide +kernel) (by decide) ?_
  refine n_ic (x := -1) (v := (-1)) F (by decide +kernel) (by decide) ?_
  refine n_ia (j := 16) (n := 4) (f := (fun _ => 0)) (o' := .inl (cA 20, 4, .inl tk5)) F (by decide +kernel) rfl (by unfold vp_in; decide) rfl ?_
  refine n_ws (ws' := (h, .inr (11, [.ref q1, .ref q2, .ref q3, .int 0, .ref q4, .ref q5, .int 0, .int 0, .int 0, .int 0, .int 0, .int 0, .int 0, .int 0, .int 0, .int (-1), .long 0, .long 0, .long 0, .ref q6, .ref q7, .ref q8, .ref q9, .ref q10, .long 0, .long 0, .long 0, .ref q11, .ref q12, .ref q13, .ref q14, .ref q15, .int 0, .null, .null, .null])) :: ([(q1, .inl (cA 20, 635, .inl (fun _ => 0))), (q2, .inl (cA 20, 1905, .inl (fun _ => 0))), (q3, .inl (cA 22, 3, .inl (fun _ => 0))), (q4, .inl (cA 20, 800, .inl (fun _ => 0))), (q5, .inl (cA 20, 550, .inl (fun _ => 0))), (q6, .inl (cA 20, 2, .inl (fun _ => 0))), (q7, .inl (cA 20, 9, .inl (fun _ => 0))), (q8, .inl (cA 20, 9, .inl (fun _ => 0))), (q9, .inl (cA 23, 8, .inr (.inl (fun _ => 0)))), (q10, .inl (cA 23, 8, .inr (.inl (fun _ => 0)))), (q11, .inl (cA 20, 9, .inl (fun _ => 0))), (q12, .inl (cA 20, 9, .inl (fun _ => 0))), (q13, .inl (cA 20, 512, .inl (fun _ => 0))), (q14, .inl (cA 20, 6, .inl (fun _ => 0))), (q15, .inl (cA 20, 6, .inl (fun _ => 0))), (q16, .inl (cA 20, 4, .inl tk5))])) (cells' := 16) (slots' := 4475) rfl rfl rfl ?_
  refine n_dup F (by decide +kernel) ?_
  refine n_ic (x := 1) (v := 1) F (by decide +kernel) (by decide) ?_
  refine n_ic (x := -1) (v := (-1)) F (by decide +kernel) (by decide) ?_
  refine n_ia (j := 16) (n := 4) (f := tk5) (o' := .inl (cA 20, 4, .inl tk6)) F (by decide +kernel) rfl (by unfold vp_in; decide) rfl ?_
  refine n_ws (ws' := (h, .inr (11, [.ref q1, .ref q2, .ref q3, .int 0, .ref q4, .ref q5, .int 0, .int 0, .int 0, .int 0, .int 0, .int 0, .int 0, .int 0, .int 0, .int (-1), .long 0, .long 0, .long 0, .ref q6, .ref q7, .ref q8, .ref q9, .ref q10, .long 0, .long 0, .long 0, .ref q11, .ref q12, .ref q13, .ref q14, .ref q15, .int 0, .null, .null, .null])) :: ([(q1, .inl (cA 20, 635, .inl (fun _ => 0))), (q2, .inl (cA 20, 1905, .inl (fun _ => 0))), (q3, .inl (cA 22, 3, .inl (fun _ => 0))), (q4, .inl (cA 20, 800, .inl (fun _ => 0))), (q5, .inl (cA 20, 550, .inl (fun _ => 0))), (q6, .inl (cA 20, 2, .inl (fun _ => 0))), (q7, .inl (cA 20, 9, .inl (fun _ => 0))), (q8, .inl (cA 20, 9, .inl (fun _ => 0))), (q9, .inl (cA 23, 8, .inr (.inl (fun _ => 0)))), (q10, .inl (cA 23, 8, .inr (.inl (fun _ => 0)))), (q11, .inl (cA 20, 9, .inl (fun _ => 0))), (q12, .inl (cA 20, 9, .inl (fun _ => 0))), (q13, .inl (cA 20, 512, .inl (fun _ => 0))), (q14, .inl (cA 20, 6, .inl (fun _ => 0))), (q15, .inl (cA 20, 6, .inl (fun _ => 0))), (q16, .inl (cA 20, 4, .inl tk6))])) (cells' := 16) (slots' := 4475) rfl rfl rfl ?_
  refine n_dup F (by decide +kernel) ?_
  refine n_ic (x := 2) (v := 2) F (by decide +kernel) (by decide) ?_
  refine n_ic (x := -1) (v := (-1)) F (by decide +kernel) (by decide) ?_
  refine n_ia (j := 16) (n := 4) (f := tk6) (o' := .inl (cA 20, 4, .inl tk7)) F (by decide +kernel) rfl (by unfold vp_in; decide) rfl ?_
  refine n_ws (ws' := (h, .inr (11, [.ref q1, .ref q2, .ref q3, .int 0, .ref q4, .ref q5, .int 0, .int 0, .int 0, .int 0, .int 0, .int 0, .int 0, .int 0, .int 0, .int (-1), .long 0, .long 0, .long 0, .ref q6, .ref q7, .ref q8, .ref q9, .ref q10, .long 0, .long 0, .long 0, .ref q11, .ref q12, .ref q13, .ref q14, .ref q15, .int 0, .null, .null, .null])) :: ([(q1, .inl (cA 20, 635, .inl (fun _ => 0))), (q2, .inl (cA 20, 1905, .inl (fun _ => 0))), (q3, .inl (cA 22, 3, .inl (fun _ => 0))), (q4, .inl (cA 20, 800, .inl (fun _ => 0))), (q5, .inl (cA 20, 550, .inl (fun _ => 0))), (q6, .inl (cA 20, 2, .inl (fun _ => 0))), (q7, .inl (cA 20, 9, .inl (fun _ => 0))), (q8, .inl (cA 20, 9, .inl (fun _ => 0))), (q9, .inl (cA 23, 8, .inr (.inl (fun _ => 0)))), (q10, .inl (cA 23, 8, .inr (.inl (fun _ => 0)))), (q11, .inl (cA 20, 9, .inl (fun _ => 0))), (q12, .inl (cA 20, 9, .inl (fun _ => 0))), (q13, .inl (cA 20, 512, .inl (fun _ => 0))), (q14, .inl (cA 20, 6, .inl (fun _ => 0))), (q15, .inl (cA 20, 6, .inl (fun _ => 0))), (q16, .inl (cA 20, 4, .inl tk7))])) (cells' := 16) (slots' := 4475) rfl rfl rfl ?_
  refine n_dup F (by decide +kernel) ?_
  refine n_ic (x := 3) (v := 3) F (by decide +kernel) (by decide) ?_
  refine n_ic (x := -1) (v := (-1)) F (by decide +kernel) (by decide) ?_
  refine n_ia (j := 16) (n := 4) (f := tk7) (o' := .inl (cA 20, 4, .inl tk8)) F (by decide +kernel) rfl (by unfold vp_in; decide) rfl ?_
  refine n_ws (ws' := (h, .inr (11, [.ref q1, .ref q2, .ref q3, .int 0, .ref q4, .ref q5, .int 0, .int 0, .int 0, .int 0, .int 0, .int 0, .int 0, .int 0, .int 0, .int (-1), .long 0, .long 0, .long 0, .ref q6, .ref q7, .ref q8, .ref q9, .ref q10, .long 0, .long 0, .long 0, .ref q11, .ref q12, .ref q13, .ref q14, .ref q15, .int 0, .null, .null, .null])) :: ([(q1, .inl (cA 20, 635, .inl (fun _ => 0))), (q2, .inl (cA 20, 1905, .inl (fun _ => 0))), (q3, .inl (cA 22, 3, .inl (fun _ => 0))), (q4, .inl (cA 20, 800, .inl (fun _ => 0))), (q5, .inl (cA 20, 550, .inl (fun _ => 0))), (q6, .inl (cA 20, 2, .inl (fun _ => 0))), (q7, .inl (cA 20, 9, .inl (fun _ => 0))), (q8, .inl (cA 20, 9, .inl (fun _ => 0))), (q9, .inl (cA 23, 8, .inr (.inl (fun _ => 0)))), (q10, .inl (cA 23, 8, .inr (.inl (fun _ => 0)))), (q11, .inl (cA 20, 9, .inl (fun _ => 0))), (q12, .inl (cA 20, 9, .inl (fun _ => 0))), (q13, .inl (cA 20, 512, .inl (fun _ => 0))), (q14, .inl (cA 20, 6, .inl (fun _ => 0))), (q15, .inl (cA 20, 6, .inl (fun _ => 0))), (q16, .inl (cA 20, 4, .inl tk8))])) (cells' := 16) (slots' := 4475) rfl rfl rfl ?_
  refine n_put (idx := 61) (ci := 11) (k := 33) (fs' := [.ref q1, .ref q2, .ref q3, .int 0, .ref q4, .ref q5, .int 0, .int 0, .int 0, .int 0, .int 0, .int 0, .int 0, .int 0, .int 0, .int (-1), .long 0, .long 0, .long 0, .ref q6, .ref q7, .ref q8, .ref q9, .ref q10, .long 0, .long 0, .long 0, .ref q11, .ref q12, .ref q13, .ref q14, .ref q15, .int 0, .ref q16, .null, .null]) (ty := (.array .int)) F hm.1 (by decide +kernel) rfl (by decide) (mBW_of 1608 (by decide +kernel)) rfl (by decide +kernel) rfl rfl (Nat.le_of_ble_eq_true rfl) rfl ?_
  refine n_aln (k := 0) F (by decide +kernel) rfl (j := 0) rfl ?_
  refine n_ic (x := 4) (v := 4) F (by decide +kernel) (by decide) ?_
  refine n_newa (atype := .int) (ty := .int) (k0 := 0) (N' := 4) (a0 := (4, .inl (fun _ => 0))) F (by decide +kernel) (mBW_of 226 (by decide +kernel)) rfl rfl (fun _ => rfl) (by decide) (by decide) (Nat.le_of_ble_eq_true rfl) ⟨by decide, by decide⟩ (fun q17 => ?_)
  refine n_put (idx := 64) (ci := 11) (k := 34) (fs' := [.ref q1, .ref q2, .ref q3, .int 0, .ref q4, .ref q5, .int 0, .int 0, .int 0, .int 0, .int 0, .int 0, .int 0, .int 0, .int 0, .int (-1), .long 0, .long 0, .long 0, .ref q6, .ref q7, .ref q8, .ref q9, .ref q10, .long 0, .long 0, .long 0, .ref q11, .ref q12, .ref q13, .ref q14, .ref q15, .int 0, .ref q16, .ref q17, .null]) (ty := (.array .int)) F hm.1 (by decide +kernel) rfl (by decide) (mBW_of 1609 (by decide +kernel)) rfl (by decide +kernel) rfl rfl (Nat.le_of_ble_eq_true rfl) rfl ?_
  refine n_aln (k := 0) F (by decide +kernel) rfl (j := 0) rfl ?_
  refine n_si (x := 160) (v := 160) F (by decide +kernel) (by decide) ?_
  refine n_newa (atype := .long) (ty := .long) (k0 := 3) (N' := 160) (a0 := (160, .inr (.inl (fun _ => 0)))) F (by decide +kernel) (mBW_of 1505 (by decide +kernel)) rfl rfl (fun _ => rfl) (by decide) (by decide) (Nat.le_of_ble_eq_true rfl) ⟨by decide, by decide⟩ (fun q18 => ?_)
  refine n_put (idx := 67) (ci := 11) (k := 35) (fs' := [.ref q1, .ref q2, .ref q3, .int 0, .ref q4, .ref q5, .int 0, .int 0, .int 0, .int 0, .int 0, .int 0, .int 0, .int 0, .int 0, .int (-1), .long 0, .long 0, .long 0, .ref q6, .ref q7, .ref q8, .ref q9, .ref q10, .long 0, .long 0, .long 0, .ref q11, .ref q12, .ref q13, .ref q14, .ref q15, .int 0, .ref q16, .ref q17, .ref q18]) (ty := (.array .long)) F hm.1 (by decide +kernel) rfl (by decide) (mBW_of 1610 (by decide +kernel)) rfl (by decide +kernel) rfl rfl (Nat.le_of_ble_eq_true rfl) rfl ?_
  refine n_aln (k := 0) F (by decide +kernel) rfl (j := 0) rfl ?_
  refine n_get (idx := 9) (ci := 11) (k := 0) (j := 0) (fs := [.ref q1, .ref q2, .ref q3, .int 0, .ref q4, .ref q5, .int 0, .int 0, .int 0, .int 0, .int 0, .int 0, .int 0, .int 0, .int 0, .int (-1), .long 0, .long 0, .long 0, .ref q6, .ref q7, .ref q8, .ref q9, .ref q10, .long 0, .long 0, .long 0, .ref q11, .ref q12, .ref q13, .ref q14, .ref q15, .int 0, .ref q16, .ref q17, .ref q18]) (v := .ref q1) F (by decide +kernel) rfl rfl (by decide) (mBW_of 1575 (by decide +kernel)) rfl ?_
  refine n_one (idx := 70) (n := 1) (av := [.ref q1]) (j := 1) F hAO n_X11_begins rfl (by decide +kernel) ⟨(mBW_of 1574 (by decide +kernel)), (mBW_of 116 (by decide +kernel)), by decide +kernel, ⟨by decide, by decide⟩⟩ (mBW_of 1572 (by decide +kernel)) (mBW_of 1573 (by decide +kernel)) rfl (Nat.le_of_ble_eq_true rfl) ⟨by decide, by decide⟩ ?_
  refine n_ws (ws' := (h, .inr (11, [.ref q1, .ref q2, .ref q3, .int 0, .ref q4, .ref q5, .int 0, .int 0, .int 0, .int 0, .int 0, .int 0, .int 0, .int 0, .int 0, .int (-1), .long 0, .long 0, .long 0, .ref q6, .ref q7, .ref q8, .ref q9, .ref q10, .long 0, .long 0, .long 0, .ref q11, .ref q12, .ref q13, .ref q14, .ref q15, .int 0, .ref q16, .ref q17, .ref q18])) :: ([(q1, .inl (cA 20, 635, .inl tk4)), (q2, .inl (cA 20, 1905, .inl (fun _ => 0))), (q3, .inl (cA 22, 3, .inl (fun _ => 0))), (q4, .inl (cA 20, 800, .inl (fun _ => 0))), (q5, .inl (cA 20, 550, .inl (fun _ => 0))), (q6, .inl (cA 20, 2, .inl (fun _ => 0))), (q7, .inl (cA 20, 9, .inl (fun _ => 0))), (q8, .inl (cA 20, 9, .inl (fun _ => 0))), (q9, .inl (cA 23, 8, .inr (.inl (fun _ => 0)))), (q10, .inl (cA 23, 8, .inr (.inl (fun _ => 0)))), (q11, .inl (cA 20, 9, .inl (fun _ => 0))), (q12, .inl (cA 20, 9, .inl (fun _ => 0))), (q13, .inl (cA 20, 512, .inl (fun _ => 0))), (q14, .inl (cA 20, 6, .inl (fun _ => 0))), (q15, .inl (cA 20, 6, .inl (fun _ => 0))), (q16, .inl (cA 20, 4, .inl tk8)), (q17, .inl (cA 20, 4, .inl (fun _ => 0))), (q18, .inl (cA 23, 160, .inr (.inl (fun _ => 0))))])) (cells' := 18) (slots' := 4639) rfl rfl rfl ?_
  refine n_ic (x := 0) (v := 0) F (by decide +kernel) (by decide) ?_
  refine n_isn (k := 1) (lv' := [(1, .int 0), (0, .ref h)]) F (by decide +kernel) rfl (by decide) rfl ?_
  refine n_iln (k := 1) F (by decide +kernel) rfl (j := 0) rfl ?_
  refine n_bi (x := 9) (v := 9) F (by decide +kernel) (by decide) ?_
  refine n_get_lt (off := 84) (tgt := 267) F (by decide +kernel) (by decide) (by decide) ?_
  refine n_aln (k := 0) F (by decide +kernel) rfl (j := 1) rfl ?_
  refine n_get (idx := 9) (ci := 11) (k := 0) (j := 0) (fs := [.ref q1, .ref q2, .ref q3, .int 0, .ref q4, .ref q5, .int 0, .int 0, .int 0, .int 0, .int 0, .int 0, .int 0, .int 0, .int 0, .int (-1), .long 0, .long 0, .long 0, .ref q6, .ref q7, .ref q8, .ref q9, .ref q10, .long 0, .long 0, .long 0, .ref q11, .ref q12, .ref q13, .ref q14, .ref q15, .int 0, .ref q16, .ref q17, .ref q18]) (v := .ref q1) F (by decide +kernel) rfl rfl (by decide) (mBW_of 1575 (by decide +kernel)) rfl ?_
  refine n_si (x := 550) (v := 550) F (by decide +kernel) (by decide) ?_
  refine n_ic (x := 5) (v := 5) F (by decide +kernel) (by decide) ?_
  refine n_iln (k := 1) F (by decide +kernel) rfl (j := 0) rfl ?_
  refine n_mul (z := 0) F (by decide +kernel) (by decide) ?_
  refine n_add (z := 550) F (by decide +kernel) (by decide) ?_
  refine n_ic (x := -1) (v := (-1)) F (by decide +kernel) (by decide) ?_
  refine n_ia (j := 1) (n := 635) (f := tk4) (o' := .inl (cA 20, 635, .inl tk9)) F (by decide +kernel) rfl (by unfold vp_in; decide) rfl ?_
  refine n_ws (ws' := (h, .inr (11, [.ref q1, .ref q2, .ref q3, .int 0, .ref q4, .ref q5, .int 0, .int 0, .int 0, .int 0, .int 0, .int 0, .int 0, .int 0, .int 0, .int (-1), .long 0, .long 0, .long 0, .ref q6, .ref q7, .ref q8, .ref q9, .ref q10, .long 0, .long 0, .long 0, .ref q11, .ref q12, .ref q13, .ref q14, .ref q15, .int 0, .ref q16, .ref q17, .ref q18])) :: ([(q1, .inl (cA 20, 635, .inl tk9)), (q2, .inl (cA 20, 1905, .inl (fun _ => 0))), (q3, .inl (cA 22, 3, .inl (fun _ => 0))), (q4, .inl (cA 20, 800, .inl (fun _ => 0))), (q5, .inl (cA 20, 550, .inl (fun _ => 0))), (q6, .inl (cA 20, 2, .inl (fun _ => 0))), (q7, .inl (cA 20, 9, .inl (fun _ => 0))), (q8, .inl (cA 20, 9, .inl (fun _ => 0))), (q9, .inl (cA 23, 8, .inr (.inl (fun _ => 0)))), (q10, .inl (cA 23, 8, .inr (.inl (fun _ => 0)))), (q11, .inl (cA 20, 9, .inl (fun _ => 0))), (q12, .inl (cA 20, 9, .inl (fun _ => 0))), (q13, .inl (cA 20, 512, .inl (fun _ => 0))), (q14, .inl (cA 20, 6, .inl (fun _ => 0))), (q15, .inl (cA 20, 6, .inl (fun _ => 0))), (q16, .inl (cA 20, 4, .inl tk8)), (q17, .inl (cA 20, 4, .inl (fun _ => 0))), (q18, .inl (cA 23, 160, .inr (.inl (fun _ => 0))))])) (cells' := 18) (slots' := 4639) rfl rfl rfl ?_
  refine n_aln (k := 0) F (by decide +kernel) rfl (j := 1) rfl ?_
  refine n_get (idx := 9) (ci := 11) (k := 0) (j := 0) (fs := [.ref q1, .ref q2, .ref q3, .int 0, .ref q4, .ref q5, .int 0, .int 0, .int 0, .int 0, .int 0, .int 0, .int 0, .int 0, .int 0, .int (-1), .long 0, .long 0, .long 0, .ref q6, .ref q7, .ref q8, .ref q9, .ref q10, .long 0, .long 0, .long 0, .ref q11, .ref q12, .ref q13, .ref q14, .ref q15, .int 0, .ref q16, .ref q17, .ref q18]) (v := .ref q1) F (by decide +kernel) rfl rfl (by decide) (mBW_of 1575 (by decide +kernel)) rfl ?_
  refine n_si (x := 550) (v := 550) F (by decide +kernel) (by decide) ?_
  refine n_ic (x := 5) (v := 5) F (by decide +kernel) (by decide) ?_
  refine n_iln (k := 1) F (by decide +kernel) rfl (j := 0) rfl ?_
  refine n_mul (z := 0) F (by decide +kernel) (by decide) ?_
  refine n_add (z := 550) F (by decide +kernel) (by decide) ?_
  refine n_ic (x := 1) (v := 1) F (by decide +kernel) (by decide) ?_
  refine n_add (z := 551) F (by decide +kernel) (by decide) ?_
  refine n_ic (x := 3) (v := 3) F (by decide +kernel) (by decide) ?_
  refine n_ia (j := 1) (n := 635) (f := tk9) (o' := .inl (cA 20, 635, .inl tk10)) F (by decide +kernel) rfl (by unfold vp_in; decide) rfl ?_
  refine n_ws (ws' := (h, .inr (11, [.ref q1, .ref q2, .ref q3, .int 0, .ref q4, .ref q5, .int 0, .int 0, .int 0, .int 0, .int 0, .int 0, .int 0, .int 0, .int 0, .int (-1), .long 0, .long 0, .long 0, .ref q6, .ref q7, .ref q8, .ref q9, .ref q10, .long 0, .long 0, .long 0, .ref q11, .ref q12, .ref q13, .ref q14, .ref q15, .int 0, .ref q16, .ref q17, .ref q18])) :: ([(q1, .inl (cA 20, 635, .inl tk10)), (q2, .inl (cA 20, 1905, .inl (fun _ => 0))), (q3, .inl (cA 22, 3, .inl (fun _ => 0))), (q4, .inl (cA 20, 800, .inl (fun _ => 0))), (q5, .inl (cA 20, 550, .inl (fun _ => 0))), (q6, .inl (cA 20, 2, .inl (fun _ => 0))), (q7, .inl (cA 20, 9, .inl (fun _ => 0))), (q8, .inl (cA 20, 9, .inl (fun _ => 0))), (q9, .inl (cA 23, 8, .inr (.inl (fun _ => 0)))), (q10, .inl (cA 23, 8, .inr (.inl (fun _ => 0)))), (q11, .inl (cA 20, 9, .inl (fun _ => 0))), (q12, .inl (cA 20, 9, .inl (fun _ => 0))), (q13, .inl (cA 20, 512, .inl (fun _ => 0))), (q14, .inl (cA 20, 6, .inl (fun _ => 0))), (q15, .inl (cA 20, 6, .inl (fun _ => 0))), (q16, .inl (cA 20, 4, .inl tk8)), (q17, .inl (cA 20, 4, .inl (fun _ => 0))), (q18, .inl (cA 23, 160, .inr (.inl (fun _ => 0))))])) (cells' := 18) (slots' := 4639) rfl rfl rfl ?_
  refine n_aln (k := 0) F (by decide +kernel) rfl (j := 1) rfl ?_
  refine n_get (idx := 9) (ci := 11) (k := 0) (j := 0) (fs := [.ref q1, .ref q2, .ref q3, .int 0, .ref q4, .ref q5, .int 0, .int 0, .int 0, .int 0, .int 0, .int 0, .int 0, .int 0, .int 0, .int (-1), .long 0, .long 0, .long 0, .ref q6, .ref q7, .ref q8, .ref q9, .ref q10, .long 0, .long 0, .long 0, .ref q11, .ref q12, .ref q13, .ref q14, .ref q15, .int 0, .ref q16, .ref q17, .ref q18]) (v := .ref q1) F (by decide +kernel) rfl rfl (by decide) (mBW_of 1575 (by decide +kernel)) rfl ?_
  refine n_si (x := 550) (v := 550) F (by decide +kernel) (by decide) ?_
  refine n_ic (x := 5) (v := 5) F (by decide +kernel) (by decide) ?_
  refine n_iln (k := 1) F (by decide +kernel) rfl (j := 0) rfl ?_
  refine n_mul (z := 0) F (by decide +kernel) (by decide) ?_
  refine n_add (z := 550) F (by decide +kernel) (by decide) ?_
  refine n_ic (x := 2) (v := 2) F (by decide +kernel) (by decide) ?_
  refine n_add (z := 552) F (by decide +kernel) (by decide) ?_
  refine n_bi (x := 80) (v := 80) F (by decide +kernel) (by decide) ?_
  refine n_ia (j := 1) (n := 635) (f := tk10) (o' := .inl (cA 20, 635, .inl tk11)) F (by decide +kernel) rfl (by unfold vp_in; decide) rfl ?_
  refine n_ws (ws' := (h, .inr (11, [.ref q1, .ref q2, .ref q3, .int 0, .ref q4, .ref q5, .int 0, .int 0, .int 0, .int 0, .int 0, .int 0, .int 0, .int 0, .int 0, .int (-1), .long 0, .long 0, .long 0, .ref q6, .ref q7, .ref q8, .ref q9, .ref q10, .long 0, .long 0, .long 0, .ref q11, .ref q12, .ref q13, .ref q14, .ref q15, .int 0, .ref q16, .ref q17, .ref q18])) :: ([(q1, .inl (cA 20, 635, .inl tk11)), (q2, .inl (cA 20, 1905, .inl (fun _ => 0))), (q3, .inl (cA 22, 3, .inl (fun _ => 0))), (q4, .inl (cA 20, 800, .inl (fun _ => 0))), (q5, .inl (cA 20, 550, .inl (fun _ => 0))), (q6, .inl (cA 20, 2, .inl (fun _ => 0))), (q7, .inl (cA 20, 9, .inl (fun _ => 0))), (q8, .inl (cA 20, 9, .inl (fun _ => 0))), (q9, .inl (cA 23, 8, .inr (.inl (fun _ => 0)))), (q10, .inl (cA 23, 8, .inr (.inl (fun _ => 0)))), (q11, .inl (cA 20, 9, .inl (fun _ => 0))), (q12, .inl (cA 20, 9, .inl (fun _ => 0))), (q13, .inl (cA 20, 512, .inl (fun _ => 0))), (q14, .inl (cA 20, 6, .inl (fun _ => 0))), (q15, .inl (cA 20, 6, .inl (fun _ => 0))), (q16, .inl (cA 20, 4, .inl tk8)), (q17, .inl (cA 20, 4, .inl (fun _ => 0))), (q18, .inl (cA 23, 160, .inr (.inl (fun _ => 0))))])) (cells' := 18) (slots' := 4639) rfl rfl rfl ?_
  refine n_aln (k := 0) F (by decide +kernel) rfl (j := 1) rfl ?_
  refine n_get (idx := 9) (ci := 11) (k := 0) (j := 0) (fs := [.ref q1, .ref q2, .ref q3, .int 0, .ref q4, .ref q5, .int 0, .int 0, .int 0, .int 0, .int 0, .int 0, .int 0, .int 0, .int 0, .int (-1), .long 0, .long 0, .long 0, .ref q6, .ref q7, .ref q8, .ref q9, .ref q10, .long 0, .long 0, .long 0, .ref q11, .ref q12, .ref q13, .ref q14, .ref q15, .int 0, .ref q16, .ref q17, .ref q18]) (v := .ref q1) F (by decide +kernel) rfl rfl (by decide) (mBW_of 1575 (by decide +kernel)) rfl ?_
  refine n_si (x := 550) (v := 550) F (by decide +kernel) (by decide) ?_
  refine n_ic (x := 5) (v := 5) F (by decide +kernel) (by decide) ?_
  refine n_iln (k := 1) F (by decide +kernel) rfl (j := 0) rfl ?_
  refine n_mul (z := 0) F (by decide +kernel) (by decide) ?_
  refine n_add (z := 550) F (by decide +kernel) (by decide) ?_
  refine n_ic (x := 3) (v := 3) F (by decide +kernel) (by decide) ?_
  refine n_add (z := 553) F (by decide +kernel) (by decide) ?_
  refine n_bi (x := 10) (v := 10) F (by decide +kernel) (by decide) ?_
  refine n_ia (j := 1) (n := 635) (f := tk11) (o' := .inl (cA 20, 635, .inl tk12)) F (by decide +kernel) rfl (by unfold vp_in; decide) rfl ?_
  refine n_ws (ws' := (h, .inr (11, [.ref q1, .ref q2, .ref q3, .int 0, .ref q4, .ref q5, .int 0, .int 0, .int 0, .int 0, .int 0, .int 0, .int 0, .int 0, .int 0, .int (-1), .long 0, .long 0, .long 0, .ref q6, .ref q7, .ref q8, .ref q9, .ref q10, .long 0, .long 0, .long 0, .ref q11, .ref q12, .ref q13, .ref q14, .ref q15, .int 0, .ref q16, .ref q17, .ref q18])) :: ([(q1, .inl (cA 20, 635, .inl tk12)), (q2, .inl (cA 20, 1905, .inl (fun _ => 0))), (q3, .inl (cA 22, 3, .inl (fun _ => 0))), (q4, .inl (cA 20, 800, .inl (fun _ => 0))), (q5, .inl (cA 20, 550, .inl (fun _ => 0))), (q6, .inl (cA 20, 2, .inl (fun _ => 0))), (q7, .inl (cA 20, 9, .inl (fun _ => 0))), (q8, .inl (cA 20, 9, .inl (fun _ => 0))), (q9, .inl (cA 23, 8, .inr (.inl (fun _ => 0)))), (q10, .inl (cA 23, 8, .inr (.inl (fun _ => 0)))), (q11, .inl (cA 20, 9, .inl (fun _ => 0))), (q12, .inl (cA 20, 9, .inl (fun _ => 0))), (q13, .inl (cA 20, 512, .inl (fun _ => 0))), (q14, .inl (cA 20, 6, .inl (fun _ => 0))), (q15, .inl (cA 20, 6, .inl (fun _ => 0))), (q16, .inl (cA 20, 4, .inl tk8)), (q17, .inl (cA 20, 4, .inl (fun _ => 0))), (q18, .inl (cA 23, 160, .inr (.inl (fun _ => 0))))])) (cells' := 18) (slots' := 4639) rfl rfl rfl ?_
  refine n_aln (k := 0) F (by decide +kernel) rfl (j := 1) rfl ?_
  refine n_get (idx := 9) (ci := 11) (k := 0) (j := 0) (fs := [.ref q1, .ref q2, .ref q3, .int 0, .ref q4, .ref q5, .int 0, .int 0, .int 0, .int 0, .int 0, .int 0, .int 0, .int 0, .int 0, .int (-1), .long 0, .long 0, .long 0, .ref q6, .ref q7, .ref q8, .ref q9, .ref q10, .long 0, .long 0, .long 0, .ref q11, .ref q12, .ref q13, .ref q14, .ref q15, .int 0, .ref q16, .ref q17, .ref q18]) (v := .ref q1) F (by decide +kernel) rfl rfl (by decide) (mBW_of 1575 (by decide +kernel)) rfl ?_
  refine n_si (x := 550) (v := 550) F (by decide +kernel) (by decide) ?_
  refine n_ic (x := 5) (v := 5) F (by decide +kernel) (by decide) ?_
  refine n_iln (k := 1) F (by decide +kernel) rfl (j := 0) rfl ?_
  refine n_mul (z := 0) F (by decide +kernel) (by decide) ?_
  refine n_add (z := 550) F (by decide +kernel) (by decide) ?_
  refine n_ic (x := 4) (v := 4) F (by decide +kernel) (by decide) ?_
  refine n_add (z := 554) F (by decide +kernel) (by decide) ?_
  refine n_ic (x := 1) (v := 1) F (by decide +kernel) (by decide) ?_
  refine n_ia (j := 1) (n := 635) (f := tk12) (o' := .inl (cA 20, 635, .inl tk13)) F (by decide +kernel) rfl (by unfold vp_in; decide) rfl ?_
  refine n_ws (ws' := (h, .inr (11, [.ref q1, .ref q2, .ref q3, .int 0, .ref q4, .ref q5, .int 0, .int 0, .int 0, .int 0, .int 0, .int 0, .int 0, .int 0, .int 0, .int (-1), .long 0, .long 0, .long 0, .ref q6, .ref q7, .ref q8, .ref q9, .ref q10, .long 0, .long 0, .long 0, .ref q11, .ref q12, .ref q13, .ref q14, .ref q15, .int 0, .ref q16, .ref q17, .ref q18])) :: ([(q1, .inl (cA 20, 635, .inl tk13)), (q2, .inl (cA 20, 1905, .inl (fun _ => 0))), (q3, .inl (cA 22, 3, .inl (fun _ => 0))), (q4, .inl (cA 20, 800, .inl (fun _ => 0))), (q5, .inl (cA 20, 550, .inl (fun _ => 0))), (q6, .inl (cA 20, 2, .inl (fun _ => 0))), (q7, .inl (cA 20, 9, .inl (fun _ => 0))), (q8, .inl (cA 20, 9, .inl (fun _ => 0))), (q9, .inl (cA 23, 8, .inr (.inl (fun _ => 0)))), (q10, .inl (cA 23, 8, .inr (.inl (fun _ => 0)))), (q11, .inl (cA 20, 9, .inl (fun _ => 0))), (q12, .inl (cA 20, 9, .inl (fun _ => 0))), (q13, .inl (cA 20, 512, .inl (fun _ => 0))), (q14, .inl (cA 20, 6, .inl (fun _ => 0))), (q15, .inl (cA 20, 6, .inl (fun _ => 0))), (q16, .inl (cA 20, 4, .inl tk8)), (q17, .inl (cA 20, 4, .inl (fun _ => 0))), (q18, .inl (cA 23, 160, .inr (.inl (fun _ => 0))))])) (cells' := 18) (slots' := 4639) rfl rfl rfl ?_
  refine n_inc (i := 1) (n := 1) (k := 0) (v := 1) (lv' := [(1, .int 1), (0, .ref h)]) F (by decide +kernel) rfl (by decide) (by decide) rfl ?_
  refine n_go (off := -84) (tgt := 180) F (by decide +kernel) (by decide) ?_
  refine n_iln (k := 1) F (by decide +kernel) rfl (j := 0) rfl ?_
  refine n_bi (x := 9) (v := 9) F (by decide +kernel) (by decide) ?_
  refine n_get_lt (off := 84) (tgt := 267) F (by decide +kernel) (by decide) (by decide) ?_
  refine n_aln (k := 0) F (by decide +kernel) rfl (j := 1) rfl ?_
  refine n_get (idx := 9) (ci := 11) (k := 0) (j := 0) (fs := [.ref q1, .ref q2, .ref q3, .int 0, .ref q4, .ref q5, .int 0, .int 0, .int 0, .int 0, .int 0, .int 0, .int 0, .int 0, .int 0, .int (-1), .long 0, .long 0, .long 0, .ref q6, .ref q7, .ref q8, .ref q9, .ref q10, .long 0, .long 0, .long 0, .ref q11, .ref q12, .ref q13, .ref q14, .ref q15, .int 0, .ref q16, .ref q17, .ref q18]) (v := .ref q1) F (by decide +kernel) rfl rfl (by decide) (mBW_of 1575 (by decide +kernel)) rfl ?_
  refine n_si (x := 550) (v := 550) F (by decide +kernel) (by decide) ?_
  refine n_ic (x := 5) (v := 5) F (by decide +kernel) (by decide) ?_
  refine n_iln (k := 1) F (by decide +kernel) rfl (j := 0) rfl ?_
  refine n_mul (z := 5) F (by decide +kernel) (by decide) ?_
  refine n_add (z := 555) F (by decide +kernel) (by decide) ?_
  refine n_ic (x := -1) (v := (-1)) F (by decide +kernel) (by decide) ?_
  refine n_ia (j := 1) (n := 635) (f := tk13) (o' := .inl (cA 20, 635, .inl tk14)) F (by decide +kernel) rfl (by unfold vp_in; decide) rfl ?_
  refine n_ws (ws' := (h, .inr (11, [.ref q1, .ref q2, .ref q3, .int 0, .ref q4, .ref q5, .int 0, .int 0, .int 0, .int 0, .int 0, .int 0, .int 0, .int 0, .int 0, .int (-1), .long 0, .long 0, .long 0, .ref q6, .ref q7, .ref q8, .ref q9, .ref q10, .long 0, .long 0, .long 0, .ref q11, .ref q12, .ref q13, .ref q14, .ref q15, .int 0, .ref q16, .ref q17, .ref q18])) :: ([(q1, .inl (cA 20, 635, .inl tk14)), (q2, .inl (cA 20, 1905, .inl (fun _ => 0))), (q3, .inl (cA 22, 3, .inl (fun _ => 0))), (q4, .inl (cA 20, 800, .inl (fun _ => 0))), (q5, .inl (cA 20, 550, .inl (fun _ => 0))), (q6, .inl (cA 20, 2, .inl (fun _ => 0))), (q7, .inl (cA 20, 9, .inl (fun _ => 0))), (q8, .inl (cA 20, 9, .inl (fun _ => 0))), (q9, .inl (cA 23, 8, .inr (.inl (fun _ => 0)))), (q10, .inl (cA 23, 8, .inr (.inl (fun _ => 0)))), (q11, .inl (cA 20, 9, .inl (fun _ => 0))), (q12, .inl (cA 20, 9, .inl (fun _ => 0))), (q13, .inl (cA 20, 512, .inl (fun _ => 0))), (q14, .inl (cA 20, 6, .inl (fun _ => 0))), (q15, .inl (cA 20, 6, .inl (fun _ => 0))), (q16, .inl (cA 20, 4, .inl tk8)), (q17, .inl (cA 20, 4, .inl (fun _ => 0))), (q18, .inl (cA 23, 160, .inr (.inl (fun _ => 0))))])) (cells' := 18) (slots' := 4639) rfl rfl rfl ?_
  refine n_aln (k := 0) F (by decide +kernel) rfl (j := 1) rfl ?_
  refine n_get (idx := 9) (ci := 11) (k := 0) (j := 0) (fs := [.ref q1, .ref q2, .ref q3, .int 0, .ref q4, .ref q5, .int 0, .int 0, .int 0, .int 0, .int 0, .int 0, .int 0, .int 0, .int 0, .int (-1), .long 0, .long 0, .long 0, .ref q6, .ref q7, .ref q8, .ref q9, .ref q10, .long 0, .long 0, .long 0, .ref q11, .ref q12, .ref q13, .ref q14, .ref q15, .int 0, .ref q16, .ref q17, .ref q18]) (v := .ref q1) F (by decide +kernel) rfl rfl (by decide) (mBW_of 1575 (by decide +kernel)) rfl ?_
  refine n_si (x := 550) (v := 550) F (by decide +kernel) (by decide) ?_
  refine n_ic (x := 5) (v := 5) F (by decide +kernel) (by decide) ?_
  refine n_iln (k := 1) F (by decide +kernel) rfl (j := 0) rfl ?_
  refine n_mul (z := 5) F (by decide +kernel) (by decide) ?_
  refine n_add (z := 555) F (by decide +kernel) (by decide) ?_
  refine n_ic (x := 1) (v := 1) F (by decide +kernel) (by decide) ?_
  refine n_add (z := 556) F (by decide +kernel) (by decide) ?_
  refine n_ic (x := 3) (v := 3) F (by decide +kernel) (by decide) ?_
  refine n_ia (j := 1) (n := 635) (f := tk14) (o' := .inl (cA 20, 635, .inl tk15)) F (by decide +kernel) rfl (by unfold vp_in; decide) rfl ?_
  refine n_ws (ws' := (h, .inr (11, [.ref q1, .ref q2, .ref q3, .int 0, .ref q4, .ref q5, .int 0, .int 0, .int 0, .int 0, .int 0, .int 0, .int 0, .int 0, .int 0, .int (-1), .long 0, .long 0, .long 0, .ref q6, .ref q7, .ref q8, .ref q9, .ref q10, .long 0, .long 0, .long 0, .ref q11, .ref q12, .ref q13, .ref q14, .ref q15, .int 0, .ref q16, .ref q17, .ref q18])) :: ([(q1, .inl (cA 20, 635, .inl tk15)), (q2, .inl (cA 20, 1905, .inl (fun _ => 0))), (q3, .inl (cA 22, 3, .inl (fun _ => 0))), (q4, .inl (cA 20, 800, .inl (fun _ => 0))), (q5, .inl (cA 20, 550, .inl (fun _ => 0))), (q6, .inl (cA 20, 2, .inl (fun _ => 0))), (q7, .inl (cA 20, 9, .inl (fun _ => 0))), (q8, .inl (cA 20, 9, .inl (fun _ => 0))), (q9, .inl (cA 23, 8, .inr (.inl (fun _ => 0)))), (q10, .inl (cA 23, 8, .inr (.inl (fun _ => 0)))), (q11, .inl (cA 20, 9, .inl (fun _ => 0))), (q12, .inl (cA 20, 9, .inl (fun _ => 0))), (q13, .inl (cA 20, 512, .inl (fun _ => 0))), (q14, .inl (cA 20, 6, .inl (fun _ => 0))), (q15, .inl (cA 20, 6, .inl (fun _ => 0))), (q16, .inl (cA 20, 4, .inl tk8)), (q17, .inl (cA 20, 4, .inl (fun _ => 0))), (q18, .inl (cA 23, 160, .inr (.inl (fun _ => 0))))])) (cells' := 18) (slots' := 4639) rfl rfl rfl ?_
  refine n_aln (k := 0) F (by decide +kernel) rfl (j := 1) rfl ?_
  refine n_get (idx := 9) (ci := 11) (k := 0) (j := 0) (fs := [.ref q1, .ref q2, .ref q3, .int 0, .ref q4, .ref q5, .int 0, .int 0, .int 0, .int 0, .int 0, .int 0, .int 0, .int 0, .int 0, .int (-1), .long 0, .long 0, .long 0, .ref q6, .ref q7, .ref q8, .ref q9, .ref q10, .long 0, .long 0, .long 0, .ref q11, .ref q12, .ref q13, .ref q14, .ref q15, .int 0, .ref q16, .ref q17, .ref q18]) (v := .ref q1) F (by decide +kernel) rfl rfl (by decide) (mBW_of 1575 (by decide +kernel)) rfl ?_
  refine n_si (x := 550) (v := 550) F (by decide +kernel) (by decide) ?_
  refine n_ic (x := 5) (v := 5) F (by decide +kernel) (by decide) ?_
  refine n_iln (k := 1) F (by decide +kernel) rfl (j := 0) rfl ?_
  refine n_mul (z := 5) F (by decide +kernel) (by decide) ?_
  refine n_add (z := 555) F (by decide +kernel) (by decide) ?_
  refine n_ic (x := 2) (v := 2) F (by decide +kernel) (by decide) ?_
  refine n_add (z := 557) F (by decide +kernel) (by decide) ?_
  refine n_bi (x := 80) (v := 80) F (by decide +kernel) (by decide) ?_
  refine n_ia (j := 1) (n := 635) (f := tk15) (o' := .inl (cA 20, 635, .inl tk16)) F (by decide +kernel) rfl (by unfold vp_in; decide) rfl ?_
  refine n_ws (ws' := (h, .inr (11, [.ref q1, .ref q2, .ref q3, .int 0, .ref q4, .ref q5, .int 0, .int 0, .int 0, .int 0, .int 0, .int 0, .int 0, .int 0, .int 0, .int (-1), .long 0, .long 0, .long 0, .ref q6, .ref q7, .ref q8, .ref q9, .ref q10, .long 0, .long 0, .long 0, .ref q11, .ref q12, .ref q13, .ref q14, .ref q15, .int 0, .ref q16, .ref q17, .ref q18])) :: ([(q1, .inl (cA 20, 635, .inl tk16)), (q2, .inl (cA 20, 1905, .inl (fun _ => 0))), (q3, .inl (cA 22, 3, .inl (fun _ => 0))), (q4, .inl (cA 20, 800, .inl (fun _ => 0))), (q5, .inl (cA 20, 550, .inl (fun _ => 0))), (q6, .inl (cA 20, 2, .inl (fun _ => 0))), (q7, .inl (cA 20, 9, .inl (fun _ => 0))), (q8, .inl (cA 20, 9, .inl (fun _ => 0))), (q9, .inl (cA 23, 8, .inr (.inl (fun _ => 0)))), (q10, .inl (cA 23, 8, .inr (.inl (fun _ => 0)))), (q11, .inl (cA 20, 9, .inl (fun _ => 0))), (q12, .inl (cA 20, 9, .inl (fun _ => 0))), (q13, .inl (cA 20, 512, .inl (fun _ => 0))), (q14, .inl (cA 20, 6, .inl (fun _ => 0))), (q15, .inl (cA 20, 6, .inl (fun _ => 0))), (q16, .inl (cA 20, 4, .inl tk8)), (q17, .inl (cA 20, 4, .inl (fun _ => 0))), (q18, .inl (cA 23, 160, .inr (.inl (fun _ => 0))))])) (cells' := 18) (slots' := 4639) rfl rfl rfl ?_
  refine n_aln (k := 0) F (by decide +kernel) rfl (j := 1) rfl ?_
  refine n_get (idx := 9) (ci := 11) (k := 0) (j := 0) (fs := [.ref q1, .ref q2, .ref q3, .int 0, .ref q4, .ref q5, .int 0, .int 0, .int 0, .int 0, .int 0, .int 0, .int 0, .int 0, .int 0, .int (-1), .long 0, .long 0, .long 0, .ref q6, .ref q7, .ref q8, .ref q9, .ref q10, .long 0, .long 0, .long 0, .ref q11, .ref q12, .ref q13, .ref q14, .ref q15, .int 0, .ref q16, .ref q17, .ref q18]) (v := .ref q1) F (by decide +kernel) rfl rfl (by decide) (mBW_of 1575 (by decide +kernel)) rfl ?_
  refine n_si (x := 550) (v := 550) F (by decide +kernel) (by decide) ?_
  refine n_ic (x := 5) (v := 5) F (by decide +kernel) (by decide) ?_
  refine n_iln (k := 1) F (by decide +kernel) rfl (j := 0) rfl ?_
  refine n_mul (z := 5) F (by decide +kernel) (by decide) ?_
  refine n_add (z := 555) F (by decide +kernel) (by decide) ?_
  refine n_ic (x := 3) (v := 3) F (by decide +kernel) (by decide) ?_
  refine n_add (z := 558) F (by decide +kernel) (by decide) ?_
  refine n_bi (x := 10) (v := 10) F (by decide +kernel) (by decide) ?_
  refine n_ia (j := 1) (n := 635) (f := tk16) (o' := .inl (cA 20, 635, .inl tk17)) F (by decide +kernel) rfl (by unfold vp_in; decide) rfl ?_
  refine n_ws (ws' := (h, .inr (11, [.ref q1, .ref q2, .ref q3, .int 0, .ref q4, .ref q5, .int 0, .int 0, .int 0, .int 0, .int 0, .int 0, .int 0, .int 0, .int 0, .int (-1), .long 0, .long 0, .long 0, .ref q6, .ref q7, .ref q8, .ref q9, .ref q10, .long 0, .long 0, .long 0, .ref q11, .ref q12, .ref q13, .ref q14, .ref q15, .int 0, .ref q16, .ref q17, .ref q18])) :: ([(q1, .inl (cA 20, 635, .inl tk17)), (q2, .inl (cA 20, 1905, .inl (fun _ => 0))), (q3, .inl (cA 22, 3, .inl (fun _ => 0))), (q4, .inl (cA 20, 800, .inl (fun _ => 0))), (q5, .inl (cA 20, 550, .inl (fun _ => 0))), (q6, .inl (cA 20, 2, .inl (fun _ => 0))), (q7, .inl (cA 20, 9, .inl (fun _ => 0))), (q8, .inl (cA 20, 9, .inl (fun _ => 0))), (q9, .inl (cA 23, 8, .inr (.inl (fun _ => 0)))), (q10, .inl (cA 23, 8, .inr (.inl (fun _ => 0)))), (q11, .inl (cA 20, 9, .inl (fun _ => 0))), (q12, .inl (cA 20, 9, .inl (fun _ => 0))), (q13, .inl (cA 20, 512, .inl (fun _ => 0))), (q14, .inl (cA 20, 6, .inl (fun _ => 0))), (q15, .inl (cA 20, 6, .inl (fun _ => 0))), (q16, .inl (cA 20, 4, .inl tk8)), (q17, .inl (cA 20, 4, .inl (fun _ => 0))), (q18, .inl (cA 23, 160, .inr (.inl (fun _ => 0))))])) (cells' := 18) (slots' := 4639) rfl rfl rfl ?_
  refine n_aln (k := 0) F (by decide +kernel) rfl (j := 1) rfl ?_
  refine n_get (idx := 9) (ci := 11) (k := 0) (j := 0) (fs := [.ref q1, .ref q2, .ref q3, .int 0, .ref q4, .ref q5, .int 0, .int 0, .int 0, .int 0, .int 0, .int 0, .int 0, .int 0, .int 0, .int (-1), .long 0, .long 0, .long 0, .ref q6, .ref q7, .ref q8, .ref q9, .ref q10, .long 0, .long 0, .long 0, .ref q11, .ref q12, .ref q13, .ref q14, .ref q15, .int 0, .ref q16, .ref q17, .ref q18]) (v := .ref q1) F (by decide +kernel) rfl rfl (by decide) (mBW_of 1575 (by decide +kernel)) rfl ?_
  refine n_si (x := 550) (v := 550) F (by decide +kernel) (by decide) ?_
  refine n_ic (x := 5) (v := 5) F (by decide +kernel) (by decide) ?_
  refine n_iln (k := 1) F (by decide +kernel) rfl (j := 0) rfl ?_
  refine n_mul (z := 5) F (by decide +kernel) (by decide) ?_
  refine n_add (z := 555) F (by decide +kernel) (by decide) ?_
  refine n_ic (x := 4) (v := 4) F (by decide +kernel) (by decide) ?_
  refine n_add (z := 559) F (by decide +kernel) (by decide) ?_
  refine n_ic (x := 1) (v := 1) F (by decide +kernel) (by decide) ?_
  refine n_ia (j := 1) (n := 635) (f := tk17) (o' := .inl (cA 20, 635, .inl tk18)) F (by decide +kernel) rfl (by unfold vp_in; decide) rfl ?_
  refine n_ws (ws' := (h, .inr (11, [.ref q1, .ref q2, .ref q3, .int 0, .ref q4, .ref q5, .int 0, .int 0, .int 0, .int 0, .int 0, .int 0, .int 0, .int 0, .int 0, .int (-1), .long 0, .long 0, .long 0, .ref q6, .ref q7, .ref q8, .ref q9, .ref q10, .long 0, .long 0, .long 0, .ref q11, .ref q12, .ref q13, .ref q14, .ref q15, .int 0, .ref q16, .ref q17, .ref q18])) :: ([(q1, .inl (cA 20, 635, .inl tk18)), (q2, .inl (cA 20, 1905, .inl (fun _ => 0))), (q3, .inl (cA 22, 3, .inl (fun _ => 0))), (q4, .inl (cA 20, 800, .inl (fun _ => 0))), (q5, .inl (cA 20, 550, .inl (fun _ => 0))), (q6, .inl (cA 20, 2, .inl (fun _ => 0))), (q7, .inl (cA 20, 9, .inl (fun _ => 0))), (q8, .inl (cA 20, 9, .inl (fun _ => 0))), (q9, .inl (cA 23, 8, .inr (.inl (fun _ => 0)))), (q10, .inl (cA 23, 8, .inr (.inl (fun _ => 0)))), (q11, .inl (cA 20, 9, .inl (fun _ => 0))), (q12, .inl (cA 20, 9, .inl (fun _ => 0))), (q13, .inl (cA 20, 512, .inl (fun _ => 0))), (q14, .inl (cA 20, 6, .inl (fun _ => 0))), (q15, .inl (cA 20, 6, .inl (fun _ => 0))), (q16, .inl (cA 20, 4, .inl tk8)), (q17, .inl (cA 20, 4, .inl (fun _ => 0))), (q18, .inl (cA 23, 160, .inr (.inl (fun _ => 0))))])) (cells' := 18) (slots' := 4639) rfl rfl rfl ?_
  refine n_inc (i := 1) (n := 1) (k := 0) (v := 2) (lv' := [(1, .int 2), (0, .ref h)]) F (by decide +kernel) rfl (by decide) (by decide) rfl ?_
  refine n_go (off := -84) (tgt := 180) F (by decide +kernel) (by decide) ?_
  refine n_iln (k := 1) F (by decide +kernel) rfl (j := 0) rfl ?_
  refine n_bi (x := 9) (v := 9) F (by decide +kernel) (by decide) ?_
  refine n_get_lt (off := 84) (tgt := 267) F (by decide +kernel) (by decide) (by decide) ?_
  refine n_aln (k := 0) F (by decide +kernel) rfl (j := 1) rfl ?_
  refine n_get (idx := 9) (ci := 11) (k := 0) (j := 0) (fs := [.ref q1, .ref q2, .ref q3, .int 0, .ref q4, .ref q5, .int 0, .int 0, .int 0, .int 0, .int 0, .int 0, .int 0, .int 0, .int 0, .int (-1), .long 0, .long 0, .long 0, .ref q6, .ref q7, .ref q8, .ref q9, .ref q10, .long 0, .long 0, .long 0, .ref q11, .ref q12, .ref q13, .ref q14, .ref q15, .int 0, .ref q16, .ref q17, .ref q18]) (v := .ref q1) F (by decide +kernel) rfl rfl (by decide) (mBW_of 1575 (by decide +kernel)) rfl ?_
  refine n_si (x := 550) (v := 550) F (by decide +kernel) (by decide) ?_
  refine n_ic (x := 5) (v := 5) F (by decide +kernel) (by decide) ?_
  refine n_iln (k := 1) F (by decide +kernel) rfl (j := 0) rfl ?_
  refine n_mul (z := 10) F (by decide +kernel) (by decide) ?_
  refine n_add (z := 560) F (by decide +kernel) (by decide) ?_
  refine n_ic (x := -1) (v := (-1)) F (by decide +kernel) (by decide) ?_
  refine n_ia (j := 1) (n := 635) (f := tk18) (o' := .inl (cA 20, 635, .inl tk19)) F (by decide +kernel) rfl (by unfold vp_in; decide) rfl ?_
  refine n_ws (ws' := (h, .inr (11, [.ref q1, .ref q2, .ref q3, .int 0, .ref q4, .ref q5, .int 0, .int 0, .int 0, .int 0, .int 0, .int 0, .int 0, .int 0, .int 0, .int (-1), .long 0, .long 0, .long 0, .ref q6, .ref q7, .ref q8, .ref q9, .ref q10, .long 0, .long 0, .long 0, .ref q11, .ref q12, .ref q13, .ref q14, .ref q15, .int 0, .ref q16, .ref q17, .ref q18])) :: ([(q1, .inl (cA 20, 635, .inl tk19)), (q2, .inl (cA 20, 1905, .inl (fun _ => 0))), (q3, .inl (cA 22, 3, .inl (fun _ => 0))), (q4, .inl (cA 20, 800, .inl (fun _ => 0))), (q5, .inl (cA 20, 550, .inl (fun _ => 0))), (q6, .inl (cA 20, 2, .inl (fun _ => 0))), (q7, .inl (cA 20, 9, .inl (fun _ => 0))), (q8, .inl (cA 20, 9, .inl (fun _ => 0))), (q9, .inl (cA 23, 8, .inr (.inl (fun _ => 0)))), (q10, .inl (cA 23, 8, .inr (.inl (fun _ => 0)))), (q11, .inl (cA 20, 9, .inl (fun _ => 0))), (q12, .inl (cA 20, 9, .inl (fun _ => 0))), (q13, .inl (cA 20, 512, .inl (fun _ => 0))), (q14, .inl (cA 20, 6, .inl (fun _ => 0))), (q15, .inl (cA 20, 6, .inl (fun _ => 0))), (q16, .inl (cA 20, 4, .inl tk8)), (q17, .inl (cA 20, 4, .inl (fun _ => 0))), (q18, .inl (cA 23, 160, .inr (.inl (fun _ => 0))))])) (cells' := 18) (slots' := 4639) rfl rfl rfl ?_
  refine n_aln (k := 0) F (by decide +kernel) rfl (j := 1) rfl ?_
  refine n_get (idx := 9) (ci := 11) (k := 0) (j := 0) (fs := [.ref q1, .ref q2, .ref q3, .int 0, .ref q4, .ref q5, .int 0, .int 0, .int 0, .int 0, .int 0, .int 0, .int 0, .int 0, .int 0, .int (-1), .long 0, .long 0, .long 0, .ref q6, .ref q7, .ref q8, .ref q9, .ref q10, .long 0, .long 0, .long 0, .ref q11, .ref q12, .ref q13, .ref q14, .ref q15, .int 0, .ref q16, .ref q17, .ref q18]) (v := .ref q1) F (by decide +kernel) rfl rfl (by decide) (mBW_of 1575 (by decide +kernel)) rfl ?_
  refine n_si (x := 550) (v := 550) F (by decide +kernel) (by decide) ?_
  refine n_ic (x := 5) (v := 5) F (by decide +kernel) (by decide) ?_
  refine n_iln (k := 1) F (by decide +kernel) rfl (j := 0) rfl ?_
  refine n_mul (z := 10) F (by decide +kernel) (by decide) ?_
  refine n_add (z := 560) F (by decide +kernel) (by decide) ?_
  refine n_ic (x := 1) (v := 1) F (by decide +kernel) (by decide) ?_
  refine n_add (z := 561) F (by decide +kernel) (by decide) ?_
  refine n_ic (x := 3) (v := 3) F (by decide +kernel) (by decide) ?_
  refine n_ia (j := 1) (n := 635) (f := tk19) (o' := .inl (cA 20, 635, .inl tk20)) F (by decide +kernel) rfl (by unfold vp_in; decide) rfl ?_
  refine n_ws (ws' := (h, .inr (11, [.ref q1, .ref q2, .ref q3, .int 0, .ref q4, .ref q5, .int 0, .int 0, .int 0, .int 0, .int 0, .int 0, .int 0, .int 0, .int 0, .int (-1), .long 0, .long 0, .long 0, .ref q6, .ref q7, .ref q8, .ref q9, .ref q10, .long 0, .long 0, .long 0, .ref q11, .ref q12, .ref q13, .ref q14, .ref q15, .int 0, .ref q16, .ref q17, .ref q18])) :: ([(q1, .inl (cA 20, 635, .inl tk20)), (q2, .inl (cA 20, 1905, .inl (fun _ => 0))), (q3, .inl (cA 22, 3, .inl (fun _ => 0))), (q4, .inl (cA 20, 800, .inl (fun _ => 0))), (q5, .inl (cA 20, 550, .inl (fun _ => 0))), (q6, .inl (cA 20, 2, .inl (fun _ => 0))), (q7, .inl (cA 20, 9, .inl (fun _ => 0))), (q8, .inl (cA 20, 9, .inl (fun _ => 0))), (q9, .inl (cA 23, 8, .inr (.inl (fun _ => 0)))), (q10, .inl (cA 23, 8, .inr (.inl (fun _ => 0)))), (q11, .inl (cA 20, 9, .inl (fun _ => 0))), (q12, .inl (cA 20, 9, .inl (fun _ => 0))), (q13, .inl (cA 20, 512, .inl (fun _ => 0))), (q14, .inl (cA 20, 6, .inl (fun _ => 0))), (q15, .inl (cA 20, 6, .inl (fun _ => 0))), (q16, .inl (cA 20, 4, .inl tk8)), (q17, .inl (cA 20, 4, .inl (fun _ => 0))), (q18, .inl (cA 23, 160, .inr (.inl (fun _ => 0))))])) (cells' := 18) (slots' := 4639) rfl rfl rfl ?_
  refine n_aln (k := 0) F (by decide +kernel) rfl (j := 1) rfl ?_
  refine n_get (idx := 9) (ci := 11) (k := 0) (j := 0) (fs := [.ref q1, .ref q2, .ref q3, .int 0, .ref q4, .ref q5, .int 0, .int 0, .int 0, .int 0, .int 0, .int 0, .int 0, .int 0, .int 0, .int (-1), .long 0, .long 0, .long 0, .ref q6, .ref q7, .ref q8, .ref q9, .ref q10, .long 0, .long 0, .long 0, .ref q11, .ref q12, .ref q13, .ref q14, .ref q15, .int 0, .ref q16, .ref q17, .ref q18]) (v := .ref q1) F (by decide +kernel) rfl rfl (by decide) (mBW_of 1575 (by decide +kernel)) rfl ?_
  refine n_si (x := 550) (v := 550) F (by decide +kernel) (by decide) ?_
  refine n_ic (x := 5) (v := 5) F (by decide +kernel) (by decide) ?_
  refine n_iln (k := 1) F (by decide +kernel) rfl (j := 0) rfl ?_
  refine n_mul (z := 10) F (by decide +kernel) (by decide) ?_
  refine n_add (z := 560) F (by decide +kernel) (by decide) ?_
  refine n_ic (x := 2) (v := 2) F (by decide +kernel) (by decide) ?_
  refine n_add (z := 562) F (by decide +kernel) (by decide) ?_
  refine n_bi (x := 80) (v := 80) F (by decide +kernel) (by decide) ?_
  refine n_ia (j := 1) (n := 635) (f := tk20) (o' := .inl (cA 20, 635, .inl tk21)) F (by decide +kernel) rfl (by unfold vp_in; decide) rfl ?_
  refine n_ws (ws' := (h, .inr (11, [.ref q1, .ref q2, .ref q3, .int 0, .ref q4, .ref q5, .int 0, .int 0, .int 0, .int 0, .int 0, .int 0, .int 0, .int 0, .int 0, .int (-1), .long 0, .long 0, .long 0, .ref q6, .ref q7, .ref q8, .ref q9, .ref q10, .long 0, .long 0, .long 0, .ref q11, .ref q12, .ref q13, .ref q14, .ref q15, .int 0, .ref q16, .ref q17, .ref q18])) :: ([(q1, .inl (cA 20, 635, .inl tk21)), (q2, .inl (cA 20, 1905, .inl (fun _ => 0))), (q3, .inl (cA 22, 3, .inl (fun _ => 0))), (q4, .inl (cA 20, 800, .inl (fun _ => 0))), (q5, .inl (cA 20, 550, .inl (fun _ => 0))), (q6, .inl (cA 20, 2, .inl (fun _ => 0))), (q7, .inl (cA 20, 9, .inl (fun _ => 0))), (q8, .inl (cA 20, 9, .inl (fun _ => 0))), (q9, .inl (cA 23, 8, .inr (.inl (fun _ => 0)))), (q10, .inl (cA 23, 8, .inr (.inl (fun _ => 0)))), (q11, .inl (cA 20, 9, .inl (fun _ => 0))), (q12, .inl (cA 20, 9, .inl (fun _ => 0))), (q13, .inl (cA 20, 512, .inl (fun _ => 0))), (q14, .inl (cA 20, 6, .inl (fun _ => 0))), (q15, .inl (cA 20, 6, .inl (fun _ => 0))), (q16, .inl (cA 20, 4, .inl tk8)), (q17, .inl (cA 20, 4, .inl (fun _ => 0))), (q18, .inl (cA 23, 160, .inr (.inl (fun _ => 0))))])) (cells' := 18) (slots' := 4639) rfl rfl rfl ?_
  refine n_aln (k := 0) F (by decide +kernel) rfl (j := 1) rfl ?_
  refine n_get (idx := 9) (ci := 11) (k := 0) (j := 0) (fs := [.ref q1, .ref q2, .ref q3, .int 0, .ref q4, .ref q5, .int 0, .int 0, .int 0, .int 0, .int 0, .int 0, .int 0, .int 0, .int 0, .int (-1), .long 0, .long 0, .long 0, .ref q6, .ref q7, .ref q8, .ref q9, .ref q10, .long 0, .long 0, .long 0, .ref q11, .ref q12, .ref q13, .ref q14, .ref q15, .int 0, .ref q16, .ref q17, .ref q18]) (v := .ref q1) F (by decide +kernel) rfl rfl (by decide) (mBW_of 1575 (by decide +kernel)) rfl ?_
  refine n_si (x := 550) (v := 550) F (by decide +kernel) (by decide) ?_
  refine n_ic (x := 5) (v := 5) F (by decide +kernel) (by decide) ?_
  refine n_iln (k := 1) F (by decide +kernel) rfl (j := 0) rfl ?_
  refine n_mul (z := 10) F (by decide +kernel) (by decide) ?_
  refine n_add (z := 560) F (by decide +kernel) (by decide) ?_
  refine n_ic (x := 3) (v := 3) F (by decide +kernel) (by decide) ?_
  refine n_add (z := 563) F (by decide +kernel) (by decide) ?_
  refine n_bi (x := 10) (v := 10) F (by decide +kernel) (by decide) ?_
  refine n_ia (j := 1) (n := 635) (f := tk21) (o' := .inl (cA 20, 635, .inl tk22)) F (by decide +kernel) rfl (by unfold vp_in; decide) rfl ?_
  refine n_ws (ws' := (h, .inr (11, [.ref q1, .ref q2, .ref q3, .int 0, .ref q4, .ref q5, .int 0, .int 0, .int 0, .int 0, .int 0, .int 0, .int 0, .int 0, .int 0, .int (-1), .long 0, .long 0, .long 0, .ref q6, .ref q7, .ref q8, .ref q9, .ref q10, .long 0, .long 0, .long 0, .ref q11, .ref q12, .ref q13, .ref q14, .ref q15, .int 0, .ref q16, .ref q17, .ref q18])) :: ([(q1, .inl (cA 20, 635, .inl tk22)), (q2, .inl (cA 20, 1905, .inl (fun _ => 0))), (q3, .inl (cA 22, 3, .inl (fun _ => 0))), (q4, .inl (cA 20, 800, .inl (fun _ => 0))), (q5, .inl (cA 20, 550, .inl (fun _ => 0))), (q6, .inl (cA 20, 2, .inl (fun _ => 0))), (q7, .inl (cA 20, 9, .inl (fun _ => 0))), (q8, .inl (cA 20, 9, .inl (fun _ => 0))), (q9, .inl (cA 23, 8, .inr (.inl (fun _ => 0)))), (q10, .inl (cA 23, 8, .inr (.inl (fun _ => 0)))), (q11, .inl (cA 20, 9, .inl (fun _ => 0))), (q12, .inl (cA 20, 9, .inl (fun _ => 0))), (q13, .inl (cA 20, 512, .inl (fun _ => 0))), (q14, .inl (cA 20, 6, .inl (fun _ => 0))), (q15, .inl (cA 20, 6, .inl (fun _ => 0))), (q16, .inl (cA 20, 4, .inl tk8)), (q17, .inl (cA 20, 4, .inl (fun _ => 0))), (q18, .inl (cA 23, 160, .inr (.inl (fun _ => 0))))])) (cells' := 18) (slots' := 4639) rfl rfl rfl ?_
  refine n_aln (k := 0) F (by decide +kernel) rfl (j := 1) rfl ?_
  refine n_get (idx := 9) (ci := 11) (k := 0) (j := 0) (fs := [.ref q1, .ref q2, .ref q3, .int 0, .ref q4, .ref q5, .int 0, .int 0, .int 0, .int 0, .int 0, .int 0, .int 0, .int 0, .int 0, .int (-1), .long 0, .long 0, .long 0, .ref q6, .ref q7, .ref q8, .ref q9, .ref q10, .long 0, .long 0, .long 0, .ref q11, .ref q12, .ref q13, .ref q14, .ref q15, .int 0, .ref q16, .ref q17, .ref q18]) (v := .ref q1) F (by decide +kernel) rfl rfl (by decide) (mBW_of 1575 (by decide +kernel)) rfl ?_
  refine n_si (x := 550) (v := 550) F (by decide +kernel) (by decide) ?_
  refine n_ic (x := 5) (v := 5) F (by decide +kernel) (by decide) ?_
  refine n_iln (k := 1) F (by decide +kernel) rfl (j := 0) rfl ?_
  refine n_mul (z := 10) F (by decide +kernel) (by decide) ?_
  refine n_add (z := 560) F (by decide +kernel) (by decide) ?_
  refine n_ic (x := 4) (v := 4) F (by decide +kernel) (by decide) ?_
  refine n_add (z := 564) F (by decide +kernel) (by decide) ?_
  refine n_ic (x := 1) (v := 1) F (by decide +kernel) (by decide) ?_
  refine n_ia (j := 1) (n := 635) (f := tk22) (o' := .inl (cA 20, 635, .inl tk23)) F (by decide +kernel) rfl (by unfold vp_in; decide) rfl ?_
  refine n_ws (ws' := (h, .inr (11, [.ref q1, .ref q2, .ref q3, .int 0, .ref q4, .ref q5, .int 0, .int 0, .int 0, .int 0, .int 0, .int 0, .int 0, .int 0, .int 0, .int (-1), .long 0, .long 0, .long 0, .ref q6, .ref q7, .ref q8, .ref q9, .ref q10, .long 0, .long 0, .long 0, .ref q11, .ref q12, .ref q13, .ref q14, .ref q15, .int 0, .ref q16, .ref q17, .ref q18])) :: ([(q1, .inl (cA 20, 635, .inl tk23)), (q2, .inl (cA 20, 1905, .inl (fun _ => 0))), (q3, .inl (cA 22, 3, .inl (fun _ => 0))), (q4, .inl (cA 20, 800, .inl (fun _ => 0))), (q5, .inl (cA 20, 550, .inl (fun _ => 0))), (q6, .inl (cA 20, 2, .inl (fun _ => 0))), (q7, .inl (cA 20, 9, .inl (fun _ => 0))), (q8, .inl (cA 20, 9, .inl (fun _ => 0))), (q9, .inl (cA 23, 8, .inr (.inl (fun _ => 0)))), (q10, .inl (cA 23, 8, .inr (.inl (fun _ => 0)))), (q11, .inl (cA 20, 9, .inl (fun _ => 0))), (q12, .inl (cA 20, 9, .inl (fun _ => 0))), (q13, .inl (cA 20, 512, .inl (fun _ => 0))), (q14, .inl (cA 20, 6, .inl (fun _ => 0))), (q15, .inl (cA 20, 6, .inl (fun _ => 0))), (q16, .inl (cA 20, 4, .inl tk8)), (q17, .inl (cA 20, 4, .inl (fun _ => 0))), (q18, .inl (cA 23, 160, .inr (.inl (fun _ => 0))))])) (cells' := 18) (slots' := 4639) rfl rfl rfl ?_
  refine n_inc (i := 1) (n := 1) (k := 0) (v := 3) (lv' := [(1, .int 3), (0, .ref h)]) F (by decide +kernel) rfl (by decide) (by decide) rfl ?_
  refine n_go (off := -84) (tgt := 180) F (by decide +kernel) (by decide) ?_
  refine n_iln (k := 1) F (by decide +kernel) rfl (j := 0) rfl ?_
  refine n_bi (x := 9) (v := 9) F (by decide +kernel) (by decide) ?_
  refine n_get_lt (off := 84) (tgt := 267) F (by decide +kernel) (by decide) (by decide) ?_
  refine n_aln (k := 0) F (by decide +kernel) rfl (j := 1) rfl ?_
  refine n_get (idx := 9) (ci := 11) (k := 0) (j := 0) (fs := [.ref q1, .ref q2, .ref q3, .int 0, .ref q4, .ref q5, .int 0, .int 0, .int 0, .int 0, .int 0, .int 0, .int 0, .int 0, .int 0, .int (-1), .long 0, .long 0, .long 0, .ref q6, .ref q7, .ref q8, .ref q9, .ref q10, .long 0, .long 0, .long 0, .ref q11, .ref q12, .ref q13, .ref q14, .ref q15, .int 0, .ref q16, .ref q17, .ref q18]) (v := .ref q1) F (by decide +kernel) rfl rfl (by decide) (mBW_of 1575 (by decide +kernel)) rfl ?_
  refine n_si (x := 550) (v := 550) F (by decide +kernel) (by decide) ?_
  refine n_ic (x := 5) (v := 5) F (by decide +kernel) (by decide) ?_
  refine n_iln (k := 1) F (by decide +kernel) rfl (j := 0) rfl ?_
  refine n_mul (z := 15) F (by decide +kernel) (by decide) ?_
  refine n_add (z := 565) F (by decide +kernel) (by decide) ?_
  refine n_ic (x := -1) (v := (-1)) F (by decide +kernel) (by decide) ?_
  refine n_ia (j := 1) (n := 635) (f := tk23) (o' := .inl (cA 20, 635, .inl tk24)) F (by decide +kernel) rfl (by unfold vp_in; decide) rfl ?_
  refine n_ws (ws' := (h, .inr (11, [.ref q1, .ref q2, .ref q3, .int 0, .ref q4, .ref q5, .int 0, .int 0, .int 0, .int 0, .int 0, .int 0, .int 0, .int 0, .int 0, .int (-1), .long 0, .long 0, .long 0, .ref q6, .ref q7, .ref q8, .ref q9, .ref q10, .long 0, .long 0, .long 0, .ref q11, .ref q12, .ref q13, .ref q14, .ref q15, .int 0, .ref q16, .ref q17, .ref q18])) :: ([(q1, .inl (cA 20, 635, .inl tk24)), (q2, .inl (cA 20, 1905, .inl (fun _ => 0))), (q3, .inl (cA 22, 3, .inl (fun _ => 0))), (q4, .inl (cA 20, 800, .inl (fun _ => 0))), (q5, .inl (cA 20, 550, .inl (fun _ => 0))), (q6, .inl (cA 20, 2, .inl (fun _ => 0))), (q7, .inl (cA 20, 9, .inl (fun _ => 0))), (q8, .inl (cA 20, 9, .inl (fun _ => 0))), (q9, .inl (cA 23, 8, .inr (.inl (fun _ => 0)))), (q10, .inl (cA 23, 8, .inr (.inl (fun _ => 0)))), (q11, .inl (cA 20, 9, .inl (fun _ => 0))), (q12, .inl (cA 20, 9, .inl (fun _ => 0))), (q13, .inl (cA 20, 512, .inl (fun _ => 0))), (q14, .inl (cA 20, 6, .inl (fun _ => 0))), (q15, .inl (cA 20, 6, .inl (fun _ => 0))), (q16, .inl (cA 20, 4, .inl tk8)), (q17, .inl (cA 20, 4, .inl (fun _ => 0))), (q18, .inl (cA 23, 160, .inr (.inl (fun _ => 0))))])) (cells' := 18) (slots' := 4639) rfl rfl rfl ?_
  refine n_aln (k := 0) F (by decide +kernel) rfl (j := 1) rfl ?_
  refine n_get (idx := 9) (ci := 11) (k := 0) (j := 0) (fs := [.ref q1, .ref q2, .ref q3, .int 0, .ref q4, .ref q5, .int 0, .int 0, .int 0, .int 0, .int 0, .int 0, .int 0, .int 0, .int 0, .int (-1), .long 0, .long 0, .long 0, .ref q6, .ref q7, .ref q8, .ref q9, .ref q10, .long 0, .long 0, .long 0, .ref q11, .ref q12, .ref q13, .ref q14, .ref q15, .int 0, .ref q16, .ref q17, .ref q18]) (v := .ref q1) F (by decide +kernel) rfl rfl (by decide) (mBW_of 1575 (by decide +kernel)) rfl ?_
  refine n_si (x := 550) (v := 550) F (by decide +kernel) (by decide) ?_
  refine n_ic (x := 5) (v := 5) F (by decide +kernel) (by decide) ?_
  refine n_iln (k := 1) F (by decide +kernel) rfl (j := 0) rfl ?_
  refine n_mul (z := 15) F (by decide +kernel) (by decide) ?_
  refine n_add (z := 565) F (by decide +kernel) (by decide) ?_
  refine n_ic (x := 1) (v := 1) F (by decide +kernel) (by decide) ?_
  refine n_add (z := 566) F (by decide +kernel) (by decide) ?_
  refine n_ic (x := 3) (v := 3) F (by decide +kernel) (by decide) ?_
  refine n_ia (j := 1) (n := 635) (f := tk24) (o' := .inl (cA 20, 635, .inl tk25)) F (by decide +kernel) rfl (by unfold vp_in; decide) rfl ?_
  refine n_ws (ws' := (h, .inr (11, [.ref q1, .ref q2, .ref q3, .int 0, .ref q4, .ref q5, .int 0, .int 0, .int 0, .int 0, .int 0, .int 0, .int 0, .int 0, .int 0, .int (-1), .long 0, .long 0, .long 0, .ref q6, .ref q7, .ref q8, .ref q9, .ref q10, .long 0, .long 0, .long 0, .ref q11, .ref q12, .ref q13, .ref q14, .ref q15, .int 0, .ref q16, .ref q17, .ref q18])) :: ([(q1, .inl (cA 20, 635, .inl tk25)), (q2, .inl (cA 20, 1905, .inl (fun _ => 0))), (q3, .inl (cA 22, 3, .inl (fun _ => 0))), (q4, .inl (cA 20, 800, .inl (fun _ => 0))), (q5, .inl (cA 20, 550, .inl (fun _ => 0))), (q6, .inl (cA 20, 2, .inl (fun _ => 0))), (q7, .inl (cA 20, 9, .inl (fun _ => 0))), (q8, .inl (cA 20, 9, .inl (fun _ => 0))), (q9, .inl (cA 23, 8, .inr (.inl (fun _ => 0)))), (q10, .inl (cA 23, 8, .inr (.inl (fun _ => 0)))), (q11, .inl (cA 20, 9, .inl (fun _ => 0))), (q12, .inl (cA 20, 9, .inl (fun _ => 0))), (q13, .inl (cA 20, 512, .inl (fun _ => 0))), (q14, .inl (cA 20, 6, .inl (fun _ => 0))), (q15, .inl (cA 20, 6, .inl (fun _ => 0))), (q16, .inl (cA 20, 4, .inl tk8)), (q17, .inl (cA 20, 4, .inl (fun _ => 0))), (q18, .inl (cA 23, 160, .inr (.inl (fun _ => 0))))])) (cells' := 18) (slots' := 4639) rfl rfl rfl ?_
  refine n_aln (k := 0) F (by decide +kernel) rfl (j := 1) rfl ?_
  refine n_get (idx := 9) (ci := 11) (k := 0) (j := 0) (fs := [.ref q1, .ref q2, .ref q3, .int 0, .ref q4, .ref q5, .int 0, .int 0, .int 0, .int 0, .int 0, .int 0, .int 0, .int 0, .int 0, .int (-1), .long 0, .long 0, .long 0, .ref q6, .ref q7, .ref q8, .ref q9, .ref q10, .long 0, .long 0, .long 0, .ref q11, .ref q12, .ref q13, .ref q14, .ref q15, .int 0, .ref q16, .ref q17, .ref q18]) (v := .ref q1) F (by decide +kernel) rfl rfl (by decide) (mBW_of 1575 (by decide +kernel)) rfl ?_
  refine n_si (x := 550) (v := 550) F (by decide +kernel) (by decide) ?_
  refine n_ic (x := 5) (v := 5) F (by decide +kernel) (by decide) ?_
  refine n_iln (k := 1) F (by decide +kernel) rfl (j := 0) rfl ?_
  refine n_mul (z := 15) F (by decide +kernel) (by decide) ?_
  refine n_add (z := 565) F (by decide +kernel) (by decide) ?_
  refine n_ic (x := 2) (v := 2) F (by decide +kernel) (by decide) ?_
  refine n_add (z := 567) F (by decide +kernel) (by decide) ?_
  refine n_bi (x := 80) (v := 80) F (by decide +kernel) (by decide) ?_
  refine n_ia (j := 1) (n := 635) (f := tk25) (o' := .inl (cA 20, 635, .inl tk26)) F (by decide +kernel) rfl (by unfold vp_in; decide) rfl ?_
  refine n_ws (ws' := (h, .inr (11, [.ref q1, .ref q2, .ref q3, .int 0, .ref q4, .ref q5, .int 0, .int 0, .int 0, .int 0, .int 0, .int 0, .int 0, .int 0, .int 0, .int (-1), .long 0, .long 0, .long 0, .ref q6, .ref q7, .ref q8, .ref q9, .ref q10, .long 0, .long 0, .long 0, .ref q11, .ref q12, .ref q13, .ref q14, .ref q15, .int 0, .ref q16, .ref q17, .ref q18])) :: ([(q1, .inl (cA 20, 635, .inl tk26)), (q2, .inl (cA 20, 1905, .inl (fun _ => 0))), (q3, .inl (cA 22, 3, .inl (fun _ => 0))), (q4, .inl (cA 20, 800, .inl (fun _ => 0))), (q5, .inl (cA 20, 550, .inl (fun _ => 0))), (q6, .inl (cA 20, 2, .inl (fun _ => 0))), (q7, .inl (cA 20, 9, .inl (fun _ => 0))), (q8, .inl (cA 20, 9, .inl (fun _ => 0))), (q9, .inl (cA 23, 8, .inr (.inl (fun _ => 0)))), (q10, .inl (cA 23, 8, .inr (.inl (fun _ => 0)))), (q11, .inl (cA 20, 9, .inl (fun _ => 0))), (q12, .inl (cA 20, 9, .inl (fun _ => 0))), (q13, .inl (cA 20, 512, .inl (fun _ => 0))), (q14, .inl (cA 20, 6, .inl (fun _ => 0))), (q15, .inl (cA 20, 6, .inl (fun _ => 0))), (q16, .inl (cA 20, 4, .inl tk8)), (q17, .inl (cA 20, 4, .inl (fun _ => 0))), (q18, .inl (cA 23, 160, .inr (.inl (fun _ => 0))))])) (cells' := 18) (slots' := 4639) rfl rfl rfl ?_
  refine n_aln (k := 0) F (by decide +kernel) rfl (j := 1) rfl ?_
  refine n_get (idx := 9) (ci := 11) (k := 0) (j := 0) (fs := [.ref q1, .ref q2, .ref q3, .int 0, .ref q4, .ref q5, .int 0, .int 0, .int 0, .int 0, .int 0, .int 0, .int 0, .int 0, .int 0, .int (-1), .long 0, .long 0, .long 0, .ref q6, .ref q7, .ref q8, .ref q9, .ref q10, .long 0, .long 0, .long 0, .ref q11, .ref q12, .ref q13, .ref q14, .ref q15, .int 0, .ref q16, .ref q17, .ref q18]) (v := .ref q1) F (by decide +kernel) rfl rfl (by decide) (mBW_of 1575 (by decide +kernel)) rfl ?_
  refine n_si (x := 550) (v := 550) F (by decide +kernel) (by decide) ?_
  refine n_ic (x := 5) (v := 5) F (by decide +kernel) (by decide) ?_
  refine n_iln (k := 1) F (by decide +kernel) rfl (j := 0) rfl ?_
  refine n_mul (z := 15) F (by decide +kernel) (by decide) ?_
  refine n_add (z := 565) F (by decide +kernel) (by decide) ?_
  refine n_ic (x := 3) (v := 3) F (by decide +kernel) (by decide) ?_
  refine n_add (z := 568) F (by decide +kernel) (by decide) ?_
  refine n_bi (x := 10) (v := 10) F (by decide +kernel) (by decide) ?_
  refine n_ia (j := 1) (n := 635) (f := tk26) (o' := .inl (cA 20, 635, .inl tk27)) F (by decide +kernel) rfl (by unfold vp_in; decide) rfl ?_
  refine n_ws (ws' := (h, .inr (11, [.ref q1, .ref q2, .ref q3, .int 0, .ref q4, .ref q5, .int 0, .int 0, .int 0, .int 0, .int 0, .int 0, .int 0, .int 0, .int 0, .int (-1), .long 0, .long 0, .long 0, .ref q6, .ref q7, .ref q8, .ref q9, .ref q10, .long 0, .long 0, .long 0, .ref q11, .ref q12, .ref q13, .ref q14, .ref q15, .int 0, .ref q16, .ref q17, .ref q18])) :: ([(q1, .inl (cA 20, 635, .inl tk27)), (q2, .inl (cA 20, 1905, .inl (fun _ => 0))), (q3, .inl (cA 22, 3, .inl (fun _ => 0))), (q4, .inl (cA 20, 800, .inl (fun _ => 0))), (q5, .inl (cA 20, 550, .inl (fun _ => 0))), (q6, .inl (cA 20, 2, .inl (fun _ => 0))), (q7, .inl (cA 20, 9, .inl (fun _ => 0))), (q8, .inl (cA 20, 9, .inl (fun _ => 0))), (q9, .inl (cA 23, 8, .inr (.inl (fun _ => 0)))), (q10, .inl (cA 23, 8, .inr (.inl (fun _ => 0)))), (q11, .inl (cA 20, 9, .inl (fun _ => 0))), (q12, .inl (cA 20, 9, .inl (fun _ => 0))), (q13, .inl (cA 20, 512, .inl (fun _ => 0))), (q14, .inl (cA 20, 6, .inl (fun _ => 0))), (q15, .inl (cA 20, 6, .inl (fun _ => 0))), (q16, .inl (cA 20, 4, .inl tk8)), (q17, .inl (cA 20, 4, .inl (fun _ => 0))), (q18, .inl (cA 23, 160, .inr (.inl (fun _ => 0))))])) (cells' := 18) (slots' := 4639) rfl rfl rfl ?_
  refine n_aln (k := 0) F (by decide +kernel) rfl (j := 1) rfl ?_
  refine n_get (idx := 9) (ci := 11) (k := 0) (j := 0) (fs := [.ref q1, .ref q2, .ref q3, .int 0, .ref q4, .ref q5, .int 0, .int 0, .int 0, .int 0, .int 0, .int 0, .int 0, .int 0, .int 0, .int (-1), .long 0, .long 0, .long 0, .ref q6, .ref q7, .ref q8, .ref q9, .ref q10, .long 0, .long 0, .long 0, .ref q11, .ref q12, .ref q13, .ref q14, .ref q15, .int 0, .ref q16, .ref q17, .ref q18]) (v := .ref q1) F (by decide +kernel) rfl rfl (by decide) (mBW_of 1575 (by decide +kernel)) rfl ?_
  refine n_si (x := 550) (v := 550) F (by decide +kernel) (by decide) ?_
  refine n_ic (x := 5) (v := 5) F (by decide +kernel) (by decide) ?_
  refine n_iln (k := 1) F (by decide +kernel) rfl (j := 0) rfl ?_
  refine n_mul (z := 15) F (by decide +kernel) (by decide) ?_
  refine n_add (z := 565) F (by decide +kernel) (by decide) ?_
  refine n_ic (x := 4) (v := 4) F (by decide +kernel) (by decide) ?_
  refine n_add (z := 569) F (by decide +kernel) (by decide) ?_
  refine n_ic (x := 1) (v := 1) F (by decide +kernel) (by decide) ?_
  refine n_ia (j := 1) (n := 635) (f := tk27) (o' := .inl (cA 20, 635, .inl tk28)) F (by decide +kernel) rfl (by unfold vp_in; decide) rfl ?_
  refine n_ws (ws' := (h, .inr (11, [.ref q1, .ref q2, .ref q3, .int 0, .ref q4, .ref q5, .int 0, .int 0, .int 0, .int 0, .int 0, .int 0, .int 0, .int 0, .int 0, .int (-1), .long 0, .long 0, .long 0, .ref q6, .ref q7, .ref q8, .ref q9, .ref q10, .long 0, .long 0, .long 0, .ref q11, .ref q12, .ref q13, .ref q14, .ref q15, .int 0, .ref q16, .ref q17, .ref q18])) :: ([(q1, .inl (cA 20, 635, .inl tk28)), (q2, .inl (cA 20, 1905, .inl (fun _ => 0))), (q3, .inl (cA 22, 3, .inl (fun _ => 0))), (q4, .inl (cA 20, 800, .inl (fun _ => 0))), (q5, .inl (cA 20, 550, .inl (fun _ => 0))), (q6, .inl (cA 20, 2, .inl (fun _ => 0))), (q7, .inl (cA 20, 9, .inl (fun _ => 0))), (q8, .inl (cA 20, 9, .inl (fun _ => 0))), (q9, .inl (cA 23, 8, .inr (.inl (fun _ => 0)))), (q10, .inl (cA 23, 8, .inr (.inl (fun _ => 0)))), (q11, .inl (cA 20, 9, .inl (fun _ => 0))), (q12, .inl (cA 20, 9, .inl (fun _ => 0))), (q13, .inl (cA 20, 512, .inl (fun _ => 0))), (q14, .inl (cA 20, 6, .inl (fun _ => 0))), (q15, .inl (cA 20, 6, .inl (fun _ => 0))), (q16, .inl (cA 20, 4, .inl tk8)), (q17, .inl (cA 20, 4, .inl (fun _ => 0))), (q18, .inl (cA 23, 160, .inr (.inl (fun _ => 0))))])) (cells' := 18) (slots' := 4639) rfl rfl rfl ?_
  refine n_inc (i := 1) (n := 1) (k := 0) (v := 4) (lv' := [(1, .int 4), (0, .ref h)]) F (by decide +kernel) rfl (by decide) (by decide) rfl ?_
  refine n_go (off := -84) (tgt := 180) F (by decide +kernel) (by decide) ?_
  refine n_iln (k := 1) F (by decide +kernel) rfl (j := 0) rfl ?_
  refine n_bi (x := 9) (v := 9) F (by decide +kernel) (by decide) ?_
  refine n_get_lt (off := 84) (tgt := 267) F (by decide +kernel) (by decide) (by decide) ?_
  refine n_aln (k := 0) F (by decide +kernel) rfl (j := 1) rfl ?_
  refine n_get (idx := 9) (ci := 11) (k := 0) (j := 0) (fs := [.ref q1, .ref q2, .ref q3, .int 0, .ref q4, .ref q5, .int 0, .int 0, .int 0, .int 0, .int 0, .int 0, .int 0, .int 0, .int 0, .int (-1), .long 0, .long 0, .long 0, .ref q6, .ref q7, .ref q8, .ref q9, .ref q10, .long 0, .long 0, .long 0, .ref q11, .ref q12, .ref q13, .ref q14, .ref q15, .int 0, .ref q16, .ref q17, .ref q18]) (v := .ref q1) F (by decide +kernel) rfl rfl (by decide) (mBW_of 1575 (by decide +kernel)) rfl ?_
  refine n_si (x := 550) (v := 550) F (by decide +kernel) (by decide) ?_
  refine n_ic (x := 5) (v := 5) F (by decide +kernel) (by decide) ?_
  refine n_iln (k := 1) F (by decide +kernel) rfl (j := 0) rfl ?_
  refine n_mul (z := 20) F (by decide +kernel) (by decide) ?_
  refine n_add (z := 570) F (by decide +kernel) (by decide) ?_
  refine n_ic (x := -1) (v := (-1)) F (by decide +kernel) (by decide) ?_
  refine n_ia (j := 1) (n := 635) (f := tk28) (o' := .inl (cA 20, 635, .inl tk29)) F (by decide +kernel) rfl (by unfold vp_in; decide) rfl ?_
  refine n_ws (ws' := (h, .inr (11, [.ref q1, .ref q2, .ref q3, .int 0, .ref q4, .ref q5, .int 0, .int 0, .int 0, .int 0, .int 0, .int 0, .int 0, .int 0, .int 0, .int (-1), .long 0, .long 0, .long 0, .ref q6, .ref q7, .ref q8, .ref q9, .ref q10, .long 0, .long 0, .long 0, .ref q11, .ref q12, .ref q13, .ref q14, .ref q15, .int 0, .ref q16, .ref q17, .ref q18])) :: ([(q1, .inl (cA 20, 635, .inl tk29)), (q2, .inl (cA 20, 1905, .inl (fun _ => 0))), (q3, .inl (cA 22, 3, .inl (fun _ => 0))), (q4, .inl (cA 20, 800, .inl (fun _ => 0))), (q5, .inl (cA 20, 550, .inl (fun _ => 0))), (q6, .inl (cA 20, 2, .inl (fun _ => 0))), (q7, .inl (cA 20, 9, .inl (fun _ => 0))), (q8, .inl (cA 20, 9, .inl (fun _ => 0))), (q9, .inl (cA 23, 8, .inr (.inl (fun _ => 0)))), (q10, .inl (cA 23, 8, .inr (.inl (fun _ => 0)))), (q11, .inl (cA 20, 9, .inl (fun _ => 0))), (q12, .inl (cA 20, 9, .inl (fun _ => 0))), (q13, .inl (cA 20, 512, .inl (fun _ => 0))), (q14, .inl (cA 20, 6, .inl (fun _ => 0))), (q15, .inl (cA 20, 6, .inl (fun _ => 0))), (q16, .inl (cA 20, 4, .inl tk8)), (q17, .inl (cA 20, 4, .inl (fun _ => 0))), (q18, .inl (cA 23, 160, .inr (.inl (fun _ => 0))))])) (cells' := 18) (slots' := 4639) rfl rfl rfl ?_
  refine n_aln (k := 0) F (by decide +kernel) rfl (j := 1) rfl ?_
  refine n_get (idx := 9) (ci := 11) (k := 0) (j := 0) (fs := [.ref q1, .ref q2, .ref q3, .int 0, .ref q4, .ref q5, .int 0, .int 0, .int 0, .int 0, .int 0, .int 0, .int 0, .int 0, .int 0, .int (-1), .long 0, .long 0, .long 0, .ref q6, .ref q7, .ref q8, .ref q9, .ref q10, .long 0, .long 0, .long 0, .ref q11, .ref q12, .ref q13, .ref q14, .ref q15, .int 0, .ref q16, .ref q17, .ref q18]) (v := .ref q1) F (by decide +kernel) rfl rfl (by decide) (mBW_of 1575 (by decide +kernel)) rfl ?_
  refine n_si (x := 550) (v := 550) F (by decide +kernel) (by decide) ?_
  refine n_ic (x := 5) (v := 5) F (by decide +kernel) (by decide) ?_
  refine n_iln (k := 1) F (by decide +kernel) rfl (j := 0) rfl ?_
  refine n_mul (z := 20) F (by decide +kernel) (by decide) ?_
  refine n_add (z := 570) F (by decide +kernel) (by decide) ?_
  refine n_ic (x := 1) (v := 1) F (by decide +kernel) (by decide) ?_
  refine n_add (z := 571) F (by decide +kernel) (by decide) ?_
  refine n_ic (x := 3) (v := 3) F (by decide +kernel) (by decide) ?_
  refine n_ia (j := 1) (n := 635) (f := tk29) (o' := .inl (cA 20, 635, .inl tk30)) F (by decide +kernel) rfl (by unfold vp_in; decide) rfl ?_
  refine n_ws (ws' := (h, .inr (11, [.ref q1, .ref q2, .ref q3, .int 0, .ref q4, .ref q5, .int 0, .int 0, .int 0, .int 0, .int 0, .int 0, .int 0, .int 0, .int 0, .int (-1), .long 0, .long 0, .long 0, .ref q6, .ref q7, .ref q8, .ref q9, .ref q10, .long 0, .long 0, .long 0, .ref q11, .ref q12, .ref q13, .ref q14, .ref q15, .int 0, .ref q16, .ref q17, .ref q18])) :: ([(q1, .inl (cA 20, 635, .inl tk30)), (q2, .inl (cA 20, 1905, .inl (fun _ => 0))), (q3, .inl (cA 22, 3, .inl (fun _ => 0))), (q4, .inl (cA 20, 800, .inl (fun _ => 0))), (q5, .inl (cA 20, 550, .inl (fun _ => 0))), (q6, .inl (cA 20, 2, .inl (fun _ => 0))), (q7, .inl (cA 20, 9, .inl (fun _ => 0))), (q8, .inl (cA 20, 9, .inl (fun _ => 0))), (q9, .inl (cA 23, 8, .inr (.inl (fun _ => 0)))), (q10, .inl (cA 23, 8, .inr (.inl (fun _ => 0)))), (q11, .inl (cA 20, 9, .inl (fun _ => 0))), (q12, .inl (cA 20, 9, .inl (fun _ => 0))), (q13, .inl (cA 20, 512, .inl (fun _ => 0))), (q14, .inl (cA 20, 6, .inl (fun _ => 0))), (q15, .inl (cA 20, 6, .inl (fun _ => 0))), (q16, .inl (cA 20, 4, .inl tk8)), (q17, .inl (cA 20, 4, .inl (fun _ => 0))), (q18, .inl (cA 23, 160, .inr (.inl (fun _ => 0))))])) (cells' := 18) (slots' := 4639) rfl rfl rfl ?_
  refine n_aln (k := 0) F (by decide +kernel) rfl (j := 1) rfl ?_
  refine n_get (idx := 9) (ci := 11) (k := 0) (j := 0) (fs := [.ref q1, .ref q2, .ref q3, .int 0, .ref q4, .ref q5, .int 0, .int 0, .int 0, .int 0, .int 0, .int 0, .int 0, .int 0, .int 0, .int (-1), .long 0, .long 0, .long 0, .ref q6, .ref q7, .ref q8, .ref q9, .ref q10, .long 0, .long 0, .long 0, .ref q11, .ref q12, .ref q13, .ref q14, .ref q15, .int 0, .ref q16, .ref q17, .ref q18]) (v := .ref q1) F (by decide +kernel) rfl rfl (by decide) (mBW_of 1575 (by decide +kernel)) rfl ?_
  refine n_si (x := 550) (v := 550) F (by decide +kernel) (by decide) ?_
  refine n_ic (x := 5) (v := 5) F (by decide +kernel) (by decide) ?_
  refine n_iln (k := 1) F (by decide +kernel) rfl (j := 0) rfl ?_
  refine n_mul (z := 20) F (by decide +kernel) (by decide) ?_
  refine n_add (z := 570) F (by decide +kernel) (by decide) ?_
  refine n_ic (x := 2) (v := 2) F (by decide +kernel) (by decide) ?_
  refine n_add (z := 572) F (by decide +kernel) (by decide) ?_
  refine n_bi (x := 80) (v := 80) F (by decide +kernel) (by decide) ?_
  refine n_ia (j := 1) (n := 635) (f := tk30) (o' := .inl (cA 20, 635, .inl tk31)) F (by decide +kernel) rfl (by unfold vp_in; decide) rfl ?_
  refine n_ws (ws' := (h, .inr (11, [.ref q1, .ref q2, .ref q3, .int 0, .ref q4, .ref q5, .int 0, .int 0, .int 0, .int 0, .int 0, .int 0, .int 0, .int 0, .int 0, .int (-1), .long 0, .long 0, .long 0, .ref q6, .ref q7, .ref q8, .ref q9, .ref q10, .long 0, .long 0, .long 0, .ref q11, .ref q12, .ref q13, .ref q14, .ref q15, .int 0, .ref q16, .ref q17, .ref q18])) :: ([(q1, .inl (cA 20, 635, .inl tk31)), (q2, .inl (cA 20, 1905, .inl (fun _ => 0))), (q3, .inl (cA 22, 3, .inl (fun _ => 0))), (q4, .inl (cA 20, 800, .inl (fun _ => 0))), (q5, .inl (cA 20, 550, .inl (fun _ => 0))), (q6, .inl (cA 20, 2, .inl (fun _ => 0))), (q7, .inl (cA 20, 9, .inl (fun _ => 0))), (q8, .inl (cA 20, 9, .inl (fun _ => 0))), (q9, .inl (cA 23, 8, .inr (.inl (fun _ => 0)))), (q10, .inl (cA 23, 8, .inr (.inl (fun _ => 0)))), (q11, .inl (cA 20, 9, .inl (fun _ => 0))), (q12, .inl (cA 20, 9, .inl (fun _ => 0))), (q13, .inl (cA 20, 512, .inl (fun _ => 0))), (q14, .inl (cA 20, 6, .inl (fun _ => 0))), (q15, .inl (cA 20, 6, .inl (fun _ => 0))), (q16, .inl (cA 20, 4, .inl tk8)), (q17, .inl (cA 20, 4, .inl (fun _ => 0))), (q18, .inl (cA 23, 160, .inr (.inl (fun _ => 0))))])) (cells' := 18) (slots' := 4639) rfl rfl rfl ?_
  refine n_aln (k := 0) F (by decide +kernel) rfl (j := 1) rfl ?_
  refine n_get (idx := 9) (ci := 11) (k := 0) (j := 0) (fs := [.ref q1, .ref q2, .ref q3, .int 0, .ref q4, .ref q5, .int 0, .int 0, .int 0, .int 0, .int 0, .int 0, .int 0, .int 0, .int 0, .int (-1), .long 0, .long 0, .long 0, .ref q6, .ref q7, .ref q8, .ref q9, .ref q10, .long 0, .long 0, .long 0, .ref q11, .ref q12, .ref q13, .ref q14, .ref q15, .int 0, .ref q16, .ref q17, .ref q18]) (v := .ref q1) F (by decide +kernel) rfl rfl (by decide) (mBW_of 1575 (by decide +kernel)) rfl ?_
  refine n_si (x := 550) (v := 550) F (by decide +kernel) (by decide) ?_
  refine n_ic (x := 5) (v := 5) F (by decide +kernel) (by decide) ?_
  refine n_iln (k := 1) F (by decide +kernel) rfl (j := 0) rfl ?_
  refine n_mul (z := 20) F (by decide +kernel) (by decide) ?_
  refine n_add (z := 570) F (by decide +kernel) (by decide) ?_
  refine n_ic (x := 3) (v := 3) F (by decide +kernel) (by decide) ?_
  refine n_add (z := 573) F (by decide +kernel) (by decide) ?_
  refine n_bi (x := 10) (v := 10) F (by decide +kernel) (by decide) ?_
  refine n_ia (j := 1) (n := 635) (f := tk31) (o' := .inl (cA 20, 635, .inl tk32)) F (by decide +kernel) rfl (by unfold vp_in; decide) rfl ?_
  refine n_ws (ws' := (h, .inr (11, [.ref q1, .ref q2, .ref q3, .int 0, .ref q4, .ref q5, .int 0, .int 0, .int 0, .int 0, .int 0, .int 0, .int 0, .int 0, .int 0, .int (-1), .long 0, .long 0, .long 0, .ref q6, .ref q7, .ref q8, .ref q9, .ref q10, .long 0, .long 0, .long 0, .ref q11, .ref q12, .ref q13, .ref q14, .ref q15, .int 0, .ref q16, .ref q17, .ref q18])) :: ([(q1, .inl (cA 20, 635, .inl tk32)), (q2, .inl (cA 20, 1905, .inl (fun _ => 0))), (q3, .inl (cA 22, 3, .inl (fun _ => 0))), (q4, .inl (cA 20, 800, .inl (fun _ => 0))), (q5, .inl (cA 20, 550, .inl (fun _ => 0))), (q6, .inl (cA 20, 2, .inl (fun _ => 0))), (q7, .inl (cA 20, 9, .inl (fun _ => 0))), (q8, .inl (cA 20, 9, .inl (fun _ => 0))), (q9, .inl (cA 23, 8, .inr (.inl (fun _ => 0)))), (q10, .inl (cA 23, 8, .inr (.inl (fun _ => 0)))), (q11, .inl (cA 20, 9, .inl (fun _ => 0))), (q12, .inl (cA 20, 9, .inl (fun _ => 0))), (q13, .inl (cA 20, 512, .inl (fun _ => 0))), (q14, .inl (cA 20, 6, .inl (fun _ => 0))), (q15, .inl (cA 20, 6, .inl (fun _ => 0))), (q16, .inl (cA 20, 4, .inl tk8)), (q17, .inl (cA 20, 4, .inl (fun _ => 0))), (q18, .inl (cA 23, 160, .inr (.inl (fun _ => 0))))])) (cells' := 18) (slots' := 4639) rfl rfl rfl ?_
  refine n_aln (k := 0) F (by decide +kernel) rfl (j := 1) rfl ?_
  refine n_get (idx := 9) (ci := 11) (k := 0) (j := 0) (fs := [.ref q1, .ref q2, .ref q3, .int 0, .ref q4, .ref q5, .int 0, .int 0, .int 0, .int 0, .int 0, .int 0, .int 0, .int 0, .int 0, .int (-1), .long 0, .long 0, .long 0, .ref q6, .ref q7, .ref q8, .ref q9, .ref q10, .long 0, .long 0, .long 0, .ref q11, .ref q12, .ref q13, .ref q14, .ref q15, .int 0, .ref q16, .ref q17, .ref q18]) (v := .ref q1) F (by decide +kernel) rfl rfl (by decide) (mBW_of 1575 (by decide +kernel)) rfl ?_
  refine n_si (x := 550) (v := 550) F (by decide +kernel) (by decide) ?_
  refine n_ic (x := 5) (v := 5) F (by decide +kernel) (by decide) ?_
  refine n_iln (k := 1) F (by decide +kernel) rfl (j := 0) rfl ?_
  refine n_mul (z := 20) F (by decide +kernel) (by decide) ?_
  refine n_add (z := 570) F (by decide +kernel) (by decide) ?_
  refine n_ic (x := 4) (v := 4) F (by decide +kernel) (by decide) ?_
  refine n_add (z := 574) F (by decide +kernel) (by decide) ?_
  refine n_ic (x := 1) (v := 1) F (by decide +kernel) (by decide) ?_
  refine n_ia (j := 1) (n := 635) (f := tk32) (o' := .inl (cA 20, 635, .inl tk33)) F (by decide +kernel) rfl (by unfold vp_in; decide) rfl ?_
  refine n_ws (ws' := (h, .inr (11, [.ref q1, .ref q2, .ref q3, .int 0, .ref q4, .ref q5, .int 0, .int 0, .int 0, .int 0, .int 0, .int 0, .int 0, .int 0, .int 0, .int (-1), .long 0, .long 0, .long 0, .ref q6, .ref q7, .ref q8, .ref q9, .ref q10, .long 0, .long 0, .long 0, .ref q11, .ref q12, .ref q13, .ref q14, .ref q15, .int 0, .ref q16, .ref q17, .ref q18])) :: ([(q1, .inl (cA 20, 635, .inl tk33)), (q2, .inl (cA 20, 1905, .inl (fun _ => 0))), (q3, .inl (cA 22, 3, .inl (fun _ => 0))), (q4, .inl (cA 20, 800, .inl (fun _ => 0))), (q5, .inl (cA 20, 550, .inl (fun _ => 0))), (q6, .inl (cA 20, 2, .inl (fun _ => 0))), (q7, .inl (cA 20, 9, .inl (fun _ => 0))), (q8, .inl (cA 20, 9, .inl (fun _ => 0))), (q9, .inl (cA 23, 8, .inr (.inl (fun _ => 0)))), (q10, .inl (cA 23, 8, .inr (.inl (fun _ => 0)))), (q11, .inl (cA 20, 9, .inl (fun _ => 0))), (q12, .inl (cA 20, 9, .inl (fun _ => 0))), (q13, .inl (cA 20, 512, .inl (fun _ => 0))), (q14, .inl (cA 20, 6, .inl (fun _ => 0))), (q15, .inl (cA 20, 6, .inl (fun _ => 0))), (q16, .inl (cA 20, 4, .inl tk8)), (q17, .inl (cA 20, 4, .inl (fun _ => 0))), (q18, .inl (cA 23, 160, .inr (.inl (fun _ => 0))))])) (cells' := 18) (slots' := 4639) rfl rfl rfl ?_
  refine n_inc (i := 1) (n := 1) (k := 0) (v := 5) (lv' := [(1, .int 5), (0, .ref h)]) F (by decide +kernel) rfl (by decide) (by decide) rfl ?_
  refine n_go (off := -84) (tgt := 180) F (by decide +kernel) (by decide) ?_
  refine n_iln (k := 1) F (by decide +kernel) rfl (j := 0) rfl ?_
  refine n_bi (x := 9) (v := 9) F (by decide +kernel) (by decide) ?_
  refine n_get_lt (off := 84) (tgt := 267) F (by decide +kernel) (by decide) (by decide) ?_
  refine n_aln (k := 0) F (by decide +kernel) rfl (j := 1) rfl ?_
  refine n_get (idx := 9) (ci := 11) (k := 0) (j := 0) (fs := [.ref q1, .ref q2, .ref q3, .int 0, .ref q4, .ref q5, .int 0, .int 0, .int 0, .int 0, .int 0, .int 0, .int 0, .int 0, .int 0, .int (-1), .long 0, .long 0, .long 0, .ref q6, .ref q7, .ref q8, .ref q9, .ref q10, .long 0, .long 0, .long 0, .ref q11, .ref q12, .ref q13, .ref q14, .ref q15, .int 0, .ref q16, .ref q17, .ref q18]) (v := .ref q1) F (by decide +kernel) rfl rfl (by decide) (mBW_of 1575 (by decide +kernel)) rfl ?_
  refine n_si (x := 550) (v := 550) F (by decide +kernel) (by decide) ?_
  refine n_ic (x := 5) (v := 5) F (by decide +kernel) (by decide) ?_
  refine n_iln (k := 1) F (by decide +kernel) rfl (j := 0) rfl ?_
  refine n_mul (z := 25) F (by decide +kernel) (by decide) ?_
  refine n_add (z := 575) F (by decide +kernel) (by decide) ?_
  refine n_ic (x := -1) (v := (-1)) F (by decide +kernel) (by decide) ?_
  refine n_ia (j := 1) (n := 635) (f := tk33) (o' := .inl (cA 20, 635, .inl tk34)) F (by decide +kernel) rfl (by unfold vp_in; decide) rfl ?_
  refine n_ws (ws' := (h, .inr (11, [.ref q1, .ref q2, .ref q3, .int 0, .ref q4, .ref q5, .int 0, .int 0, .int 0, .int 0, .int 0, .int 0, .int 0, .int 0, .int 0, .int (-1), .long 0, .long 0, .long 0, .ref q6, .ref q7, .ref q8, .ref q9, .ref q10, .long 0, .long 0, .long 0, .ref q11, .ref q12, .ref q13, .ref q14, .ref q15, .int 0, .ref q16, .ref q17, .ref q18])) :: ([(q1, .inl (cA 20, 635, .inl tk34)), (q2, .inl (cA 20, 1905, .inl (fun _ => 0))), (q3, .inl (cA 22, 3, .inl (fun _ => 0))), (q4, .inl (cA 20, 800, .inl (fun _ => 0))), (q5, .inl (cA 20, 550, .inl (fun _ => 0))), (q6, .inl (cA 20, 2, .inl (fun _ => 0))), (q7, .inl (cA 20, 9, .inl (fun _ => 0))), (q8, .inl (cA 20, 9, .inl (fun _ => 0))), (q9, .inl (cA 23, 8, .inr (.inl (fun _ => 0)))), (q10, .inl (cA 23, 8, .inr (.inl (fun _ => 0)))), (q11, .inl (cA 20, 9, .inl (fun _ => 0))), (q12, .inl (cA 20, 9, .inl (fun _ => 0))), (q13, .inl (cA 20, 512, .inl (fun _ => 0))), (q14, .inl (cA 20, 6, .inl (fun _ => 0))), (q15, .inl (cA 20, 6, .inl (fun _ => 0))), (q16, .inl (cA 20, 4, .inl tk8)), (q17, .inl (cA 20, 4, .inl (fun _ => 0))), (q18, .inl (cA 23, 160, .inr (.inl (fun _ => 0))))])) (cells' := 18) (slots' := 4639) rfl rfl rfl ?_
  refine n_aln (k := 0) F (by decide +kernel) rfl (j := 1) rfl ?_
  refine n_get (idx := 9) (ci := 11) (k := 0) (j := 0) (fs := [.ref q1, .ref q2, .ref q3, .int 0, .ref q4, .ref q5, .int 0, .int 0, .int 0, .int 0, .int 0, .int 0, .int 0, .int 0, .int 0, .int (-1), .long 0, .long 0, .long 0, .ref q6, .ref q7, .ref q8, .ref q9, .ref q10, .long 0, .long 0, .long 0, .ref q11, .ref q12, .ref q13, .ref q14, .ref q15, .int 0, .ref q16, .ref q17, .ref q18]) (v := .ref q1) F (by decide +kernel) rfl rfl (by decide) (mBW_of 1575 (by decide +kernel)) rfl ?_
  refine n_si (x := 550) (v := 550) F (by decide +kernel) (by decide) ?_
  refine n_ic (x := 5) (v := 5) F (by decide +kernel) (by decide) ?_
  refine n_iln (k := 1) F (by decide +kernel) rfl (j := 0) rfl ?_
  refine n_mul (z := 25) F (by decide +kernel) (by decide) ?_
  refine n_add (z := 575) F (by decide +kernel) (by decide) ?_
  refine n_ic (x := 1) (v := 1) F (by decide +kernel) (by decide) ?_
  refine n_add (z := 576) F (by decide +kernel) (by decide) ?_
  refine n_ic (x := 3) (v := 3) F (by decide +kernel) (by decide) ?_
  refine n_ia (j := 1) (n := 635) (f := tk34) (o' := .inl (cA 20, 635, .inl tk35)) F (by decide +kernel) rfl (by unfold vp_in; decide) rfl ?_
  refine n_ws (ws' := (h, .inr (11, [.ref q1, .ref q2, .ref q3, .int 0, .ref q4, .ref q5, .int 0, .int 0, .int 0, .int 0, .int 0, .int 0, .int 0, .int 0, .int 0, .int (-1), .long 0, .long 0, .long 0, .ref q6, .ref q7, .ref q8, .ref q9, .ref q10, .long 0, .long 0, .long 0, .ref q11, .ref q12, .ref q13, .ref q14, .ref q15, .int 0, .ref q16, .ref q17, .ref q18])) :: ([(q1, .inl (cA 20, 635, .inl tk35)), (q2, .inl (cA 20, 1905, .inl (fun _ => 0))), (q3, .inl (cA 22, 3, .inl (fun _ => 0))), (q4, .inl (cA 20, 800, .inl (fun _ => 0))), (q5, .inl (cA 20, 550, .inl (fun _ => 0))), (q6, .inl (cA 20, 2, .inl (fun _ => 0))), (q7, .inl (cA 20, 9, .inl (fun _ => 0))), (q8, .inl (cA 20, 9, .inl (fun _ => 0))), (q9, .inl (cA 23, 8, .inr (.inl (fun _ => 0)))), (q10, .inl (cA 23, 8, .inr (.inl (fun _ => 0)))), (q11, .inl (cA 20, 9, .inl (fun _ => 0))), (q12, .inl (cA 20, 9, .inl (fun _ => 0))), (q13, .inl (cA 20, 512, .inl (fun _ => 0))), (q14, .inl (cA 20, 6, .inl (fun _ => 0))), (q15, .inl (cA 20, 6, .inl (fun _ => 0))), (q16, .inl (cA 20, 4, .inl tk8)), (q17, .inl (cA 20, 4, .inl (fun _ => 0))), (q18, .inl (cA 23, 160, .inr (.inl (fun _ => 0))))])) (cells' := 18) (slots' := 4639) rfl rfl rfl ?_
  refine n_aln (k := 0) F (by decide +kernel) rfl (j := 1) rfl ?_
  refine n_get (idx := 9) (ci := 11) (k := 0) (j := 0) (fs := [.ref q1, .ref q2, .ref q3, .int 0, .ref q4, .ref q5, .int 0, .int 0, .int 0, .int 0, .int 0, .int 0, .int 0, .int 0, .int 0, .int (-1), .long 0, .long 0, .long 0, .ref q6, .ref q7, .ref q8, .ref q9, .ref q10, .long 0, .long 0, .long 0, .ref q11, .ref q12, .ref q13, .ref q14, .ref q15, .int 0, .ref q16, .ref q17, .ref q18]) (v := .ref q1) F (by decide +kernel) rfl rfl (by decide) (mBW_of 1575 (by decide +kernel)) rfl ?_
  refine n_si (x := 550) (v := 550) F (by decide +kernel) (by decide) ?_
  refine n_ic (x := 5) (v := 5) F (by decide +kernel) (by decide) ?_
  refine n_iln (k := 1) F (by decide +kernel) rfl (j := 0) rfl ?_
  refine n_mul (z := 25) F (by decide +kernel) (by decide) ?_
  refine n_add (z := 575) F (by decide +kernel) (by decide) ?_
  refine n_ic (x := 2) (v := 2) F (by decide +kernel) (by decide) ?_
  refine n_add (z := 577) F (by decide +kernel) (by decide) ?_
  refine n_bi (x := 80) (v := 80) F (by decide +kernel) (by decide) ?_
  refine n_ia (j := 1) (n := 635) (f := tk35) (o' := .inl (cA 20, 635, .inl tk36)) F (by decide +kernel) rfl (by unfold vp_in; decide) rfl ?_
  refine n_ws (ws' := (h, .inr (11, [.ref q1, .ref q2, .ref q3, .int 0, .ref q4, .ref q5, .int 0, .int 0, .int 0, .int 0, .int 0, .int 0, .int 0, .int 0, .int 0, .int (-1), .long 0, .long 0, .long 0, .ref q6, .ref q7, .ref q8, .ref q9, .ref q10, .long 0, .long 0, .long 0, .ref q11, .ref q12, .ref q13, .ref q14, .ref q15, .int 0, .ref q16, .ref q17, .ref q18])) :: ([(q1, .inl (cA 20, 635, .inl tk36)), (q2, .inl (cA 20, 1905, .inl (fun _ => 0))), (q3, .inl (cA 22, 3, .inl (fun _ => 0))), (q4, .inl (cA 20, 800, .inl (fun _ => 0))), (q5, .inl (cA 20, 550, .inl (fun _ => 0))), (q6, .inl (cA 20, 2, .inl (fun _ => 0))), (q7, .inl (cA 20, 9, .inl (fun _ => 0))), (q8, .inl (cA 20, 9, .inl (fun _ => 0))), (q9, .inl (cA 23, 8, .inr (.inl (fun _ => 0)))), (q10, .inl (cA 23, 8, .inr (.inl (fun _ => 0)))), (q11, .inl (cA 20, 9, .inl (fun _ => 0))), (q12, .inl (cA 20, 9, .inl (fun _ => 0))), (q13, .inl (cA 20, 512, .inl (fun _ => 0))), (q14, .inl (cA 20, 6, .inl (fun _ => 0))), (q15, .inl (cA 20, 6, .inl (fun _ => 0))), (q16, .inl (cA 20, 4, .inl tk8)), (q17, .inl (cA 20, 4, .inl (fun _ => 0))), (q18, .inl (cA 23, 160, .inr (.inl (fun _ => 0))))])) (cells' := 18) (slots' := 4639) rfl rfl rfl ?_
  refine n_aln (k := 0) F (by decide +kernel) rfl (j := 1) rfl ?_
  refine n_get (idx := 9) (ci := 11) (k := 0) (j := 0) (fs := [.ref q1, .ref q2, .ref q3, .int 0, .ref q4, .ref q5, .int 0, .int 0, .int 0, .int 0, .int 0, .int 0, .int 0, .int 0, .int 0, .int (-1), .long 0, .long 0, .long 0, .ref q6, .ref q7, .ref q8, .ref q9, .ref q10, .long 0, .long 0, .long 0, .ref q11, .ref q12, .ref q13, .ref q14, .ref q15, .int 0, .ref q16, .ref q17, .ref q18]) (v := .ref q1) F (by decide +kernel) rfl rfl (by decide) (mBW_of 1575 (by decide +kernel)) rfl ?_
  refine n_si (x := 550) (v := 550) F (by decide +kernel) (by decide) ?_
  refine n_ic (x := 5) (v := 5) F (by decide +kernel) (by decide) ?_
  refine n_iln (k := 1) F (by decide +kernel) rfl (j := 0) rfl ?_
  refine n_mul (z := 25) F (by decide +kernel) (by decide) ?_
  refine n_add (z := 575) F (by decide +kernel) (by decide) ?_
  refine n_ic (x := 3) (v := 3) F (by decide +kernel) (by decide) ?_
  refine n_add (z := 578) F (by decide +kernel) (by decide) ?_
  refine n_bi (x := 10) (v := 10) F (by decide +kernel) (by decide) ?_
  refine n_ia (j := 1) (n := 635) (f := tk36) (o' := .inl (cA 20, 635, .inl tk37)) F (by decide +kernel) rfl (by unfold vp_in; decide) rfl ?_
  refine n_ws (ws' := (h, .inr (11, [.ref q1, .ref q2, .ref q3, .int 0, .ref q4, .ref q5, .int 0, .int 0, .int 0, .int 0, .int 0, .int 0, .int 0, .int 0, .int 0, .int (-1), .long 0, .long 0, .long 0, .ref q6, .ref q7, .ref q8, .ref q9, .ref q10, .long 0, .long 0, .long 0, .ref q11, .ref q12, .ref q13, .ref q14, .ref q15, .int 0, .ref q16, .ref q17, .ref q18])) :: ([(q1, .inl (cA 20, 635, .inl tk37)), (q2, .inl (cA 20, 1905, .inl (fun _ => 0))), (q3, .inl (cA 22, 3, .inl (fun _ => 0))), (q4, .inl (cA 20, 800, .inl (fun _ => 0))), (q5, .inl (cA 20, 550, .inl (fun _ => 0))), (q6, .inl (cA 20, 2, .inl (fun _ => 0))), (q7, .inl (cA 20, 9, .inl (fun _ => 0))), (q8, .inl (cA 20, 9, .inl (fun _ => 0))), (q9, .inl (cA 23, 8, .inr (.inl (fun _ => 0)))), (q10, .inl (cA 23, 8, .inr (.inl (fun _ => 0)))), (q11, .inl (cA 20, 9, .inl (fun _ => 0))), (q12, .inl (cA 20, 9, .inl (fun _ => 0))), (q13, .inl (cA 20, 512, .inl (fun _ => 0))), (q14, .inl (cA 20, 6, .inl (fun _ => 0))), (q15, .inl (cA 20, 6, .inl (fun _ => 0))), (q16, .inl (cA 20, 4, .inl tk8)), (q17, .inl (cA 20, 4, .inl (fun _ => 0))), (q18, .inl (cA 23, 160, .inr (.inl (fun _ => 0))))])) (cells' := 18) (slots' := 4639) rfl rfl rfl ?_
  refine n_aln (k := 0) F (by decide +kernel) rfl (j := 1) rfl ?_
  refine n_get (idx := 9) (ci := 11) (k := 0) (j := 0) (fs := [.ref q1, .ref q2, .ref q3, .int 0, .ref q4, .ref q5, .int 0, .int 0, .int 0, .int 0, .int 0, .int 0, .int 0, .int 0, .int 0, .int (-1), .long 0, .long 0, .long 0, .ref q6, .ref q7, .ref q8, .ref q9, .ref q10, .long 0, .long 0, .long 0, .ref q11, .ref q12, .ref q13, .ref q14, .ref q15, .int 0, .ref q16, .ref q17, .ref q18]) (v := .ref q1) F (by decide +kernel) rfl rfl (by decide) (mBW_of 1575 (by decide +kernel)) rfl ?_
  refine n_si (x := 550) (v := 550) F (by decide +kernel) (by decide) ?_
  refine n_ic (x := 5) (v := 5) F (by decide +kernel) (by decide) ?_
  refine n_iln (k := 1) F (by decide +kernel) rfl (j := 0) rfl ?_
  refine n_mul (z := 25) F (by decide +kernel) (by decide) ?_
  refine n_add (z := 575) F (by decide +kernel) (by decide) ?_
  refine n_ic (x := 4) (v := 4) F (by decide +kernel) (by decide) ?_
  refine n_add (z := 579) F (by decide +kernel) (by decide) ?_
  refine n_ic (x := 1) (v := 1) F (by decide +kernel) (by decide) ?_
  refine n_ia (j := 1) (n := 635) (f := tk37) (o' := .inl (cA 20, 635, .inl tk38)) F (by decide +kernel) rfl (by unfold vp_in; decide) rfl ?_
  refine n_ws (ws' := (h, .inr (11, [.ref q1, .ref q2, .ref q3, .int 0, .ref q4, .ref q5, .int 0, .int 0, .int 0, .int 0, .int 0, .int 0, .int 0, .int 0, .int 0, .int (-1), .long 0, .long 0, .long 0, .ref q6, .ref q7, .ref q8, .ref q9, .ref q10, .long 0, .long 0, .long 0, .ref q11, .ref q12, .ref q13, .ref q14, .ref q15, .int 0, .ref q16, .ref q17, .ref q18])) :: ([(q1, .inl (cA 20, 635, .inl tk38)), (q2, .inl (cA 20, 1905, .inl (fun _ => 0))), (q3, .inl (cA 22, 3, .inl (fun _ => 0))), (q4, .inl (cA 20, 800, .inl (fun _ => 0))), (q5, .inl (cA 20, 550, .inl (fun _ => 0))), (q6, .inl (cA 20, 2, .inl (fun _ => 0))), (q7, .inl (cA 20, 9, .inl (fun _ => 0))), (q8, .inl (cA 20, 9, .inl (fun _ => 0))), (q9, .inl (cA 23, 8, .inr (.inl (fun _ => 0)))), (q10, .inl (cA 23, 8, .inr (.inl (fun _ => 0)))), (q11, .inl (cA 20, 9, .inl (fun _ => 0))), (q12, .inl (cA 20, 9, .inl (fun _ => 0))), (q13, .inl (cA 20, 512, .inl (fun _ => 0))), (q14, .inl (cA 20, 6, .inl (fun _ => 0))), (q15, .inl (cA 20, 6, .inl (fun _ => 0))), (q16, .inl (cA 20, 4, .inl tk8)), (q17, .inl (cA 20, 4, .inl (fun _ => 0))), (q18, .inl (cA 23, 160, .inr (.inl (fun _ => 0))))])) (cells' := 18) (slots' := 4639) rfl rfl rfl ?_
  refine n_inc (i := 1) (n := 1) (k := 0) (v := 6) (lv' := [(1, .int 6), (0, .ref h)]) F (by decide +kernel) rfl (by decide) (by decide) rfl ?_
  refine n_go (off := -84) (tgt := 180) F (by decide +kernel) (by decide) ?_
  refine n_iln (k := 1) F (by decide +kernel) rfl (j := 0) rfl ?_
  refine n_bi (x := 9) (v := 9) F (by decide +kernel) (by decide) ?_
  refine n_get_lt (off := 84) (tgt := 267) F (by decide +kernel) (by decide) (by decide) ?_
  refine n_aln (k := 0) F (by decide +kernel) rfl (j := 1) rfl ?_
  refine n_get (idx := 9) (ci := 11) (k := 0) (j := 0) (fs := [.ref q1, .ref q2, .ref q3, .int 0, .ref q4, .ref q5, .int 0, .int 0, .int 0, .int 0, .int 0, .int 0, .int 0, .int 0, .int 0, .int (-1), .long 0, .long 0, .long 0, .ref q6, .ref q7, .ref q8, .ref q9, .ref q10, .long 0, .long 0, .long 0, .ref q11, .ref q12, .ref q13, .ref q14, .ref q15, .int 0, .ref q16, .ref q17, .ref q18]) (v := .ref q1) F (by decide +kernel) rfl rfl (by decide) (mBW_of 1575 (by decide +kernel)) rfl ?_
  refine n_si (x := 550) (v := 550) F (by decide +kernel) (by decide) ?_
  refine n_ic (x := 5) (v := 5) F (by decide +kernel) (by decide) ?_
  refine n_iln (k := 1) F (by decide +kernel) rfl (j := 0) rfl ?_
  refine n_mul (z := 30) F (by decide +kernel) (by decide) ?_
  refine n_add (z := 580) F (by decide +kernel) (by decide) ?_
  refine n_ic (x := -1) (v := (-1)) F (by decide +kernel) (by decide) ?_
  refine n_ia (j := 1) (n := 635) (f := tk38) (o' := .inl (cA 20, 635, .inl tk39)) F (by decide +kernel) rfl (by unfold vp_in; decide) rfl ?_
  refine n_ws (ws' := (h, .inr (11, [.ref q1, .ref q2, .ref q3, .int 0, .ref q4, .ref q5, .int 0, .int 0, .int 0, .int 0, .int 0, .int 0, .int 0, .int 0, .int 0, .int (-1), .long 0, .long 0, .long 0, .ref q6, .ref q7, .ref q8, .ref q9, .ref q10, .long 0, .long 0, .long 0, .ref q11, .ref q12, .ref q13, .ref q14, .ref q15, .int 0, .ref q16, .ref q17, .ref q18])) :: ([(q1, .inl (cA 20, 635, .inl tk39)), (q2, .inl (cA 20, 1905, .inl (fun _ => 0))), (q3, .inl (cA 22, 3, .inl (fun _ => 0))), (q4, .inl (cA 20, 800, .inl (fun _ => 0))), (q5, .inl (cA 20, 550, .inl (fun _ => 0))), (q6, .inl (cA 20, 2, .inl (fun _ => 0))), (q7, .inl (cA 20, 9, .inl (fun _ => 0))), (q8, .inl (cA 20, 9, .inl (fun _ => 0))), (q9, .inl (cA 23, 8, .inr (.inl (fun _ => 0)))), (q10, .inl (cA 23, 8, .inr (.inl (fun _ => 0)))), (q11, .inl (cA 20, 9, .inl (fun _ => 0))), (q12, .inl (cA 20, 9, .inl (fun _ => 0))), (q13, .inl (cA 20, 512, .inl (fun _ => 0))), (q14, .inl (cA 20, 6, .inl (fun _ => 0))), (q15, .inl (cA 20, 6, .inl (fun _ => 0))), (q16, .inl (cA 20, 4, .inl tk8)), (q17, .inl (cA 20, 4, .inl (fun _ => 0))), (q18, .inl (cA 23, 160, .inr (.inl (fun _ => 0))))])) (cells' := 18) (slots' := 4639) rfl rfl rfl ?_
  refine n_aln (k := 0) F (by decide +kernel) rfl (j := 1) rfl ?_
  refine n_get (idx := 9) (ci := 11) (k := 0) (j := 0) (fs := [.ref q1, .ref q2, .ref q3, .int 0, .ref q4, .ref q5, .int 0, .int 0, .int 0, .int 0, .int 0, .int 0, .int 0, .int 0, .int 0, .int (-1), .long 0, .long 0, .long 0, .ref q6, .ref q7, .ref q8, .ref q9, .ref q10, .long 0, .long 0, .long 0, .ref q11, .ref q12, .ref q13, .ref q14, .ref q15, .int 0, .ref q16, .ref q17, .ref q18]) (v := .ref q1) F (by decide +kernel) rfl rfl (by decide) (mBW_of 1575 (by decide +kernel)) rfl ?_
  refine n_si (x := 550) (v := 550) F (by decide +kernel) (by decide) ?_
  refine n_ic (x := 5) (v := 5) F (by decide +kernel) (by decide) ?_
  refine n_iln (k := 1) F (by decide +kernel) rfl (j := 0) rfl ?_
  refine n_mul (z := 30) F (by decide +kernel) (by decide) ?_
  refine n_add (z := 580) F (by decide +kernel) (by decide) ?_
  refine n_ic (x := 1) (v := 1) F (by decide +kernel) (by decide) ?_
  refine n_add (z := 581) F (by decide +kernel) (by decide) ?_
  refine n_ic (x := 3) (v := 3) F (by decide +kernel) (by decide) ?_
  refine n_ia (j := 1) (n := 635) (f := tk39) (o' := .inl (cA 20, 635, .inl tk40)) F (by decide +kernel) rfl (by unfold vp_in; decide) rfl ?_
  refine n_ws (ws' := (h, .inr (11, [.ref q1, .ref q2, .ref q3, .int 0, .ref q4, .ref q5, .int 0, .int 0, .int 0, .int 0, .int 0, .int 0, .int 0, .int 0, .int 0, .int (-1), .long 0, .long 0, .long 0, .ref q6, .ref q7, .ref q8, .ref q9, .ref q10, .long 0, .long 0, .long 0, .ref q11, .ref q12, .ref q13, .ref q14, .ref q15, .int 0, .ref q16, .ref q17, .ref q18])) :: ([(q1, .inl (cA 20, 635, .inl tk40)), (q2, .inl (cA 20, 1905, .inl (fun _ => 0))), (q3, .inl (cA 22, 3, .inl (fun _ => 0))), (q4, .inl (cA 20, 800, .inl (fun _ => 0))), (q5, .inl (cA 20, 550, .inl (fun _ => 0))), (q6, .inl (cA 20, 2, .inl (fun _ => 0))), (q7, .inl (cA 20, 9, .inl (fun _ => 0))), (q8, .inl (cA 20, 9, .inl (fun _ => 0))), (q9, .inl (cA 23, 8, .inr (.inl (fun _ => 0)))), (q10, .inl (cA 23, 8, .inr (.inl (fun _ => 0)))), (q11, .inl (cA 20, 9, .inl (fun _ => 0))), (q12, .inl (cA 20, 9, .inl (fun _ => 0))), (q13, .inl (cA 20, 512, .inl (fun _ => 0))), (q14, .inl (cA 20, 6, .inl (fun _ => 0))), (q15, .inl (cA 20, 6, .inl (fun _ => 0))), (q16, .inl (cA 20, 4, .inl tk8)), (q17, .inl (cA 20, 4, .inl (fun _ => 0))), (q18, .inl (cA 23, 160, .inr (.inl (fun _ => 0))))])) (cells' := 18) (slots' := 4639) rfl rfl rfl ?_
  refine n_aln (k := 0) F (by decide +kernel) rfl (j := 1) rfl ?_
  refine n_get (idx := 9) (ci := 11) (k := 0) (j := 0) (fs := [.ref q1, .ref q2, .ref q3, .int 0, .ref q4, .ref q5, .int 0, .int 0, .int 0, .int 0, .int 0, .int 0, .int 0, .int 0, .int 0, .int (-1), .long 0, .long 0, .long 0, .ref q6, .ref q7, .ref q8, .ref q9, .ref q10, .long 0, .long 0, .long 0, .ref q11, .ref q12, .ref q13, .ref q14, .ref q15, .int 0, .ref q16, .ref q17, .ref q18]) (v := .ref q1) F (by decide +kernel) rfl rfl (by decide) (mBW_of 1575 (by decide +kernel)) rfl ?_
  refine n_si (x := 550) (v := 550) F (by decide +kernel) (by decide) ?_
  refine n_ic (x := 5) (v := 5) F (by decide +kernel) (by decide) ?_
  refine n_iln (k := 1) F (by decide +kernel) rfl (j := 0) rfl ?_
  refine n_mul (z := 30) F (by decide +kernel) (by decide) ?_
  refine n_add (z := 580) F (by decide +kernel) (by decide) ?_
  refine n_ic (x := 2) (v := 2) F (by decide +kernel) (by decide) ?_
  refine n_add (z := 582) F (by decide +kernel) (by decide) ?_
  refine n_bi (x := 80) (v := 80) F (by decide +kernel) (by decide) ?_
  refine n_ia (j := 1) (n := 635) (f := tk40) (o' := .inl (cA 20, 635, .inl tk41)) F (by decide +kernel) rfl (by unfold vp_in; decide) rfl ?_
  refine n_ws (ws' := (h, .inr (11, [.ref q1, .ref q2, .ref q3, .int 0, .ref q4, .ref q5, .int 0, .int 0, .int 0, .int 0, .int 0, .int 0, .int 0, .int 0, .int 0, .int (-1), .long 0, .long 0, .long 0, .ref q6, .ref q7, .ref q8, .ref q9, .ref q10, .long 0, .long 0, .long 0, .ref q11, .ref q12, .ref q13, .ref q14, .ref q15, .int 0, .ref q16, .ref q17, .ref q18])) :: ([(q1, .inl (cA 20, 635, .inl tk41)), (q2, .inl (cA 20, 1905, .inl (fun _ => 0))), (q3, .inl (cA 22, 3, .inl (fun _ => 0))), (q4, .inl (cA 20, 800, .inl (fun _ => 0))), (q5, .inl (cA 20, 550, .inl (fun _ => 0))), (q6, .inl (cA 20, 2, .inl (fun _ => 0))), (q7, .inl (cA 20, 9, .inl (fun _ => 0))), (q8, .inl (cA 20, 9, .inl (fun _ => 0))), (q9, .inl (cA 23, 8, .inr (.inl (fun _ => 0)))), (q10, .inl (cA 23, 8, .inr (.inl (fun _ => 0)))), (q11, .inl (cA 20, 9, .inl (fun _ => 0))), (q12, .inl (cA 20, 9, .inl (fun _ => 0))), (q13, .inl (cA 20, 512, .inl (fun _ => 0))), (q14, .inl (cA 20, 6, .inl (fun _ => 0))), (q15, .inl (cA 20, 6, .inl (fun _ => 0))), (q16, .inl (cA 20, 4, .inl tk8)), (q17, .inl (cA 20, 4, .inl (fun _ => 0))), (q18, .inl (cA 23, 160, .inr (.inl (fun _ => 0))))])) (cells' := 18) (slots' := 4639) rfl rfl rfl ?_
  refine n_aln (k := 0) F (by decide +kernel) rfl (j := 1) rfl ?_
  refine n_get (idx := 9) (ci := 11) (k := 0) (j := 0) (fs := [.ref q1, .ref q2, .ref q3, .int 0, .ref q4, .ref q5, .int 0, .int 0, .int 0, .int 0, .int 0, .int 0, .int 0, .int 0, .int 0, .int (-1), .long 0, .long 0, .long 0, .ref q6, .ref q7, .ref q8, .ref q9, .ref q10, .long 0, .long 0, .long 0, .ref q11, .ref q12, .ref q13, .ref q14, .ref q15, .int 0, .ref q16, .ref q17, .ref q18]) (v := .ref q1) F (by decide +kernel) rfl rfl (by decide) (mBW_of 1575 (by decide +kernel)) rfl ?_
  refine n_si (x := 550) (v := 550) F (by decide +kernel) (by decide) ?_
  refine n_ic (x := 5) (v := 5) F (by decide +kernel) (by decide) ?_
  refine n_iln (k := 1) F (by decide +kernel) rfl (j := 0) rfl ?_
  refine n_mul (z := 30) F (by decide +kernel) (by decide) ?_
  refine n_add (z := 580) F (by decide +kernel) (by decide) ?_
  refine n_ic (x := 3) (v := 3) F (by decide +kernel) (by decide) ?_
  refine n_add (z := 583) F (by decide +kernel) (by decide) ?_
  refine n_bi (x := 10) (v := 10) F (by decide +kernel) (by decide) ?_
  refine n_ia (j := 1) (n := 635) (f := tk41) (o' := .inl (cA 20, 635, .inl tk42)) F (by decide +kernel) rfl (by unfold vp_in; decide) rfl ?_
  refine n_ws (ws' := (h, .inr (11, [.ref q1, .ref q2, .ref q3, .int 0, .ref q4, .ref q5, .int 0, .int 0, .int 0, .int 0, .int 0, .int 0, .int 0, .int 0, .int 0, .int (-1), .long 0, .long 0, .long 0, .ref q6, .ref q7, .ref q8, .ref q9, .ref q10, .long 0, .long 0, .long 0, .ref q11, .ref q12, .ref q13, .ref q14, .ref q15, .int 0, .ref q16, .ref q17, .ref q18])) :: ([(q1, .inl (cA 20, 635, .inl tk42)), (q2, .inl (cA 20, 1905, .inl (fun _ => 0))), (q3, .inl (cA 22, 3, .inl (fun _ => 0))), (q4, .inl (cA 20, 800, .inl (fun _ => 0))), (q5, .inl (cA 20, 550, .inl (fun _ => 0))), (q6, .inl (cA 20, 2, .inl (fun _ => 0))), (q7, .inl (cA 20, 9, .inl (fun _ => 0))), (q8, .inl (cA 20, 9, .inl (fun _ => 0))), (q9, .inl (cA 23, 8, .inr (.inl (fun _ => 0)))), (q10, .inl (cA 23, 8, .inr (.inl (fun _ => 0)))), (q11, .inl (cA 20, 9, .inl (fun _ => 0))), (q12, .inl (cA 20, 9, .inl (fun _ => 0))), (q13, .inl (cA 20, 512, .inl (fun _ => 0))), (q14, .inl (cA 20, 6, .inl (fun _ => 0))), (q15, .inl (cA 20, 6, .inl (fun _ => 0))), (q16, .inl (cA 20, 4, .inl tk8)), (q17, .inl (cA 20, 4, .inl (fun _ => 0))), (q18, .inl (cA 23, 160, .inr (.inl (fun _ => 0))))])) (cells' := 18) (slots' := 4639) rfl rfl rfl ?_
  refine n_aln (k := 0) F (by decide +kernel) rfl (j := 1) rfl ?_
  refine n_get (idx := 9) (ci := 11) (k := 0) (j := 0) (fs := [.ref q1, .ref q2, .ref q3, .int 0, .ref q4, .ref q5, .int 0, .int 0, .int 0, .int 0, .int 0, .int 0, .int 0, .int 0, .int 0, .int (-1), .long 0, .long 0, .long 0, .ref q6, .ref q7, .ref q8, .ref q9, .ref q10, .long 0, .long 0, .long 0, .ref q11, .ref q12, .ref q13, .ref q14, .ref q15, .int 0, .ref q16, .ref q17, .ref q18]) (v := .ref q1) F (by decide +kernel) rfl rfl (by decide) (mBW_of 1575 (by decide +kernel)) rfl ?_
  refine n_si (x := 550) (v := 550) F (by decide +kernel) (by decide) ?_
  refine n_ic (x := 5) (v := 5) F (by decide +kernel) (by decide) ?_
  refine n_iln (k := 1) F (by decide +kernel) rfl (j := 0) rfl ?_
  refine n_mul (z := 30) F (by decide +kernel) (by decide) ?_
  refine n_add (z := 580) F (by decide +kernel) (by decide) ?_
  refine n_ic (x := 4) (v := 4) F (by decide +kernel) (by decide) ?_
  refine n_add (z := 584) F (by decide +kernel) (by decide) ?_
  refine n_ic (x := 1) (v := 1) F (by decide +kernel) (by decide) ?_
  refine n_ia (j := 1) (n := 635) (f := tk42) (o' := .inl (cA 20, 635, .inl tk43)) F (by decide +kernel) rfl (by unfold vp_in; decide) rfl ?_
  refine n_ws (ws' := (h, .inr (11, [.ref q1, .ref q2, .ref q3, .int 0, .ref q4, .ref q5, .int 0, .int 0, .int 0, .int 0, .int 0, .int 0, .int 0, .int 0, .int 0, .int (-1), .long 0, .long 0, .long 0, .ref q6, .ref q7, .ref q8, .ref q9, .ref q10, .long 0, .long 0, .long 0, .ref q11, .ref q12, .ref q13, .ref q14, .ref q15, .int 0, .ref q16, .ref q17, .ref q18])) :: ([(q1, .inl (cA 20, 635, .inl tk43)), (q2, .inl (cA 20, 1905, .inl (fun _ => 0))), (q3, .inl (cA 22, 3, .inl (fun _ => 0))), (q4, .inl (cA 20, 800, .inl (fun _ => 0))), (q5, .inl (cA 20, 550, .inl (fun _ => 0))), (q6, .inl (cA 20, 2, .inl (fun _ => 0))), (q7, .inl (cA 20, 9, .inl (fun _ => 0))), (q8, .inl (cA 20, 9, .inl (fun _ => 0))), (q9, .inl (cA 23, 8, .inr (.inl (fun _ => 0)))), (q10, .inl (cA 23, 8, .inr (.inl (fun _ => 0)))), (q11, .inl (cA 20, 9, .inl (fun _ => 0))), (q12, .inl (cA 20, 9, .inl (fun _ => 0))), (q13, .inl (cA 20, 512, .inl (fun _ => 0))), (q14, .inl (cA 20, 6, .inl (fun _ => 0))), (q15, .inl (cA 20, 6, .inl (fun _ => 0))), (q16, .inl (cA 20, 4, .inl tk8)), (q17, .inl (cA 20, 4, .inl (fun _ => 0))), (q18, .inl (cA 23, 160, .inr (.inl (fun _ => 0))))])) (cells' := 18) (slots' := 4639) rfl rfl rfl ?_
  refine n_inc (i := 1) (n := 1) (k := 0) (v := 7) (lv' := [(1, .int 7), (0, .ref h)]) F (by decide +kernel) rfl (by decide) (by decide) rfl ?_
  refine n_go (off := -84) (tgt := 180) F (by decide +kernel) (by decide) ?_
  refine n_iln (k := 1) F (by decide +kernel) rfl (j := 0) rfl ?_
  refine n_bi (x := 9) (v := 9) F (by decide +kernel) (by decide) ?_
  refine n_get_lt (off := 84) (tgt := 267) F (by decide +kernel) (by decide) (by decide) ?_
  refine n_aln (k := 0) F (by decide +kernel) rfl (j := 1) rfl ?_
  refine n_get (idx := 9) (ci := 11) (k := 0) (j := 0) (fs := [.ref q1, .ref q2, .ref q3, .int 0, .ref q4, .ref q5, .int 0, .int 0, .int 0, .int 0, .int 0, .int 0, .int 0, .int 0, .int 0, .int (-1), .long 0, .long 0, .long 0, .ref q6, .ref q7, .ref q8, .ref q9, .ref q10, .long 0, .long 0, .long 0, .ref q11, .ref q12, .ref q13, .ref q14, .ref q15, .int 0, .ref q16, .ref q17, .ref q18]) (v := .ref q1) F (by decide +kernel) rfl rfl (by decide) (mBW_of 1575 (by decide +kernel)) rfl ?_
  refine n_si (x := 550) (v := 550) F (by decide +kernel) (by decide) ?_
  refine n_ic (x := 5) (v := 5) F (by decide +kernel) (by decide) ?_
  refine n_iln (k := 1) F (by decide +kernel) rfl (j := 0) rfl ?_
  refine n_mul (z := 35) F (by decide +kernel) (by decide) ?_
  refine n_add (z := 585) F (by decide +kernel) (by decide) ?_
  refine n_ic (x := -1) (v := (-1)) F (by decide +kernel) (by decide) ?_
  refine n_ia (j := 1) (n := 635) (f := tk43) (o' := .inl (cA 20, 635, .inl tk44)) F (by decide +kernel) rfl (by unfold vp_in; decide) rfl ?_
  refine n_ws (ws' := (h, .inr (11, [.ref q1, .ref q2, .ref q3, .int 0, .ref q4, .ref q5, .int 0, .int 0, .int 0, .int 0, .int 0, .int 0, .int 0, .int 0, .int 0, .int (-1), .long 0, .long 0, .long 0, .ref q6, .ref q7, .ref q8, .ref q9, .ref q10, .long 0, .long 0, .long 0, .ref q11, .ref q12, .ref q13, .ref q14, .ref q15, .int 0, .ref q16, .ref q17, .ref q18])) :: ([(q1, .inl (cA 20, 635, .inl tk44)), (q2, .inl (cA 20, 1905, .inl (fun _ => 0))), (q3, .inl (cA 22, 3, .inl (fun _ => 0))), (q4, .inl (cA 20, 800, .inl (fun _ => 0))), (q5, .inl (cA 20, 550, .inl (fun _ => 0))), (q6, .inl (cA 20, 2, .inl (fun _ => 0))), (q7, .inl (cA 20, 9, .inl (fun _ => 0))), (q8, .inl (cA 20, 9, .inl (fun _ => 0))), (q9, .inl (cA 23, 8, .inr (.inl (fun _ => 0)))), (q10, .inl (cA 23, 8, .inr (.inl (fun _ => 0)))), (q11, .inl (cA 20, 9, .inl (fun _ => 0))), (q12, .inl (cA 20, 9, .inl (fun _ => 0))), (q13, .inl (cA 20, 512, .inl (fun _ => 0))), (q14, .inl (cA 20, 6, .inl (fun _ => 0))), (q15, .inl (cA 20, 6, .inl (fun _ => 0))), (q16, .inl (cA 20, 4, .inl tk8)), (q17, .inl (cA 20, 4, .inl (fun _ => 0))), (q18, .inl (cA 23, 160, .inr (.inl (fun _ => 0))))])) (cells' := 18) (slots' := 4639) rfl rfl rfl ?_
  refine n_aln (k := 0) F (by decide +kernel) rfl (j := 1) rfl ?_
  refine n_get (idx := 9) (ci := 11) (k := 0) (j := 0) (fs := [.ref q1, .ref q2, .ref q3, .int 0, .ref q4, .ref q5, .int 0, .int 0, .int 0, .int 0, .int 0, .int 0, .int 0, .int 0, .int 0, .int (-1), .long 0, .long 0, .long 0, .ref q6, .ref q7, .ref q8, .ref q9, .ref q10, .long 0, .long 0, .long 0, .ref q11, .ref q12, .ref q13, .ref q14, .ref q15, .int 0, .ref q16, .ref q17, .ref q18]) (v := .ref q1) F (by decide +kernel) rfl rfl (by decide) (mBW_of 1575 (by decide +kernel)) rfl ?_
  refine n_si (x := 550) (v := 550) F (by decide +kernel) (by decide) ?_
  refine n_ic (x := 5) (v := 5) F (by decide +kernel) (by decide) ?_
  refine n_iln (k := 1) F (by decide +kernel) rfl (j := 0) rfl ?_
  refine n_mul (z := 35) F (by decide +kernel) (by decide) ?_
  refine n_add (z := 585) F (by decide +kernel) (by decide) ?_
  refine n_ic (x := 1) (v := 1) F (by decide +kernel) (by decide) ?_
  refine n_add (z := 586) F (by decide +kernel) (by decide) ?_
  refine n_ic (x := 3) (v := 3) F (by decide +kernel) (by decide) ?_
  refine n_ia (j := 1) (n := 635) (f := tk44) (o' := .inl (cA 20, 635, .inl tk45)) F (by decide +kernel) rfl (by unfold vp_in; decide) rfl ?_
  refine n_ws (ws' := (h, .inr (11, [.ref q1, .ref q2, .ref q3, .int 0, .ref q4, .ref q5, .int 0, .int 0, .int 0, .int 0, .int 0, .int 0, .int 0, .int 0, .int 0, .int (-1), .long 0, .long 0, .long 0, .ref q6, .ref q7, .ref q8, .ref q9, .ref q10, .long 0, .long 0, .long 0, .ref q11, .ref q12, .ref q13, .ref q14, .ref q15, .int 0, .ref q16, .ref q17, .ref q18])) :: ([(q1, .inl (cA 20, 635, .inl tk45)), (q2, .inl (cA 20, 1905, .inl (fun _ => 0))), (q3, .inl (cA 22, 3, .inl (fun _ => 0))), (q4, .inl (cA 20, 800, .inl (fun _ => 0))), (q5, .inl (cA 20, 550, .inl (fun _ => 0))), (q6, .inl (cA 20, 2, .inl (fun _ => 0))), (q7, .inl (cA 20, 9, .inl (fun _ => 0))), (q8, .inl (cA 20, 9, .inl (fun _ => 0))), (q9, .inl (cA 23, 8, .inr (.inl (fun _ => 0)))), (q10, .inl (cA 23, 8, .inr (.inl (fun _ => 0)))), (q11, .inl (cA 20, 9, .inl (fun _ => 0))), (q12, .inl (cA 20, 9, .inl (fun _ => 0))), (q13, .inl (cA 20, 512, .inl (fun _ => 0))), (q14, .inl (cA 20, 6, .inl (fun _ => 0))), (q15, .inl (cA 20, 6, .inl (fun _ => 0))), (q16, .inl (cA 20, 4, .inl tk8)), (q17, .inl (cA 20, 4, .inl (fun _ => 0))), (q18, .inl (cA 23, 160, .inr (.inl (fun _ => 0))))])) (cells' := 18) (slots' := 4639) rfl rfl rfl ?_
  refine n_aln (k := 0) F (by decide +kernel) rfl (j := 1) rfl ?_
  refine n_get (idx := 9) (ci := 11) (k := 0) (j := 0) (fs := [.ref q1, .ref q2, .ref q3, .int 0, .ref q4, .ref q5, .int 0, .int 0, .int 0, .int 0, .int 0, .int 0, .int 0, .int 0, .int 0, .int (-1), .long 0, .long 0, .long 0, .ref q6, .ref q7, .ref q8, .ref q9, .ref q10, .long 0, .long 0, .long 0, .ref q11, .ref q12, .ref q13, .ref q14, .ref q15, .int 0, .ref q16, .ref q17, .ref q18]) (v := .ref q1) F (by decide +kernel) rfl rfl (by decide) (mBW_of 1575 (by decide +kernel)) rfl ?_
  refine n_si (x := 550) (v := 550) F (by decide +kernel) (by decide) ?_
  refine n_ic (x := 5) (v := 5) F (by decide +kernel) (by decide) ?_
  refine n_iln (k := 1) F (by decide +kernel) rfl (j := 0) rfl ?_
  refine n_mul (z := 35) F (by decide +kernel) (by decide) ?_
  refine n_add (z := 585) F (by decide +kernel) (by decide) ?_
  refine n_ic (x := 2) (v := 2) F (by decide +kernel) (by decide) ?_
  refine n_add (z := 587) F (by decide +kernel) (by decide) ?_
  refine n_bi (x := 80) (v := 80) F (by decide +kernel) (by decide) ?_
  refine n_ia (j := 1) (n := 635) (f := tk45) (o' := .inl (cA 20, 635, .inl tk46)) F (by decide +kernel) rfl (by unfold vp_in; decide) rfl ?_
  refine n_ws (ws' := (h, .inr (11, [.ref q1, .ref q2, .ref q3, .int 0, .ref q4, .ref q5, .int 0, .int 0, .int 0, .int 0, .int 0, .int 0, .int 0, .int 0, .int 0, .int (-1), .long 0, .long 0, .long 0, .ref q6, .ref q7, .ref q8, .ref q9, .ref q10, .long 0, .long 0, .long 0, .ref q11, .ref q12, .ref q13, .ref q14, .ref q15, .int 0, .ref q16, .ref q17, .ref q18])) :: ([(q1, .inl (cA 20, 635, .inl tk46)), (q2, .inl (cA 20, 1905, .inl (fun _ => 0))), (q3, .inl (cA 22, 3, .inl (fun _ => 0))), (q4, .inl (cA 20, 800, .inl (fun _ => 0))), (q5, .inl (cA 20, 550, .inl (fun _ => 0))), (q6, .inl (cA 20, 2, .inl (fun _ => 0))), (q7, .inl (cA 20, 9, .inl (fun _ => 0))), (q8, .inl (cA 20, 9, .inl (fun _ => 0))), (q9, .inl (cA 23, 8, .inr (.inl (fun _ => 0)))), (q10, .inl (cA 23, 8, .inr (.inl (fun _ => 0)))), (q11, .inl (cA 20, 9, .inl (fun _ => 0))), (q12, .inl (cA 20, 9, .inl (fun _ => 0))), (q13, .inl (cA 20, 512, .inl (fun _ => 0))), (q14, .inl (cA 20, 6, .inl (fun _ => 0))), (q15, .inl (cA 20, 6, .inl (fun _ => 0))), (q16, .inl (cA 20, 4, .inl tk8)), (q17, .inl (cA 20, 4, .inl (fun _ => 0))), (q18, .inl (cA 23, 160, .inr (.inl (fun _ => 0))))])) (cells' := 18) (slots' := 4639) rfl rfl rfl ?_
  refine n_aln (k := 0) F (by decide +kernel) rfl (j := 1) rfl ?_
  refine n_get (idx := 9) (ci := 11) (k := 0) (j := 0) (fs := [.ref q1, .ref q2, .ref q3, .int 0, .ref q4, .ref q5, .int 0, .int 0, .int 0, .int 0, .int 0, .int 0, .int 0, .int 0, .int 0, .int (-1), .long 0, .long 0, .long 0, .ref q6, .ref q7, .ref q8, .ref q9, .ref q10, .long 0, .long 0, .long 0, .ref q11, .ref q12, .ref q13, .ref q14, .ref q15, .int 0, .ref q16, .ref q17, .ref q18]) (v := .ref q1) F (by decide +kernel) rfl rfl (by decide) (mBW_of 1575 (by decide +kernel)) rfl ?_
  refine n_si (x := 550) (v := 550) F (by decide +kernel) (by decide) ?_
  refine n_ic (x := 5) (v := 5) F (by decide +kernel) (by decide) ?_
  refine n_iln (k := 1) F (by decide +kernel) rfl (j := 0) rfl ?_
  refine n_mul (z := 35) F (by decide +kernel) (by decide) ?_
  refine n_add (z := 585) F (by decide +kernel) (by decide) ?_
  refine n_ic (x := 3) (v := 3) F (by decide +kernel) (by decide) ?_
  refine n_add (z := 588) F (by decide +kernel) (by decide) ?_
  refine n_bi (x := 10) (v := 10) F (by decide +kernel) (by decide) ?_
  refine n_ia (j := 1) (n := 635) (f := tk46) (o' := .inl (cA 20, 635, .inl tk47)) F (by decide +kernel) rfl (by unfold vp_in; decide) rfl ?_
  refine n_ws (ws' := (h, .inr (11, [.ref q1, .ref q2, .ref q3, .int 0, .ref q4, .ref q5, .int 0, .int 0, .int 0, .int 0, .int 0, .int 0, .int 0, .int 0, .int 0, .int (-1), .long 0, .long 0, .long 0, .ref q6, .ref q7, .ref q8, .ref q9, .ref q10, .long 0, .long 0, .long 0, .ref q11, .ref q12, .ref q13, .ref q14, .ref q15, .int 0, .ref q16, .ref q17, .ref q18])) :: ([(q1, .inl (cA 20, 635, .inl tk47)), (q2, .inl (cA 20, 1905, .inl (fun _ => 0))), (q3, .inl (cA 22, 3, .inl (fun _ => 0))), (q4, .inl (cA 20, 800, .inl (fun _ => 0))), (q5, .inl (cA 20, 550, .inl (fun _ => 0))), (q6, .inl (cA 20, 2, .inl (fun _ => 0))), (q7, .inl (cA 20, 9, .inl (fun _ => 0))), (q8, .inl (cA 20, 9, .inl (fun _ => 0))), (q9, .inl (cA 23, 8, .inr (.inl (fun _ => 0)))), (q10, .inl (cA 23, 8, .inr (.inl (fun _ => 0)))), (q11, .inl (cA 20, 9, .inl (fun _ => 0))), (q12, .inl (cA 20, 9, .inl (fun _ => 0))), (q13, .inl (cA 20, 512, .inl (fun _ => 0))), (q14, .inl (cA 20, 6, .inl (fun _ => 0))), (q15, .inl (cA 20, 6, .inl (fun _ => 0))), (q16, .inl (cA 20, 4, .inl tk8)), (q17, .inl (cA 20, 4, .inl (fun _ => 0))), (q18, .inl (cA 23, 160, .inr (.inl (fun _ => 0))))])) (cells' := 18) (slots' := 4639) rfl rfl rfl ?_
  refine n_aln (k := 0) F (by decide +kernel) rfl (j := 1) rfl ?_
  refine n_get (idx := 9) (ci := 11) (k := 0) (j := 0) (fs := [.ref q1, .ref q2, .ref q3, .int 0, .ref q4, .ref q5, .int 0, .int 0, .int 0, .int 0, .int 0, .int 0, .int 0, .int 0, .int 0, .int (-1), .long 0, .long 0, .long 0, .ref q6, .ref q7, .ref q8, .ref q9, .ref q10, .long 0, .long 0, .long 0, .ref q11, .ref q12, .ref q13, .ref q14, .ref q15, .int 0, .ref q16, .ref q17, .ref q18]) (v := .ref q1) F (by decide +kernel) rfl rfl (by decide) (mBW_of 1575 (by decide +kernel)) rfl ?_
  refine n_si (x := 550) (v := 550) F (by decide +kernel) (by decide) ?_
  refine n_ic (x := 5) (v := 5) F (by decide +kernel) (by decide) ?_
  refine n_iln (k := 1) F (by decide +kernel) rfl (j := 0) rfl ?_
  refine n_mul (z := 35) F (by decide +kernel) (by decide) ?_
  refine n_add (z := 585) F (by decide +kernel) (by decide) ?_
  refine n_ic (x := 4) (v := 4) F (by decide +kernel) (by decide) ?_
  refine n_add (z := 589) F (by decide +kernel) (by decide) ?_
  refine n_ic (x := 1) (v := 1) F (by decide +kernel) (by decide) ?_
  refine n_ia (j := 1) (n := 635) (f := tk47) (o' := .inl (cA 20, 635, .inl tk48)) F (by decide +kernel) rfl (by unfold vp_in; decide) rfl ?_
  refine n_ws (ws' := (h, .inr (11, [.ref q1, .ref q2, .ref q3, .int 0, .ref q4, .ref q5, .int 0, .int 0, .int 0, .int 0, .int 0, .int 0, .int 0, .int 0, .int 0, .int (-1), .long 0, .long 0, .long 0, .ref q6, .ref q7, .ref q8, .ref q9, .ref q10, .long 0, .long 0, .long 0, .ref q11, .ref q12, .ref q13, .ref q14, .ref q15, .int 0, .ref q16, .ref q17, .ref q18])) :: ([(q1, .inl (cA 20, 635, .inl tk48)), (q2, .inl (cA 20, 1905, .inl (fun _ => 0))), (q3, .inl (cA 22, 3, .inl (fun _ => 0))), (q4, .inl (cA 20, 800, .inl (fun _ => 0))), (q5, .inl (cA 20, 550, .inl (fun _ => 0))), (q6, .inl (cA 20, 2, .inl (fun _ => 0))), (q7, .inl (cA 20, 9, .inl (fun _ => 0))), (q8, .inl (cA 20, 9, .inl (fun _ => 0))), (q9, .inl (cA 23, 8, .inr (.inl (fun _ => 0)))), (q10, .inl (cA 23, 8, .inr (.inl (fun _ => 0)))), (q11, .inl (cA 20, 9, .inl (fun _ => 0))), (q12, .inl (cA 20, 9, .inl (fun _ => 0))), (q13, .inl (cA 20, 512, .inl (fun _ => 0))), (q14, .inl (cA 20, 6, .inl (fun _ => 0))), (q15, .inl (cA 20, 6, .inl (fun _ => 0))), (q16, .inl (cA 20, 4, .inl tk8)), (q17, .inl (cA 20, 4, .inl (fun _ => 0))), (q18, .inl (cA 23, 160, .inr (.inl (fun _ => 0))))])) (cells' := 18) (slots' := 4639) rfl rfl rfl ?_
  refine n_inc (i := 1) (n := 1) (k := 0) (v := 8) (lv' := [(1, .int 8), (0, .ref h)]) F (by decide +kernel) rfl (by decide) (by decide) rfl ?_
  refine n_go (off := -84) (tgt := 180) F (by decide +kernel) (by decide) ?_
  refine n_iln (k := 1) F (by decide +kernel) rfl (j := 0) rfl ?_
  refine n_bi (x := 9) (v := 9) F (by decide +kernel) (by decide) ?_
  refine n_get_lt (off := 84) (tgt := 267) F (by decide +kernel) (by decide) (by decide) ?_
  refine n_aln (k := 0) F (by decide +kernel) rfl (j := 1) rfl ?_
  refine n_get (idx := 9) (ci := 11) (k := 0) (j := 0) (fs := [.ref q1, .ref q2, .ref q3, .int 0, .ref q4, .ref q5, .int 0, .int 0, .int 0, .int 0, .int 0, .int 0, .int 0, .int 0, .int 0, .int (-1), .long 0, .long 0, .long 0, .ref q6, .ref q7, .ref q8, .ref q9, .ref q10, .long 0, .long 0, .long 0, .ref q11, .ref q12, .ref q13, .ref q14, .ref q15, .int 0, .ref q16, .ref q17, .ref q18]) (v := .ref q1) F (by decide +kernel) rfl rfl (by decide) (mBW_of 1575 (by decide +kernel)) rfl ?_
  refine n_si (x := 550) (v := 550) F (by decide +kernel) (by decide) ?_
  refine n_ic (x := 5) (v := 5) F (by decide +kernel) (by decide) ?_
  refine n_iln (k := 1) F (by decide +kernel) rfl (j := 0) rfl ?_
  refine n_mul (z := 40) F (by decide +kernel) (by decide) ?_
  refine n_add (z := 590) F (by decide +kernel) (by decide) ?_
  refine n_ic (x := -1) (v := (-1)) F (by decide +kernel) (by decide) ?_
  refine n_ia (j := 1) (n := 635) (f := tk48) (o' := .inl (cA 20, 635, .inl tk49)) F (by decide +kernel) rfl (by unfold vp_in; decide) rfl ?_
  refine n_ws (ws' := (h, .inr (11, [.ref q1, .ref q2, .ref q3, .int 0, .ref q4, .ref q5, .int 0, .int 0, .int 0, .int 0, .int 0, .int 0, .int 0, .int 0, .int 0, .int (-1), .long 0, .long 0, .long 0, .ref q6, .ref q7, .ref q8, .ref q9, .ref q10, .long 0, .long 0, .long 0, .ref q11, .ref q12, .ref q13, .ref q14, .ref q15, .int 0, .ref q16, .ref q17, .ref q18])) :: ([(q1, .inl (cA 20, 635, .inl tk49)), (q2, .inl (cA 20, 1905, .inl (fun _ => 0))), (q3, .inl (cA 22, 3, .inl (fun _ => 0))), (q4, .inl (cA 20, 800, .inl (fun _ => 0))), (q5, .inl (cA 20, 550, .inl (fun _ => 0))), (q6, .inl (cA 20, 2, .inl (fun _ => 0))), (q7, .inl (cA 20, 9, .inl (fun _ => 0))), (q8, .inl (cA 20, 9, .inl (fun _ => 0))), (q9, .inl (cA 23, 8, .inr (.inl (fun _ => 0)))), (q10, .inl (cA 23, 8, .inr (.inl (fun _ => 0)))), (q11, .inl (cA 20, 9, .inl (fun _ => 0))), (q12, .inl (cA 20, 9, .inl (fun _ => 0))), (q13, .inl (cA 20, 512, .inl (fun _ => 0))), (q14, .inl (cA 20, 6, .inl (fun _ => 0))), (q15, .inl (cA 20, 6, .inl (fun _ => 0))), (q16, .inl (cA 20, 4, .inl tk8)), (q17, .inl (cA 20, 4, .inl (fun _ => 0))), (q18, .inl (cA 23, 160, .inr (.inl (fun _ => 0))))])) (cells' := 18) (slots' := 4639) rfl rfl rfl ?_
  refine n_aln (k := 0) F (by decide +kernel) rfl (j := 1) rfl ?_
  refine n_get (idx := 9) (ci := 11) (k := 0) (j := 0) (fs := [.ref q1, .ref q2, .ref q3, .int 0, .ref q4, .ref q5, .int 0, .int 0, .int 0, .int 0, .int 0, .int 0, .int 0, .int 0, .int 0, .int (-1), .long 0, .long 0, .long 0, .ref q6, .ref q7, .ref q8, .ref q9, .ref q10, .long 0, .long 0, .long 0, .ref q11, .ref q12, .ref q13, .ref q14, .ref q15, .int 0, .ref q16, .ref q17, .ref q18]) (v := .ref q1) F (by decide +kernel) rfl rfl (by decide) (mBW_of 1575 (by decide +kernel)) rfl ?_
  refine n_si (x := 550) (v := 550) F (by decide +kernel) (by decide) ?_
  refine n_ic (x := 5) (v := 5) F (by decide +kernel) (by decide) ?_
  refine n_iln (k := 1) F (by decide +kernel) rfl (j := 0) rfl ?_
  refine n_mul (z := 40) F (by decide +kernel) (by decide) ?_
  refine n_add (z := 590) F (by decide +kernel) (by decide) ?_
  refine n_ic (x := 1) (v := 1) F (by decide +kernel) (by decide) ?_
  refine n_add (z := 591) F (by decide +kernel) (by decide) ?_
  refine n_ic (x := 3) (v := 3) F (by decide +kernel) (by decide) ?_
  refine n_ia (j := 1) (n := 635) (f := tk49) (o' := .inl (cA 20, 635, .inl tk50)) F (by decide +kernel) rfl (by unfold vp_in; decide) rfl ?_
  refine n_ws (ws' := (h, .inr (11, [.ref q1, .ref q2, .ref q3, .int 0, .ref q4, .ref q5, .int 0, .int 0, .int 0, .int 0, .int 0, .int 0, .int 0, .int 0, .int 0, .int (-1), .long 0, .long 0, .long 0, .ref q6, .ref q7, .ref q8, .ref q9, .ref q10, .long 0, .long 0, .long 0, .ref q11, .ref q12, .ref q13, .ref q14, .ref q15, .int 0, .ref q16, .ref q17, .ref q18])) :: ([(q1, .inl (cA 20, 635, .inl tk50)), (q2, .inl (cA 20, 1905, .inl (fun _ => 0))), (q3, .inl (cA 22, 3, .inl (fun _ => 0))), (q4, .inl (cA 20, 800, .inl (fun _ => 0))), (q5, .inl (cA 20, 550, .inl (fun _ => 0))), (q6, .inl (cA 20, 2, .inl (fun _ => 0))), (q7, .inl (cA 20, 9, .inl (fun _ => 0))), (q8, .inl (cA 20, 9, .inl (fun _ => 0))), (q9, .inl (cA 23, 8, .inr (.inl (fun _ => 0)))), (q10, .inl (cA 23, 8, .inr (.inl (fun _ => 0)))), (q11, .inl (cA 20, 9, .inl (fun _ => 0))), (q12, .inl (cA 20, 9, .inl (fun _ => 0))), (q13, .inl (cA 20, 512, .inl (fun _ => 0))), (q14, .inl (cA 20, 6, .inl (fun _ => 0))), (q15, .inl (cA 20, 6, .inl (fun _ => 0))), (q16, .inl (cA 20, 4, .inl tk8)), (q17, .inl (cA 20, 4, .inl (fun _ => 0))), (q18, .inl (cA 23, 160, .inr (.inl (fun _ => 0))))])) (cells' := 18) (slots' := 4639) rfl rfl rfl ?_
  refine n_aln (k := 0) F (by decide +kernel) rfl (j := 1) rfl ?_
  refine n_get (idx := 9) (ci := 11) (k := 0) (j := 0) (fs := [.ref q1, .ref q2, .ref q3, .int 0, .ref q4, .ref q5, .int 0, .int 0, .int 0, .int 0, .int 0, .int 0, .int 0, .int 0, .int 0, .int (-1), .long 0, .long 0, .long 0, .ref q6, .ref q7, .ref q8, .ref q9, .ref q10, .long 0, .long 0, .long 0, .ref q11, .ref q12, .ref q13, .ref q14, .ref q15, .int 0, .ref q16, .ref q17, .ref q18]) (v := .ref q1) F (by decide +kernel) rfl rfl (by decide) (mBW_of 1575 (by decide +kernel)) rfl ?_
  refine n_si (x := 550) (v := 550) F (by decide +kernel) (by decide) ?_
  refine n_ic (x := 5) (v := 5) F (by decide +kernel) (by decide) ?_
  refine n_iln (k := 1) F (by decide +kernel) rfl (j := 0) rfl ?_
  refine n_mul (z := 40) F (by decide +kernel) (by decide) ?_
  refine n_add (z := 590) F (by decide +kernel) (by decide) ?_
  refine n_ic (x := 2) (v := 2) F (by decide +kernel) (by decide) ?_
  refine n_add (z := 592) F (by decide +kernel) (by decide) ?_
  refine n_bi (x := 80) (v := 80) F (by decide +kernel) (by decide) ?_
  refine n_ia (j := 1) (n := 635) (f := tk50) (o' := .inl (cA 20, 635, .inl tk51)) F (by decide +kernel) rfl (by unfold vp_in; decide) rfl ?_
  refine n_ws (ws' := (h, .inr (11, [.ref q1, .ref q2, .ref q3, .int 0, .ref q4, .ref q5, .int 0, .int 0, .int 0, .int 0, .int 0, .int 0, .int 0, .int 0, .int 0, .int (-1), .long 0, .long 0, .long 0, .ref q6, .ref q7, .ref q8, .ref q9, .ref q10, .long 0, .long 0, .long 0, .ref q11, .ref q12, .ref q13, .ref q14, .ref q15, .int 0, .ref q16, .ref q17, .ref q18])) :: ([(q1, .inl (cA 20, 635, .inl tk51)), (q2, .inl (cA 20, 1905, .inl (fun _ => 0))), (q3, .inl (cA 22, 3, .inl (fun _ => 0))), (q4, .inl (cA 20, 800, .inl (fun _ => 0))), (q5, .inl (cA 20, 550, .inl (fun _ => 0))), (q6, .inl (cA 20, 2, .inl (fun _ => 0))), (q7, .inl (cA 20, 9, .inl (fun _ => 0))), (q8, .inl (cA 20, 9, .inl (fun _ => 0))), (q9, .inl (cA 23, 8, .inr (.inl (fun _ => 0)))), (q10, .inl (cA 23, 8, .inr (.inl (fun _ => 0)))), (q11, .inl (cA 20, 9, .inl (fun _ => 0))), (q12, .inl (cA 20, 9, .inl (fun _ => 0))), (q13, .inl (cA 20, 512, .inl (fun _ => 0))), (q14, .inl (cA 20, 6, .inl (fun _ => 0))), (q15, .inl (cA 20, 6, .inl (fun _ => 0))), (q16, .inl (cA 20, 4, .inl tk8)), (q17, .inl (cA 20, 4, .inl (fun _ => 0))), (q18, .inl (cA 23, 160, .inr (.inl (fun _ => 0))))])) (cells' := 18) (slots' := 4639) rfl rfl rfl ?_
  refine n_aln (k := 0) F (by decide +kernel) rfl (j := 1) rfl ?_
  refine n_get (idx := 9) (ci := 11) (k := 0) (j := 0) (fs := [.ref q1, .ref q2, .ref q3, .int 0, .ref q4, .ref q5, .int 0, .int 0, .int 0, .int 0, .int 0, .int 0, .int 0, .int 0, .int 0, .int (-1), .long 0, .long 0, .long 0, .ref q6, .ref q7, .ref q8, .ref q9, .ref q10, .long 0, .long 0, .long 0, .ref q11, .ref q12, .ref q13, .ref q14, .ref q15, .int 0, .ref q16, .ref q17, .ref q18]) (v := .ref q1) F (by decide +kernel) rfl rfl (by decide) (mBW_of 1575 (by decide +kernel)) rfl ?_
  refine n_si (x := 550) (v := 550) F (by decide +kernel) (by decide) ?_
  refine n_ic (x := 5) (v := 5) F (by decide +kernel) (by decide) ?_
  refine n_iln (k := 1) F (by decide +kernel) rfl (j := 0) rfl ?_
  refine n_mul (z := 40) F (by decide +kernel) (by decide) ?_
  refine n_add (z := 590) F (by decide +kernel) (by decide) ?_
  refine n_ic (x := 3) (v := 3) F (by decide +kernel) (by decide) ?_
  refine n_add (z := 593) F (by decide +kernel) (by decide) ?_
  refine n_bi (x := 10) (v := 10) F (by decide +kernel) (by decide) ?_
  refine n_ia (j := 1) (n := 635) (f := tk51) (o' := .inl (cA 20, 635, .inl tk52)) F (by decide +kernel) rfl (by unfold vp_in; decide) rfl ?_
  refine n_ws (ws' := (h, .inr (11, [.ref q1, .ref q2, .ref q3, .int 0, .ref q4, .ref q5, .int 0, .int 0, .int 0, .int 0, .int 0, .int 0, .int 0, .int 0, .int 0, .int (-1), .long 0, .long 0, .long 0, .ref q6, .ref q7, .ref q8, .ref q9, .ref q10, .long 0, .long 0, .long 0, .ref q11, .ref q12, .ref q13, .ref q14, .ref q15, .int 0, .ref q16, .ref q17, .ref q18])) :: ([(q1, .inl (cA 20, 635, .inl tk52)), (q2, .inl (cA 20, 1905, .inl (fun _ => 0))), (q3, .inl (cA 22, 3, .inl (fun _ => 0))), (q4, .inl (cA 20, 800, .inl (fun _ => 0))), (q5, .inl (cA 20, 550, .inl (fun _ => 0))), (q6, .inl (cA 20, 2, .inl (fun _ => 0))), (q7, .inl (cA 20, 9, .inl (fun _ => 0))), (q8, .inl (cA 20, 9, .inl (fun _ => 0))), (q9, .inl (cA 23, 8, .inr (.inl (fun _ => 0)))), (q10, .inl (cA 23, 8, .inr (.inl (fun _ => 0)))), (q11, .inl (cA 20, 9, .inl (fun _ => 0))), (q12, .inl (cA 20, 9, .inl (fun _ => 0))), (q13, .inl (cA 20, 512, .inl (fun _ => 0))), (q14, .inl (cA 20, 6, .inl (fun _ => 0))), (q15, .inl (cA 20, 6, .inl (fun _ => 0))), (q16, .inl (cA 20, 4, .inl tk8)), (q17, .inl (cA 20, 4, .inl (fun _ => 0))), (q18, .inl (cA 23, 160, .inr (.inl (fun _ => 0))))])) (cells' := 18) (slots' := 4639) rfl rfl rfl ?_
  refine n_aln (k := 0) F (by decide +kernel) rfl (j := 1) rfl ?_
  refine n_get (idx := 9) (ci := 11) (k := 0) (j := 0) (fs := [.ref q1, .ref q2, .ref q3, .int 0, .ref q4, .ref q5, .int 0, .int 0, .int 0, .int 0, .int 0, .int 0, .int 0, .int 0, .int 0, .int (-1), .long 0, .long 0, .long 0, .ref q6, .ref q7, .ref q8, .ref q9, .ref q10, .long 0, .long 0, .long 0, .ref q11, .ref q12, .ref q13, .ref q14, .ref q15, .int 0, .ref q16, .ref q17, .ref q18]) (v := .ref q1) F (by decide +kernel) rfl rfl (by decide) (mBW_of 1575 (by decide +kernel)) rfl ?_
  refine n_si (x := 550) (v := 550) F (by decide +kernel) (by decide) ?_
  refine n_ic (x := 5) (v := 5) F (by decide +kernel) (by decide) ?_
  refine n_iln (k := 1) F (by decide +kernel) rfl (j := 0) rfl ?_
  refine n_mul (z := 40) F (by decide +kernel) (by decide) ?_
  refine n_add (z := 590) F (by decide +kernel) (by decide) ?_
  refine n_ic (x := 4) (v := 4) F (by decide +kernel) (by decide) ?_
  refine n_add (z := 594) F (by decide +kernel) (by decide) ?_
  refine n_ic (x := 1) (v := 1) F (by decide +kernel) (by decide) ?_
  refine n_ia (j := 1) (n := 635) (f := tk52) (o' := .inl (cA 20, 635, .inl tk53)) F (by decide +kernel) rfl (by unfold vp_in; decide) rfl ?_
  refine n_ws (ws' := (h, .inr (11, [.ref q1, .ref q2, .ref q3, .int 0, .ref q4, .ref q5, .int 0, .int 0, .int 0, .int 0, .int 0, .int 0, .int 0, .int 0, .int 0, .int (-1), .long 0, .long 0, .long 0, .ref q6, .ref q7, .ref q8, .ref q9, .ref q10, .long 0, .long 0, .long 0, .ref q11, .ref q12, .ref q13, .ref q14, .ref q15, .int 0, .ref q16, .ref q17, .ref q18])) :: ([(q1, .inl (cA 20, 635, .inl tk53)), (q2, .inl (cA 20, 1905, .inl (fun _ => 0))), (q3, .inl (cA 22, 3, .inl (fun _ => 0))), (q4, .inl (cA 20, 800, .inl (fun _ => 0))), (q5, .inl (cA 20, 550, .inl (fun _ => 0))), (q6, .inl (cA 20, 2, .inl (fun _ => 0))), (q7, .inl (cA 20, 9, .inl (fun _ => 0))), (q8, .inl (cA 20, 9, .inl (fun _ => 0))), (q9, .inl (cA 23, 8, .inr (.inl (fun _ => 0)))), (q10, .inl (cA 23, 8, .inr (.inl (fun _ => 0)))), (q11, .inl (cA 20, 9, .inl (fun _ => 0))), (q12, .inl (cA 20, 9, .inl (fun _ => 0))), (q13, .inl (cA 20, 512, .inl (fun _ => 0))), (q14, .inl (cA 20, 6, .inl (fun _ => 0))), (q15, .inl (cA 20, 6, .inl (fun _ => 0))), (q16, .inl (cA 20, 4, .inl tk8)), (q17, .inl (cA 20, 4, .inl (fun _ => 0))), (q18, .inl (cA 23, 160, .inr (.inl (fun _ => 0))))])) (cells' := 18) (slots' := 4639) rfl rfl rfl ?_
  refine n_inc (i := 1) (n := 1) (k := 0) (v := 9) (lv' := [(1, .int 9), (0, .ref h)]) F (by decide +kernel) rfl (by decide) (by decide) rfl ?_
  refine n_go (off := -84) (tgt := 180) F (by decide +kernel) (by decide) ?_
  refine n_iln (k := 1) F (by decide +kernel) rfl (j := 0) rfl ?_
  refine n_bi (x := 9) (v := 9) F (by decide +kernel) (by decide) ?_
  refine n_get_ge (off := 84) (tgt := 267) F (by decide +kernel) (by decide) (by decide) ?_
  exact n_vret F hm.2.1 hm.2.2 (by decide +kernel) (fun k => match k with | 0 => q1 | 1 => q2 | 2 => q3 | 3 => q4 | 4 => q5 | 5 => q6 | 6 => q7 | 7 => q8 | 8 => q9 | 9 => q10 | 10 => q11 | 11 => q12 | 12 => q13 | 13 => q14 | 14 => q15 | 15 => q16 | 16 => q17 | _ => q18) rfl ⟨by decide, by decide⟩ rfl
end LCONM
