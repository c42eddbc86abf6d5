section MSOUND5
/-- the constant pool's place of a thrown class's constructor -/
def mExC (a : Nat) : Nat := match a with
  | 0 => 430
  | 1 => 101
  | 2 => 318
  | _ => 332
def mRN : List String := ["java/lang/RuntimeException", "java/lang/Exception"]
def mAt (a : Nat) : List Cond := match a with
  | 0 => nx_at RX10 430 "java/util/NoSuchElementException" mRN
  | 1 => vx_atS RX10 101 "java/lang/IllegalArgumentException" mRN
  | 2 => vx_atS RX10 318 "java/lang/IllegalStateException" mRN
  | _ => vx_atS RX10 332 "java/lang/IndexOutOfBoundsException" mRN
theorem mThr1 : ∀ a, a < 4 → ((mAt a).filter goodWord).all (fun w => decide (w ∈ lw_tbl)) = true := by decide +kernel
theorem mThr2 : ∀ a, a < 4 → ((mAt a).filter (fun w => !goodWord w)).all (fun w => decide (w ∈ mNG) && w.onTables) = true := by decide +kernel
theorem mThr3 : ∀ a, a < 4 → (mAt a).all vx_ot = true := by decide +kernel
theorem mThr4 : ∀ a, a < 4 → Bundle.fit (mEx a) = true := by decide +kernel
def mCd (a : Nat) : Jvm.ClassFile.Cond := match a with
  | 0 => .eq
  | 1 => .ne
  | 2 => .lt
  | 3 => .ge
  | 4 => .gt
  | _ => .le
def mLn (q : mIn) : Nat := match q with
  | (_, op, _, a, b, _, _) => match op with
    | 0 => match a with
      | 0 => 1
      | 1 => 2
      | 2 => 3
      | 3 => 2
      | _ => 3
    | 1 => match a with
      | 0 => 1
      | _ => 3
    | 2 => b
    | 3 => b
    | 4 => b
    | 5 => b
    | 6 => b
    | 7 => b
    | 8 => 3
    | 19 => 3
    | 20 => 3
    | 21 => 4
    | 23 => 3
    | 24 => 3
    | 25 => 3
    | 32 => 3
    | 36 => 3
    | 37 => 2
    | 38 => 3
    | 39 => 3
    | 40 => 3
    | 41 => 3
    | _ => 1
/-- what a method's rows are held against: class, code, callees, answer's type, room, locals -/
abbrev mPm : Type := String × ByteArray × (Nat → mCal) × Option FieldType × (Nat × Nat × Nat × Nat) × Nat × (Nat → Nat) × (Nat → Nat)
def mDl (cc : ByteArray) (pc a b : Nat) (n : Fin 4 → Instr) (w : Nat → Instr) : Bool := match b with
  | 1 => mDc cc pc (n (Fin.ofNat 4 a)) 1 && decide (a < 4)
  | 2 => mDc cc pc (w a) 2
  | _ => false
def mJp (acc acs : Nat → Nat) (pc b : Nat) : Bool := decide (acc pc ≤ acc b) && decide (acs pc ≤ acs b)
def mCk (own : String) (T : Nat → mCal) (rm : Nat × Nat × Nat × Nat) (acc acs : Nat → Nat) (pc a np i : Nat) : Bool :=
  decide ((T a).1.cls ≠ "java/lang/invoke/MethodHandle" ∧ (T a).1.cls ≠ "java/lang/invoke/VarHandle" ∧ (parseMethodDescriptor (T a).1.desc).map (fun d => d.parameters.length) = some np) &&
  mB i (.code (T a).1 (T a).2.1 (T a).2.2.1 (T a).2.2.2.1) && decide ((T a).2.2.2.2.1 + 1 ≤ rm.1 ∧ 8 + ((T a).2.2.1 + 11) + (T a).2.2.2.2.2.1 ≤ rm.2.1) &&
  decide (acc pc + (T a).2.2.2.2.2.2.1 ≤ acc (pc + 3) ∧ acs pc + (T a).2.2.2.2.2.2.2 ≤ acs (pc + 3)) && decide (acc (pc + 3) ≤ rm.2.2.1 ∧ acs (pc + 3) ≤ rm.2.2.2)
def mMt (own : String) (cc : ByteArray) (rm : Nat × Nat × Nat × Nat) (acc acs : Nat → Nat) (pc idx : Nat) (ts : List Nat) (y : MethodName) (code : ByteArray) (ml : Nat) (ty : FieldType) : Bool :=
  mDc cc pc (.invokestatic idx) 3 && mB (ts.getD 0 0) (.methodLink own idx y) && mB (ts.getD 1 0) (.static y) && mB (ts.getD 2 0) (.initialized "java/lang/Math") && mB (ts.getD 3 0) (.code y code ml (some ty)) && decide (1 ≤ rm.1 ∧ 23 ≤ rm.2.1) && decide (acc (pc + 3) ≤ rm.2.2.1 ∧ acs (pc + 3) ≤ rm.2.2.2)
def mChk (pm : mPm) (q : mIn) : Bool := match pm with
  | (own, cc, T, rt, rm, nL, acc, acs) => match q with
    | (pc, op, x, a, b, c, ts) => match op with
      | 0 => match a with
        | 0 => mDc cc pc (.iconst x) 1
        | 1 => mDc cc pc (.bipush x) 2 && decide ((Int8.ofInt x).toInt32 = Int32.ofInt x)
        | 2 => mDc cc pc (.sipush x) 3 && decide ((Int16.ofInt x).toInt32 = Int32.ofInt x)
        | 3 => mDc cc pc (.ldc b) 2 && mB c (.constant own b (Int32.ofInt x))
        | _ => mDc cc pc (.ldc_w b) 3 && mB c (.constant own b (Int32.ofInt x))
      | 1 => match a with
        | 0 => mDc cc pc (.lconst (Fin.ofNat 2 b)) 1 && decide (Int64.ofNat ((Fin.ofNat 2 b : Fin 2) : Nat) = Int64.ofInt x)
        | _ => mDc cc pc (.ldc2_w b) 3 && mB c (.constantLong own b (Int64.ofInt x))
      | 2 => mDl cc pc a b .iload_n .iload
      | 3 => mDl cc pc a b .lload_n .lload
      | 4 => mDl cc pc a b .aload_n .aload
      | 5 => mDl cc pc a b .istore_n .istore
      | 6 => mDl cc pc a b .lstore_n .lstore
      | 7 => mDl cc pc a b .astore_n .astore
      | 8 => mDc cc pc (.iinc a x) 3
      | 9 => match a with
        | 0 => mDc cc pc .iadd 1
        | 1 => mDc cc pc .isub 1
        | 2 => mDc cc pc .imul 1
        | 3 => mDc cc pc .iand 1
        | 4 => mDc cc pc .ior 1
        | 5 => mDc cc pc .ixor 1
        | 6 => mDc cc pc .ishl 1
        | 7 => mDc cc pc .ishr 1
        | 8 => mDc cc pc .iushr 1
        | _ => false
      | 10 => mDc cc pc .ineg 1
      | 11 => match a with
        | 0 => mDc cc pc .ladd 1
        | 1 => mDc cc pc .lsub 1
        | 2 => mDc cc pc .lmul 1
        | 3 => mDc cc pc .land 1
        | 4 => mDc cc pc .lor 1
        | _ => false
      | 12 => mDc cc pc .lneg 1
      | 13 => mDc cc pc .i2l 1
      | 14 => mDc cc pc .l2i 1
      | 15 => match a with
        | 0 => mDc cc pc .i2b 1
        | 1 => mDc cc pc .i2s 1
        | 2 => mDc cc pc .i2c 1
        | _ => false
      | 16 => match a with
        | 0 => mDc cc pc .idiv 1
        | 1 => mDc cc pc .irem 1
        | _ => false
      | 17 => match a with
        | 0 => mDc cc pc .ldiv 1
        | 1 => mDc cc pc .lrem 1
        | _ => false
      | 18 => match a with
        | 0 => mDc cc pc .lshl 1
        | 1 => mDc cc pc .lshr 1
        | _ => false
      | 19 => decide (a < 6) && mDc cc pc (.if_icmp (mCd a) ((b : Int) - (pc : Int))) 3 && mJp acc acs pc b
      | 20 => decide (a < 6) && mDc cc pc (.ifCond (mCd a) ((b : Int) - (pc : Int))) 3 && mJp acc acs pc b
      | 21 => decide (a < 6) && mDc cc pc .lcmp 1 && mDc cc (pc + 1) (.ifCond (mCd a) ((b : Int) - ((pc + 1 : Nat) : Int))) 3 && mJp acc acs pc b
      | 22 => mDc cc pc (.goto ((b : Int) - (pc : Int))) 3 && mJp acc acs pc b
      | 23 => match a with
        | 0 => mDc cc pc (.ifnull ((b : Int) - (pc : Int))) 3 && mJp acc acs pc b
        | 1 => mDc cc pc (.ifnonnull ((b : Int) - (pc : Int))) 3 && mJp acc acs pc b
        | _ => false
      | 24 => match vwCl[a]? with
        | some r => decide (b < r.2.2) && mDc cc pc (.getfield c) 3 && mB (ts.getD 0 0) (.fieldLink own c (r.2.1 b).1 (r.2.1 b).2.1 (r.2.1 b).2.2.1)
        | none => false
      | 25 => match vwCl[a]? with
        | some r => decide (b < r.2.2) && mDc cc pc (.putfield c) 3 && mB (ts.getD 0 0) (.fieldLink own c (r.2.1 b).1 (r.2.1 b).2.1 (r.2.1 b).2.2.1) && decide ((r.2.1 b).2.2.2 = false) &&
          (match fk a b with
            | 0 => decide (parseFieldDescriptor (r.2.1 b).2.2.1 = some .int)
            | 1 => decide (parseFieldDescriptor (r.2.1 b).2.2.1 = some .long)
            | 3 => decide (parseFieldDescriptor (r.2.1 b).2.2.1 = some .boolean)
            | _ => false)
        | none => false
      | 26 => match a with
        | 20 => mDc cc pc .iaload 1
        | 21 => mDc cc pc .baload 1
        | 22 => mDc cc pc .baload 1
        | 23 => mDc cc pc .laload 1
        | 24 => mDc cc pc .aaload 1
        | 25 => mDc cc pc .aaload 1
        | _ => false
      | 27 => match a with
        | 20 => mDc cc pc .iastore 1
        | 21 => mDc cc pc .bastore 1
        | 22 => mDc cc pc .bastore 1
        | 23 => mDc cc pc .lastore 1
        | _ => false
      | 28 => mDc cc pc .arraylength 1
      | 29 => mDc cc pc .dup 1
      | 30 => mDc cc pc .dup2 1
      | 31 => mDc cc pc .pop 1
      | 32 => if x = 0 then mDc cc pc (.invokevirtual c) 3 && mB (ts.getD 1 0) (.methodLink own c (T a).1) && mB (ts.getD 2 0) (.instanceMethod (T a).1) && mB (ts.getD 3 0) (.selects (T a).1.cls (T a).1 (T a).1) && mB (ts.getD 4 0) (.initialized (T a).1.cls) && mCk own T rm acc acs pc a (b - 1) (ts.getD 5 0) && decide (1 ≤ b) && (match vwCl[ts.getD 0 99]? with
            | some r => decide (r.1 = (T a).1.cls)
            | none => false)
        else if x = 1 then mDc cc pc (.invokestatic c) 3 && mB (ts.getD 0 0) (.methodLink own c (T a).1) && mB (ts.getD 1 0) (.static (T a).1) && mB (ts.getD 2 0) (.initialized (T a).1.cls) && mCk own T rm acc acs pc a b (ts.getD 3 0)
        else if x = 3 then mDc cc pc (.invokestatic c) 3 && decide (mNG[ts.getD 0 0]? = some (.methodLinkNest own c (T a).1 "NineOnGrass")) && mB (ts.getD 1 0) (.static (T a).1) && mB (ts.getD 2 0) (.initialized (T a).1.cls) && mCk own T rm acc acs pc a b (ts.getD 3 0)
        else false
      | 33 => decide (acc pc ≤ rm.2.2.1 ∧ acs pc ≤ rm.2.2.2) && (match a with
        | 0 => mDc cc pc .return_ 1 && decide (rt = none)
        | 1 => mDc cc pc .ireturn 1 && decide (rt = some .int)
        | 2 => mDc cc pc .lreturn 1 && decide (rt = some .long)
        | 3 => mDc cc pc .areturn 1 && (match rt with
          | some (.object _) => true
          | some (.array _) => true
          | _ => false)
        | 4 => mDc cc pc .ireturn 1 && decide (rt = some .boolean)
        | _ => false)
      | 34 => mDc cc pc (.tableswitch ((b : Int) - pc) x (x + (ts.length : Int) - 1) (ts.map (fun t => ((t : Nat) : Int) - pc)).toArray) c && (b :: ts).all (fun t => mJp acc acs pc t)
      | 35 => decide (own = RX10 ∧ a < 4 ∧ ts.getD 0 0 = mExC a) && mB (ts.getD 2 0) (.classLink own b (mEx a)) && mB (ts.getD 3 0) (.initialized (mEx a)) && mStr.any (fun q => decide (q.1 = own ∧ q.2.1 = c)) && decide (acc pc + 1 ≤ rm.2.2.1 ∧ acs pc + 6 ≤ rm.2.2.2) && decide (5 < rm.1 ∧ 90 ≤ rm.2.1) && mDc cc pc (.new b) 3 && mDc cc (pc + 3) .dup 1 &&
          (match ts.getD 1 0 with
            | 0 => decide (a ≠ 0) && mDc cc (pc + 4) (.ldc c) 2 && mDc cc (pc + 6) (.invokespecial (mExC a)) 3 && mDc cc (pc + 9) .athrow 1
            | _ => mDc cc (pc + 4) (.ldc_w c) 3 && mDc cc (pc + 7) (.invokespecial (mExC a)) 3 && mDc cc (pc + 10) .athrow 1)
      | 36 => mDc cc pc (.getstatic c) 3 && (match a with
        | 0 => decide (Cond.fieldLinkNest own c "NineOnGrass" "STEP_X" "[I" "NineOnGrass" ∈ mNG)
        | 1 => decide (Cond.fieldLinkNest own c "NineOnGrass" "STEP_Y" "[I" "NineOnGrass" ∈ mNG)
        | _ => false)
      | 37 => mDc cc pc (.ldc c) 2 && mStr.any (fun q => decide (q.1 = own ∧ q.2.1 = c ∧ q.2.2.2 = 250 + a))
      | 38 => mDc cc pc (.invokevirtual c) 3 && mB (ts.getD 0 0) (.methodLink own c yJ0_length_8abf5) && mB (ts.getD 1 0) (.instanceMethod yJ0_length_8abf5) && mB (ts.getD 2 0) (.selects "java/lang/String" yJ0_length_8abf5 yJ0_length_8abf5) && mB (ts.getD 3 0) (.initialized "java/lang/String") && mB (ts.getD 4 0) (.code yJ0_length_8abf5 cJ0_length_8abf5 1 (some .int)) && decide (2 ≤ rm.1 ∧ 60 ≤ rm.2.1) && decide (acc (pc + 3) ≤ rm.2.2.1 ∧ acs (pc + 3) ≤ rm.2.2.2)
      | 39 => mDc cc pc (.invokevirtual c) 3 && mB (ts.getD 0 0) (.methodLink own c yJ0_charAt_5068e) && mB (ts.getD 1 0) (.instanceMethod yJ0_charAt_5068e) && mB (ts.getD 2 0) (.selects "java/lang/String" yJ0_charAt_5068e yJ0_charAt_5068e) && mB (ts.getD 3 0) (.initialized "java/lang/String") && mB (ts.getD 4 0) (.code yJ0_charAt_5068e cJ0_charAt_5068e 2 (some .char)) && decide (5 ≤ rm.1 ∧ 141 ≤ rm.2.1) && decide (acc (pc + 3) ≤ rm.2.2.1 ∧ acs (pc + 3) ≤ rm.2.2.2)
      | 40 => match a with
        | 0 => mMt own cc rm acc acs pc c ts Lib.Math.max.name Lib.Math.max.code 2 .int
        | 1 => mMt own cc rm acc acs pc c ts Lib.Math.min.name Lib.Math.min.code 2 .int
        | 2 => mMt own cc rm acc acs pc c ts Lib.Math.abs.name Lib.Math.abs.code 1 .int
        | 3 => mMt own cc rm acc acs pc c ts Lib.MathLoose.max_long.x Lib.MathLoose.max_long.code 4 .long
        | _ => false
      | 41 => mDc cc pc (.invokestatic c) 3 && mB (ts.getD 0 0) (.methodLink own c arraycopyName) && mB (ts.getD 1 0) (.native arraycopyName) && mB (ts.getD 2 0) (.static arraycopyName) && mB (ts.getD 3 0) (.initialized "java/lang/System") && decide (1 ≤ rm.1 ∧ 60 ≤ rm.2.1)
      | 42 => mDc cc pc .aconst_null 1
      | 43 => decide (b = pc) && mJp acc acs pc b
      | _ => false
/-- falls through to the row behind it -/
def mFt (q : mIn) : Bool := !(q.2.1 == 22 || q.2.1 == 33 || q.2.1 == 34 || q.2.1 == 35 || q.2.1 == 43)
def mAc (pm : mPm) (q : mIn) : Bool := !(mFt q) || mJp pm.2.2.2.2.2.2.1 pm.2.2.2.2.2.2.2 q.1 (q.1 + mLn q)
theorem mJp_of {acc acs : Nat → Nat} {pc b : Nat} (h : mJp acc acs pc b = true) : acc pc ≤ acc b ∧ acs pc ≤ acs b := by
  simp only [mJp, Bool.and_eq_true, decide_eq_true_eq] at h
  exact h
section SO
variable {p : Program} {l : Launch} {e : Env} {R : Room} {s : State} {m : MethodId} {args : Array Value} {below : List Frame} {meth : Method} {c : Code} {nL : Nat} {D : va_G} {cA : Nat → ClassId} {ρ : Nat → Nat} {fl : Nat → Bool} {acc acs : Nat → Nat} {cc : ByteArray} {own : String} {ro : mRo} {T : Nat → mCal} {rt : Option FieldType} {rm : Nat × Nat × Nat × Nat} {Qs : State → Prop} {S : Nat → mSp} {J : Nat → mK} {Q : mO → mM → Prop} {X : String → mLv → mM → Prop} {k : mK} {lv : mLv} {st : mSt} {I : mM}
theorem mStep_ok {q : mIn} (F : mFx p s m args c cc nL own D cA ρ fl ro) (hR : R = mRm rm) (hro : True) (hk : mFt q = true → ∀ lv st I, k lv st I → mAW p l e R s m args below meth c Qs nL D cA ρ fl acc acs (q.1 + mLn q) lv st I) (hJ : ∀ t, acc q.1 ≤ acc t ∧ acs q.1 ≤ acs t → ∀ lv st I, J t lv st I → mAW p l e R s m args below meth c Qs nL D cA ρ fl acc acs (t) lv st I) (hX : ∀ E lv I, acc (q.1 + 3) ≤ rm.2.2.1 ∧ acs (q.1 + 3) ≤ rm.2.2.2 → X E lv I → mXW p l e R s m args below meth c Qs nL D cA ρ fl acc acs q.1 E lv I) (hC : ∀ a, mCtr l (T a) (S a)) (hT : mTxM l)
    (hret : ∀ pc a lv st I, w_ret a Q lv st I → acc pc ≤ rm.2.2.1 ∧ acs pc ≤ rm.2.2.2 → (match a with
        | 0 => mDc cc pc .return_ 1 && decide (rt = none)
        | 1 => mDc cc pc .ireturn 1 && decide (rt = some .int)
        | 2 => mDc cc pc .lreturn 1 && decide (rt = some .long)
        | 3 => mDc cc pc .areturn 1 && (match rt with
          | some (.object _) => true
          | some (.array _) => true
          | _ => false)
        | 4 => mDc cc pc .ireturn 1 && decide (rt = some .boolean)
        | _ => false) = true → mAW p l e R s m args below meth c Qs nL D cA ρ fl acc acs (pc) lv st I)
    (hthr : ∀ (pc a b c0 : Nat) (x : Int) (ts : List Nat) lv st I, (st = [] ∧ X (mEx a) lv I) → mChk (own, cc, T, rt, rm, nL, acc, acs) (pc, 35, x, a, b, c0, ts) = true → mAW p l e R s m args below meth c Qs nL D cA ρ fl acc acs (pc) lv st I) (hq : mChk (own, cc, T, rt, rm, nL, acc, acs) q = true) (ha : mAc (own, cc, T, rt, rm, nL, acc, acs) q = true) (h : mStep S J Q X fl ro q k lv st I) : mAW p l e R s m args below meth c Qs nL D cA ρ fl acc acs (q.1) lv st I := by
  obtain ⟨pc, op, x, a, b, c0, ts⟩ := q
  have hac : mFt (pc, op, x, a, b, c0, ts) = true → acc pc ≤ acc (pc + mLn (pc, op, x, a, b, c0, ts)) ∧ acs pc ≤ acs (pc + mLn (pc, op, x, a, b, c0, ts)) := fun hf => by
    unfold mAc at ha
    rw [hf] at ha
    exact mJp_of ha
  clear ha
  match op with
  | 0 =>
    match a with
    | 0 =>
      exact so_ic0 F (hk rfl) (hac rfl) (mDc_of hq) h
    | 1 =>
      simp only [mChk, Bool.and_eq_true, decide_eq_true_eq] at hq
      exact so_ic1 F (hk rfl) (hac rfl) (mDc_of hq.1) hq.2 h
    | 2 =>
      simp only [mChk, Bool.and_eq_true, decide_eq_true_eq] at hq
      exact so_ic2 F (hk rfl) (hac rfl) (mDc_of hq.1) hq.2 h
    | 3 =>
      simp only [mChk, Bool.and_eq_true] at hq
      exact so_ic3 F (hk rfl) (hac rfl) (mDc_of hq.1) (mB_in hq.2) h
    | _ + 4 =>
      simp only [mChk, Bool.and_eq_true] at hq
      exact so_ic4 F (hk rfl) (hac rfl) (mDc_of hq.1) (mB_in hq.2) h
  | 1 =>
    match a with
    | 0 =>
      simp only [mChk, Bool.and_eq_true, decide_eq_true_eq] at hq
      exact so_lc0 F (hk rfl) (hac rfl) (mDc_of hq.1) hq.2 h
    | _ + 1 =>
      simp only [mChk, Bool.and_eq_true] at hq
      exact so_lc1 F (hk rfl) (hac rfl) (mDc_of hq.1) (mB_in hq.2) h
  | 2 =>
    match b with
    | 0 => exact absurd (show false = true from hq) (by decide)
    | 1 =>
      have hq2 : (mDc cc pc _ 1 && decide (a < 4)) = true := hq
      simp only [Bool.and_eq_true, decide_eq_true_eq] at hq2
      exact so_ld_in F (hk rfl) (hac rfl) (mDc_of hq2.1) (by simp [Fin.ofNat]; omega) h
    | 2 => exact so_ld_iw F (hk rfl) (hac rfl) (mDc_of hq) h
    | _ + 3 => exact absurd hq (by simp [mChk, mDl])
  | 3 =>
    match b with
    | 0 => exact absurd (show false = true from hq) (by decide)
    | 1 =>
      have hq2 : (mDc cc pc _ 1 && decide (a < 4)) = true := hq
      simp only [Bool.and_eq_true, decide_eq_true_eq] at hq2
      exact so_ld_ln F (hk rfl) (hac rfl) (mDc_of hq2.1) (by simp [Fin.ofNat]; omega) h
    | 2 => exact so_ld_lw F (hk rfl) (hac rfl) (mDc_of hq) h
    | _ + 3 => exact absurd hq (by simp [mChk, mDl])
  | 4 =>
    match b with
    | 0 => exact absurd (show false = true from hq) (by decide)
    | 1 =>
      have hq2 : (mDc cc pc _ 1 && decide (a < 4)) = true := hq
      simp only [Bool.and_eq_true, decide_eq_true_eq] at hq2
      exact so_ld_an F (hk rfl) (hac rfl) (mDc_of hq2.1) (by simp [Fin.ofNat]; omega) h
    | 2 => exact so_ld_aw F (hk rfl) (hac rfl) (mDc_of hq) h
    | _ + 3 => exact absurd hq (by simp [mChk, mDl])
  | 5 =>
    match b with
    | 0 => exact absurd (show false = true from hq) (by decide)
    | 1 =>
      have hq2 : (mDc cc pc _ 1 && decide (a < 4)) = true := hq
      simp only [Bool.and_eq_true, decide_eq_true_eq] at hq2
      exact so_st_in F (hk rfl) (hac rfl) (mDc_of hq2.1) (by simp [Fin.ofNat]; omega) h
    | 2 => exact so_st_iw F (hk rfl) (hac rfl) (mDc_of hq) h
    | _ + 3 => exact absurd hq (by simp [mChk, mDl])
  | 6 =>
    match b with
    | 0 => exact absurd (show false = true from hq) (by decide)
    | 1 =>
      have hq2 : (mDc cc pc _ 1 && decide (a < 4)) = true := hq
      simp only [Bool.and_eq_true, decide_eq_true_eq] at hq2
      exact so_st_ln F (hk rfl) (hac rfl) (mDc_of hq2.1) (by simp [Fin.ofNat]; omega) h
    | 2 => exact so_st_lw F (hk rfl) (hac rfl) (mDc_of hq) h
    | _ + 3 => exact absurd hq (by simp [mChk, mDl])
  | 7 =>
    match b with
    | 0 => exact absurd (show false = true from hq) (by decide)
    | 1 =>
      have hq2 : (mDc cc pc _ 1 && decide (a < 4)) = true := hq
      simp only [Bool.and_eq_true, decide_eq_true_eq] at hq2
      exact so_st_an F (hk rfl) (hac rfl) (mDc_of hq2.1) (by simp [Fin.ofNat]; omega) h
    | 2 => exact so_st_aw F (hk rfl) (hac rfl) (mDc_of hq) h
    | _ + 3 => exact absurd hq (by simp [mChk, mDl])
  | 8 =>
    exact so_iinc F (hk rfl) (hac rfl) (mDc_of hq) h
  | 9 =>
    match a with
    | 0 =>
      exact so_ib0 F (hk rfl) (hac rfl) (mDc_of hq) h
    | 1 =>
      exact so_ib1 F (hk rfl) (hac rfl) (mDc_of hq) h
    | 2 =>
      exact so_ib2 F (hk rfl) (hac rfl) (mDc_of hq) h
    | 3 =>
      exact so_ib3 F (hk rfl) (hac rfl) (mDc_of hq) h
    | 4 =>
      exact so_ib4 F (hk rfl) (hac rfl) (mDc_of hq) h
    | 5 =>
      exact so_ib5 F (hk rfl) (hac rfl) (mDc_of hq) h
    | 6 =>
      exact so_ib6 F (hk rfl) (hac rfl) (mDc_of hq) h
    | 7 =>
      exact so_ib7 F (hk rfl) (hac rfl) (mDc_of hq) h
    | 8 =>
      exact so_ib8 F (hk rfl) (hac rfl) (mDc_of hq) h
    | _ + 9 =>
      exact absurd hq (by simp [mChk])
  | 10 =>
    exact so_ineg F (hk rfl) (hac rfl) (mDc_of hq) h
  | 11 =>
    match a with
    | 0 =>
      exact so_lb0 F (hk rfl) (hac rfl) (mDc_of hq) h
    | 1 =>
      exact so_lb1 F (hk rfl) (hac rfl) (mDc_of hq) h
    | 2 =>
      exact so_lb2 F (hk rfl) (hac rfl) (mDc_of hq) h
    | 3 =>
      exact so_lb3 F (hk rfl) (hac rfl) (mDc_of hq) h
    | 4 =>
      exact so_lb4 F (hk rfl) (hac rfl) (mDc_of hq) h
    | _ + 5 =>
      exact absurd hq (by simp [mChk])
  | 12 =>
    exact so_lneg F (hk rfl) (hac rfl) (mDc_of hq) h
  | 13 =>
    exact so_i2l F (hk rfl) (hac rfl) (mDc_of hq) h
  | 14 =>
    exact so_l2i F (hk rfl) (hac rfl) (mDc_of hq) h
  | 15 =>
    match a with
    | 0 =>
      exact so_icv0 F (hk rfl) (hac rfl) (mDc_of hq) h
    | 1 =>
      exact so_icv1 F (hk rfl) (hac rfl) (mDc_of hq) h
    | 2 =>
      exact so_icv2 F (hk rfl) (hac rfl) (mDc_of hq) h
    | _ + 3 =>
      exact absurd hq (by simp [mChk])
  | 16 =>
    match a with
    | 0 =>
      exact so_idiv F (hk rfl) (hac rfl) (mDc_of hq) h
    | 1 =>
      exact so_irem F (hk rfl) (hac rfl) (mDc_of hq) h
    | _ + 2 =>
      exact absurd hq (by simp [mChk])
  | 17 =>
    match a with
    | 0 =>
      exact so_ldiv F (hk rfl) (hac rfl) (mDc_of hq) h
    | 1 =>
      exact so_lrem F (hk rfl) (hac rfl) (mDc_of hq) h
    | _ + 2 =>
      exact absurd hq (by simp [mChk])
  | 18 =>
    match a with
    | 0 =>
      exact so_lshl F (hk rfl) (hac rfl) (mDc_of hq) h
    | 1 =>
      exact so_lshr F (hk rfl) (hac rfl) (mDc_of hq) h
    | _ + 2 =>
      exact absurd hq (by simp [mChk])
  | 19 =>
    simp only [mChk, Bool.and_eq_true, decide_eq_true_eq] at hq
    obtain ⟨⟨h1, h2⟩, h3⟩ := hq
    match a with
    | 0 =>
      exact so_icmp_eq F (hJ b (mJp_of h3)) (mJp_of h3) (hk rfl) (hac rfl) (mDc_of h2) (by omega) h
    | 1 =>
      exact so_icmp_ne F (hJ b (mJp_of h3)) (mJp_of h3) (hk rfl) (hac rfl) (mDc_of h2) (by omega) h
    | 2 =>
      exact so_icmp_lt F (hJ b (mJp_of h3)) (mJp_of h3) (hk rfl) (hac rfl) (mDc_of h2) (by omega) h
    | 3 =>
      exact so_icmp_ge F (hJ b (mJp_of h3)) (mJp_of h3) (hk rfl) (hac rfl) (mDc_of h2) (by omega) h
    | 4 =>
      exact so_icmp_gt F (hJ b (mJp_of h3)) (mJp_of h3) (hk rfl) (hac rfl) (mDc_of h2) (by omega) h
    | 5 =>
      exact so_icmp_le F (hJ b (mJp_of h3)) (mJp_of h3) (hk rfl) (hac rfl) (mDc_of h2) (by omega) h
    | _ + 6 =>
      omega
  | 20 =>
    simp only [mChk, Bool.and_eq_true, decide_eq_true_eq] at hq
    obtain ⟨⟨h1, h2⟩, h3⟩ := hq
    match a with
    | 0 =>
      exact so_if_eq F (hJ b (mJp_of h3)) (mJp_of h3) (hk rfl) (hac rfl) (mDc_of h2) (by omega) h
    | 1 =>
      exact so_if_ne F (hJ b (mJp_of h3)) (mJp_of h3) (hk rfl) (hac rfl) (mDc_of h2) (by omega) h
    | 2 =>
      exact so_if_lt F (hJ b (mJp_of h3)) (mJp_of h3) (hk rfl) (hac rfl) (mDc_of h2) (by omega) h
    | 3 =>
      exact so_if_ge F (hJ b (mJp_of h3)) (mJp_of h3) (hk rfl) (hac rfl) (mDc_of h2) (by omega) h
    | 4 =>
      exact so_if_gt F (hJ b (mJp_of h3)) (mJp_of h3) (hk rfl) (hac rfl) (mDc_of h2) (by omega) h
    | 5 =>
      exact so_if_le F (hJ b (mJp_of h3)) (mJp_of h3) (hk rfl) (hac rfl) (mDc_of h2) (by omega) h
    | _ + 6 =>
      omega
  | 21 =>
    simp only [mChk, Bool.and_eq_true, decide_eq_true_eq] at hq
    obtain ⟨⟨⟨h1, h2⟩, h4⟩, h3⟩ := hq
    match a with
    | 0 =>
      exact so_lcmp_eq F (hJ b (mJp_of h3)) (mJp_of h3) (hk rfl) (hac rfl) (mDc_of h2) (mDc_of h4) (by omega) h
    | 1 =>
      exact so_lcmp_ne F (hJ b (mJp_of h3)) (mJp_of h3) (hk rfl) (hac rfl) (mDc_of h2) (mDc_of h4) (by omega) h
    | 2 =>
      exact so_lcmp_lt F (hJ b (mJp_of h3)) (mJp_of h3) (hk rfl) (hac rfl) (mDc_of h2) (mDc_of h4) (by omega) h
    | 3 =>
      exact so_lcmp_ge F (hJ b (mJp_of h3)) (mJp_of h3) (hk rfl) (hac rfl) (mDc_of h2) (mDc_of h4) (by omega) h
    | 4 =>
      exact so_lcmp_gt F (hJ b (mJp_of h3)) (mJp_of h3) (hk rfl) (hac rfl) (mDc_of h2) (mDc_of h4) (by omega) h
    | 5 =>
      exact so_lcmp_le F (hJ b (mJp_of h3)) (mJp_of h3) (hk rfl) (hac rfl) (mDc_of h2) (mDc_of h4) (by omega) h
    | _ + 6 =>
      omega
  | 22 =>
    simp only [mChk, Bool.and_eq_true] at hq
    exact so_goto F (hJ b (mJp_of hq.2)) (mJp_of hq.2) (mDc_of hq.1) (by omega) h
  | 23 =>
    match a with
    | 0 =>
      simp only [mChk, Bool.and_eq_true] at hq
      exact so_ifnull F (hJ b (mJp_of hq.2)) (mJp_of hq.2) (hk rfl) (hac rfl) (mDc_of hq.1) (by omega) h
    | 1 =>
      simp only [mChk, Bool.and_eq_true] at hq
      exact so_ifnonnull F (hJ b (mJp_of hq.2)) (mJp_of hq.2) (hk rfl) (hac rfl) (mDc_of hq.1) (by omega) h
    | _ + 2 =>
      exact absurd hq (by simp [mChk])
  | 24 =>
    cases hr : vwCl[a]? with
    | none => simp [mChk, hr] at hq
    | some r =>
      simp only [mChk, hr, Bool.and_eq_true, decide_eq_true_eq] at hq
      obtain ⟨⟨h1, h2⟩, h3⟩ := hq
      exact so_get F (hk rfl) (hac rfl) hr h1 (mDc_of h2) (mB_in h3) h
  | 25 =>
    cases hr : vwCl[a]? with
    | none => simp [mChk, hr] at hq
    | some r =>
      simp only [mChk, hr, Bool.and_eq_true, decide_eq_true_eq] at hq
      obtain ⟨⟨⟨⟨h1, h2⟩, h3⟩, h4⟩, h5⟩ := hq
      generalize hf : fk a b = q at h5
      match q with
      | 0 => exact so_putI F (hk rfl) (hac rfl) hf hr h1 h4 (of_decide_eq_true h5) (mDc_of h2) (mB_in h3) h
      | 1 => exact so_putL F (hk rfl) (hac rfl) hf hr h1 h4 (of_decide_eq_true h5) (mDc_of h2) (mB_in h3) h
      | 2 => exact absurd (show false = true from h5) (by decide)
      | 3 => exact so_putZ F (hk rfl) (hac rfl) hf hr h1 h4 (of_decide_eq_true h5) (mDc_of h2) (mB_in h3) h
      | _ + 4 => exact absurd h5 (by simp)
  | 26 =>
    rcases Nat.lt_or_ge a 20 with hlt | hge
    · exact absurd hq (by
        have : a = 0 ∨ a = 1 ∨ a = 2 ∨ a = 3 ∨ a = 4 ∨ a = 5 ∨ a = 6 ∨ a = 7 ∨ a = 8 ∨ a = 9 ∨ a = 10 ∨ a = 11 ∨ a = 12 ∨ a = 13 ∨ a = 14 ∨ a = 15 ∨ a = 16 ∨ a = 17 ∨ a = 18 ∨ a = 19 := by omega
        rcases this with rfl | rfl | rfl | rfl | rfl | rfl | rfl | rfl | rfl | rfl | rfl | rfl | rfl | rfl | rfl | rfl | rfl | rfl | rfl | rfl <;> simp [mChk])
    · obtain ⟨d, rfl⟩ : ∃ d, a = d + 20 := ⟨a - 20, by omega⟩
      match d with
      | 0 => exact so_ald20 F (hk rfl) (hac rfl) (mDc_of hq) h
      | 1 => exact so_ald21 F (hk rfl) (hac rfl) (mDc_of hq) h
      | 2 => exact so_ald22 F (hk rfl) (hac rfl) (mDc_of hq) h
      | 3 => exact so_ald23 F (hk rfl) (hac rfl) (mDc_of hq) h
      | 4 => exact so_ald24 F (hk rfl) (hac rfl) (mDc_of hq) h
      | 5 => exact so_ald25 F (hk rfl) (hac rfl) (mDc_of hq) h
      | _ + 6 => exact absurd hq (by simp [mChk])
  | 27 =>
    rcases Nat.lt_or_ge a 20 with hlt | hge
    · exact absurd hq (by
        have : a = 0 ∨ a = 1 ∨ a = 2 ∨ a = 3 ∨ a = 4 ∨ a = 5 ∨ a = 6 ∨ a = 7 ∨ a = 8 ∨ a = 9 ∨ a = 10 ∨ a = 11 ∨ a = 12 ∨ a = 13 ∨ a = 14 ∨ a = 15 ∨ a = 16 ∨ a = 17 ∨ a = 18 ∨ a = 19 := by omega
        rcases this with rfl | rfl | rfl | rfl | rfl | rfl | rfl | rfl | rfl | rfl | rfl | rfl | rfl | rfl | rfl | rfl | rfl | rfl | rfl | rfl <;> simp [mChk])
    · obtain ⟨d, rfl⟩ : ∃ d, a = d + 20 := ⟨a - 20, by omega⟩
      match d with
      | 0 => exact so_ast20 F (hk rfl) (hac rfl) (mDc_of hq) h
      | 1 => exact so_ast21 F (hk rfl) (hac rfl) (mDc_of hq) h
      | 2 => exact so_ast22 F (hk rfl) (hac rfl) (mDc_of hq) h
      | 3 => exact so_ast23 F (hk rfl) (hac rfl) (mDc_of hq) h
      | _ + 4 => exact absurd hq (by simp [mChk])
  | 28 =>
    exact so_len F (hk rfl) (hac rfl) (mDc_of hq) h
  | 29 =>
    exact so_dup F (hk rfl) (hac rfl) (mDc_of hq) h
  | 30 =>
    exact so_dup2 F (hk rfl) (hac rfl) (mDc_of hq) h
  | 31 =>
    exact so_pop F (hk rfl) (hac rfl) (mDc_of hq) h
  | 32 =>
    subst hR
    by_cases hx0 : x = 0
    · subst hx0
      simp only [mChk, if_true, Bool.and_eq_true, decide_eq_true_eq] at hq
      obtain ⟨⟨⟨⟨⟨⟨⟨h1, h2⟩, h3⟩, h4⟩, h5⟩, h6⟩, h7⟩, h8⟩ := hq
      simp only [mCk, Bool.and_eq_true, decide_eq_true_eq] at h6
      obtain ⟨⟨⟨⟨ck1, ck2⟩, ck3⟩, ck4⟩, ck5⟩ := h6
      have hcl : ∃ r : vw_C, vwCl[ts.getD 0 99]? = some r ∧ r.1 = (T a).1.cls := by
        cases hr : vwCl[ts.getD 0 99]? with
        | none => rw [hr] at h8; exact absurd (show false = true from h8) (by decide)
        | some r => rw [hr] at h8; exact ⟨r, rfl, of_decide_eq_true h8⟩
      have h9 : w_call fl S X a b (some (ts.getD 0 99)) k lv st I := h
      exact so_callV (np := b - 1) F (hk rfl) (hC a) (fun E lv I hx => hX E lv I ck5 hx) (mDc_of h1) (mB_in h2) (mB_in h3) (mB_in h4) hcl (mB_in h5) (mB_in ck2) ck1 (by omega) ck3 ck5 ck4 h9
    · by_cases hx1 : x = 1
      · subst hx1
        simp only [mChk, if_neg hx0, if_true, Bool.and_eq_true, decide_eq_true_eq] at hq
        obtain ⟨⟨⟨⟨h1, h2⟩, h3⟩, h4⟩, h6⟩ := hq
        simp only [mCk, Bool.and_eq_true, decide_eq_true_eq] at h6
        obtain ⟨⟨⟨⟨ck1, ck2⟩, ck3⟩, ck4⟩, ck5⟩ := h6
        have h9 : w_call fl S X a b none k lv st I := h
        exact so_callS (np := b) F (hk rfl) (hC a) (fun E lv I hx => hX E lv I ck5 hx) (mDc_of h1) (mB_in h2) (mB_in h3) (mB_in h4) (mB_in ck2) ck1 (by omega) ck3 ck5 ck4 h9
      · by_cases hx3 : x = 3
        · subst hx3
          simp only [mChk, if_neg hx0, if_neg hx1, if_true, Bool.and_eq_true, decide_eq_true_eq] at hq
          obtain ⟨⟨⟨⟨h1, h2⟩, h3⟩, h4⟩, h6⟩ := hq
          simp only [mCk, Bool.and_eq_true, decide_eq_true_eq] at h6
          obtain ⟨⟨⟨⟨ck1, ck2⟩, ck3⟩, ck4⟩, ck5⟩ := h6
          have h9 : w_call fl S X a b none k lv st I := h
          exact so_callSN (np := b) F (hk rfl) (hC a) (fun E lv I hx => hX E lv I ck5 hx) (mDc_of h1) (List.mem_of_getElem? h2) (mB_in h3) (mB_in h4) (mB_in ck2) ck1 (by omega) ck3 ck5 ck4 h9
        · simp only [mChk, if_neg hx0, if_neg hx1, if_neg hx3] at hq
          exact absurd hq (by decide)
  | 33 =>
    have hq := (Bool.and_eq_true _ _).mp hq
    have hq := And.intro (of_decide_eq_true hq.1) hq.2
    exact hret pc a lv st I h hq.1 hq.2
  | 34 =>
    simp only [mChk, Bool.and_eq_true] at hq
    obtain ⟨h1, h2⟩ := hq
    have h3 := List.all_eq_true.mp h2
    refine so_sw F (fun t ht => ?_) (mDc_of h1) h
    have h4 := mJp_of (h3 t (by rcases ht with rfl | ht; exact List.mem_cons_self; exact List.mem_cons_of_mem _ ht))
    exact ⟨hJ t h4, h4⟩
  | 35 =>
    exact hthr pc a b c0 x ts lv st I h hq
  | 36 =>
    match a with
    | 0 =>
      simp only [mChk, Bool.and_eq_true, decide_eq_true_eq] at hq
      exact so_gsX F (hk rfl) (hac rfl) (mDc_of hq.1) hq.2 h
    | 1 =>
      simp only [mChk, Bool.and_eq_true, decide_eq_true_eq] at hq
      exact so_gsY F (hk rfl) (hac rfl) (mDc_of hq.1) hq.2 h
    | _ + 2 =>
      simp [mChk] at hq
  | 37 =>
    simp only [mChk, Bool.and_eq_true, List.any_eq_true, decide_eq_true_eq] at hq
    obtain ⟨h1, ⟨o1, i1, t1, d1⟩, hm, e1, e2, e3⟩ := hq
    dsimp only at e1 e2 e3
    subst e1; subst e2; subst e3
    exact so_tx F (hk rfl) (hac rfl) (mDc_of h1) hm h
  | 38 =>
    subst hR
    simp only [mChk, Bool.and_eq_true, decide_eq_true_eq] at hq
    obtain ⟨⟨⟨⟨⟨⟨⟨h1, h2⟩, h3⟩, h4⟩, h5⟩, h6⟩, h7⟩, h8⟩ := hq
    exact so_txl F hT (hk rfl) (hac rfl) (mDc_of h1) (mB_in h2) (mB_in h3) (mB_in h4) (mB_in h5) (mB_in h6) h7 h8 h
  | 39 =>
    subst hR
    simp only [mChk, Bool.and_eq_true, decide_eq_true_eq] at hq
    obtain ⟨⟨⟨⟨⟨⟨⟨h1, h2⟩, h3⟩, h4⟩, h5⟩, h6⟩, h7⟩, h8⟩ := hq
    exact so_txc F hT (hk rfl) (hac rfl) (mDc_of h1) (mB_in h2) (mB_in h3) (mB_in h4) (mB_in h5) (mB_in h6) h7 h8 h
  | 40 =>
    subst hR
    match a with
    | 0 =>
      simp only [mChk, mMt, Bool.and_eq_true, decide_eq_true_eq] at hq
      obtain ⟨⟨⟨⟨⟨⟨h1, h2⟩, h3⟩, h4⟩, h5⟩, h6⟩, h7⟩ := hq
      exact so_mmax F (hk rfl) (hac rfl) (mDc_of h1) (mB_in h2) (mB_in h3) (mB_in h4) (mB_in h5) h6 h7 h
    | 1 =>
      simp only [mChk, mMt, Bool.and_eq_true, decide_eq_true_eq] at hq
      obtain ⟨⟨⟨⟨⟨⟨h1, h2⟩, h3⟩, h4⟩, h5⟩, h6⟩, h7⟩ := hq
      exact so_mmin F (hk rfl) (hac rfl) (mDc_of h1) (mB_in h2) (mB_in h3) (mB_in h4) (mB_in h5) h6 h7 h
    | 2 =>
      simp only [mChk, mMt, Bool.and_eq_true, decide_eq_true_eq] at hq
      obtain ⟨⟨⟨⟨⟨⟨h1, h2⟩, h3⟩, h4⟩, h5⟩, h6⟩, h7⟩ := hq
      exact so_mabs F (hk rfl) (hac rfl) (mDc_of h1) (mB_in h2) (mB_in h3) (mB_in h4) (mB_in h5) h6 h7 h
    | 3 =>
      simp only [mChk, mMt, Bool.and_eq_true, decide_eq_true_eq] at hq
      obtain ⟨⟨⟨⟨⟨⟨h1, h2⟩, h3⟩, h4⟩, h5⟩, h6⟩, h7⟩ := hq
      exact so_lmax F (hk rfl) (hac rfl) (mDc_of h1) (mB_in h2) (mB_in h3) (mB_in h4) (mB_in h5) h6 h7 h
    | _ + 4 =>
      exact absurd hq (by simp [mChk])
  | 41 =>
    subst hR
    simp only [mChk, Bool.and_eq_true, decide_eq_true_eq] at hq
    obtain ⟨⟨⟨⟨⟨h1, h2⟩, h3⟩, h4⟩, h5⟩, h6⟩ := hq
    exact so_cpy F (hk rfl) (hac rfl) (mDc_of h1) (mB_in h2) (mB_in h3) (mB_in h4) (mB_in h5) h6 h
  | 42 =>
    exact so_null F (hk rfl) (hac rfl) (mDc_of hq) h
  | 43 =>
    simp only [mChk, Bool.and_eq_true, decide_eq_true_eq] at hq
    obtain ⟨rfl, h2⟩ := hq
    exact hJ _ (mJp_of h2) lv st I h
  | _ + 44 => exact absurd h id
end SO
end MSOUND5
