section MSOUND
def mNG : List Cond := [.methodLinkNest "NineOnGrass" 11 ⟨"NineOnGrass$State", "<init>", "()V"⟩ "NineOnGrass", .methodLinkNest "NineOnGrass$State" 25 ⟨"NineOnGrass$Day", "<init>", "()V"⟩ "NineOnGrass", .methodLinkNest "NineOnGrass" 14 ⟨"NineOnGrass$Ball", "<init>", "()V"⟩ "NineOnGrass", .methodLinkNest "NineOnGrass" 61 ⟨"NineOnGrass$Reader", "<init>", "()V"⟩ "NineOnGrass", .methodLinkNest "NineOnGrass" 68 ⟨"NineOnGrass$Mix", "<init>", "()V"⟩ "NineOnGrass", .methodLinkNest "NineOnGrass$Umpire" 33 ⟨"NineOnGrass", "apart", "(II)I"⟩ "NineOnGrass", .fieldLinkNest "NineOnGrass$Ball" 69 "NineOnGrass" "STEP_X" "[I" "NineOnGrass", .fieldLinkNest "NineOnGrass$Ball" 72 "NineOnGrass" "STEP_Y" "[I" "NineOnGrass", .castable "java/lang/IllegalArgumentException" "java/lang/IllegalArgumentException", .declares ⟨"java/lang/RuntimeException", "<init>", "()V"⟩, .declares ⟨"java/lang/RuntimeException", "<init>", "(Ljava/lang/String;)V"⟩, .declares ⟨"java/lang/Exception", "<init>", "()V"⟩, .declares ⟨"java/lang/Exception", "<init>", "(Ljava/lang/String;)V"⟩, .declares ⟨"java/lang/Throwable", "<init>", "()V"⟩, .declares ⟨"java/lang/Throwable", "<init>", "(Ljava/lang/String;)V"⟩, .methodLinkNest "NineOnGrass$Ground" 58 ⟨"NineOnGrass", "copyRow", "([I[I)V"⟩ "NineOnGrass", .castable "java/util/NoSuchElementException" "java/util/NoSuchElementException", .castable "java/lang/IllegalStateException" "java/lang/IllegalStateException", .methodLinkNest "NineOnGrass$Finder" 63 ⟨"NineOnGrass", "copyRow", "([I[I)V"⟩ "NineOnGrass", .methodLinkNest "NineOnGrass$Ground" 69 ⟨"NineOnGrass", "apart", "(II)I"⟩ "NineOnGrass", .methodLinkNest "NineOnGrass$Finder" 163 ⟨"NineOnGrass", "apart", "(II)I"⟩ "NineOnGrass", .castable "java/lang/IndexOutOfBoundsException" "java/lang/IndexOutOfBoundsException", .methodLinkNest "NineOnGrass$Squad" 50 ⟨"NineOnGrass", "apart", "(II)I"⟩ "NineOnGrass", .methodLinkNest "NineOnGrass" 377 ⟨"NineOnGrass$Tray", "<init>", "()V"⟩ "NineOnGrass", .methodLinkNest "NineOnGrass$Squad" 36 ⟨"NineOnGrass", "copyRow", "([I[I)V"⟩ "NineOnGrass", .methodLinkNest "NineOnGrass$Day" 29 ⟨"NineOnGrass", "copyRow", "([I[I)V"⟩ "NineOnGrass", .castable "NineOnGrass" "java/lang/Object", .castable "NineOnGrass$State" "java/lang/Object", .castable "NineOnGrass$Ground" "java/lang/Object", .castable "NineOnGrass$Squad" "java/lang/Object", .castable "NineOnGrass$Day" "java/lang/Object", .castable "NineOnGrass$Ball" "java/lang/Object", .castable "NineOnGrass$Umpire" "java/lang/Object", .castable "NineOnGrass$Finder" "java/lang/Object", .castable "NineOnGrass$Reader" "java/lang/Object", .castable "NineOnGrass$Mix" "java/lang/Object", .castable "NineOnGrassModel" "java/lang/Object", .castable "java/lang/IllegalArgumentException" "java/lang/Object", .castable "java/util/NoSuchElementException" "java/lang/Object", .castable "java/lang/IllegalStateException" "java/lang/Object", .castable "java/lang/IndexOutOfBoundsException" "java/lang/Object", .castable "NineOnGrass$Tray" "java/lang/Object", .castable "java/lang/Throwable" "java/lang/Object", .castable "java/lang/String" "java/lang/Object"]
def mStr : List (String × Nat × String × Nat) := [("NineOnGrass", 99, "the tape has not so many bytes", 300), ("NineOnGrass$Reader", 77, "ball", 250), ("NineOnGrass$Reader", 83, "slow", 251), ("NineOnGrass$Reader", 85, "edge", 252), ("NineOnGrass$Reader", 87, "run", 253), ("NineOnGrass$Reader", 89, "worth", 254), ("NineOnGrass$Reader", 91, "side", 255), ("NineOnGrass$Reader", 93, "near", 256), ("NineOnGrass$Reader", 112, "at", 257), ("NineOnGrass$Reader", 120, "way", 258), ("NineOnGrass$Reader", 134, "pace", 259), ("NineOnGrass$Reader", 141, "air", 260), ("NineOnGrass$Reader", 142, "for", 261), ("NineOnGrass", 428, "no such BALL", 301), ("NineOnGrass", 431, "no such HIT", 302), ("NineOnGrass", 137, "no such what", 303), ("NineOnGrass", 166, "no such step", 304), ("NineOnGrass", 433, "no such FIELDER", 305), ("NineOnGrass", 435, "a number is out of its bounds", 306), ("NineOnGrass", 437, "the FIELDER isn't there", 307), ("NineOnGrass", 439, "no such WAY TO STAND", 308), ("NineOnGrass", 441, "the WAY TO STAND isn't kept", 309), ("NineOnGrass", 445, "no such TRAY", 310), ("NineOnGrass", 316, "the TRAY is MISSING", 311), ("NineOnGrass", 323, "a number is no CELL", 312), ("NineOnGrass", 330, "the TRAY has fewer", 313), ("NineOnGrass", 381, "no such place", 314), ("NineOnGrass", 391, "these are no STANDS", 315), ("NineOnGrass", 443, "no such IMAGE", 316), ("NineOnGrass", 400, "no such IMAGE was made", 317), ("NineOnGrassModel", 162, "edge", 252), ("NineOnGrassModel", 164, "run", 253), ("NineOnGrassModel", 166, "worth", 254), ("NineOnGrassModel", 168, "side", 255), ("NineOnGrassModel", 170, "near", 256), ("NineOnGrassModel", 143, "slow", 251), ("NineOnGrassModel", 157, "ball", 250), ("NineOnGrassModel", 148, "at", 257), ("NineOnGrassModel", 149, "way", 258), ("NineOnGrassModel", 151, "pace", 259), ("NineOnGrassModel", 153, "air", 260), ("NineOnGrassModel", 155, "for", 261)]
theorem mNG_warm {s U : State} (hW : s.WarmedH U.vm) (h : ∀ w ∈ mNG, va_Nw w s) : ∀ w ∈ mNG, va_Nw w U := by
  have key : ∀ w ∈ mNG, va_Nw w s → va_Nw w U := List.forall_mem_cons.mpr ⟨fun h => va_Nw.warmM hW h, List.forall_mem_cons.mpr ⟨fun h => va_Nw.warmM hW h, List.forall_mem_cons.mpr ⟨fun h => va_Nw.warmM hW h, List.forall_mem_cons.mpr ⟨fun h => va_Nw.warmM hW h, List.forall_mem_cons.mpr ⟨fun h => va_Nw.warmM hW h, List.forall_mem_cons.mpr ⟨fun h => va_Nw.warmM hW h, List.forall_mem_cons.mpr ⟨fun h => va_Nw.warmF hW h, List.forall_mem_cons.mpr ⟨fun h => va_Nw.warmF hW h, List.forall_mem_cons.mpr ⟨fun h => va_Nw.warmC hW h, List.forall_mem_cons.mpr ⟨fun h => va_Nw.warmD hW h, List.forall_mem_cons.mpr ⟨fun h => va_Nw.warmD hW h, List.forall_mem_cons.mpr ⟨fun h => va_Nw.warmD hW h, List.forall_mem_cons.mpr ⟨fun h => va_Nw.warmD hW h, List.forall_mem_cons.mpr ⟨fun h => va_Nw.warmD hW h, List.forall_mem_cons.mpr ⟨fun h => va_Nw.warmD hW h, List.forall_mem_cons.mpr ⟨fun h => va_Nw.warmM hW h, List.forall_mem_cons.mpr ⟨fun h => va_Nw.warmC hW h, List.forall_mem_cons.mpr ⟨fun h => va_Nw.warmC hW h, List.forall_mem_cons.mpr ⟨fun h => va_Nw.warmM hW h, List.forall_mem_cons.mpr ⟨fun h => va_Nw.warmM hW h, List.forall_mem_cons.mpr ⟨fun h => va_Nw.warmM hW h, List.forall_mem_cons.mpr ⟨fun h => va_Nw.warmC hW h, List.forall_mem_cons.mpr ⟨fun h => va_Nw.warmM hW h, List.forall_mem_cons.mpr ⟨fun h => va_Nw.warmM hW h, List.forall_mem_cons.mpr ⟨fun h => va_Nw.warmM hW h, List.forall_mem_cons.mpr ⟨fun h => va_Nw.warmM hW h, List.forall_mem_cons.mpr ⟨fun h => va_Nw.warmC hW h, List.forall_mem_cons.mpr ⟨fun h => va_Nw.warmC hW h, List.forall_mem_cons.mpr ⟨fun h => va_Nw.warmC hW h, List.forall_mem_cons.mpr ⟨fun h => va_Nw.warmC hW h, List.forall_mem_cons.mpr ⟨fun h => va_Nw.warmC hW h, List.forall_mem_cons.mpr ⟨fun h => va_Nw.warmC hW h, List.forall_mem_cons.mpr ⟨fun h => va_Nw.warmC hW h, List.forall_mem_cons.mpr ⟨fun h => va_Nw.warmC hW h, List.forall_mem_cons.mpr ⟨fun h => va_Nw.warmC hW h, List.forall_mem_cons.mpr ⟨fun h => va_Nw.warmC hW h, List.forall_mem_cons.mpr ⟨fun h => va_Nw.warmC hW h, List.forall_mem_cons.mpr ⟨fun h => va_Nw.warmC hW h, List.forall_mem_cons.mpr ⟨fun h => va_Nw.warmC hW h, List.forall_mem_cons.mpr ⟨fun h => va_Nw.warmC hW h, List.forall_mem_cons.mpr ⟨fun h => va_Nw.warmC hW h, List.forall_mem_cons.mpr ⟨fun h => va_Nw.warmC hW h, List.forall_mem_cons.mpr ⟨fun h => va_Nw.warmC hW h, List.forall_mem_cons.mpr ⟨fun h => va_Nw.warmC hW h, fun _ h => absurd h List.not_mem_nil⟩⟩⟩⟩⟩⟩⟩⟩⟩⟩⟩⟩⟩⟩⟩⟩⟩⟩⟩⟩⟩⟩⟩⟩⟩⟩⟩⟩⟩⟩⟩⟩⟩⟩⟩⟩⟩⟩⟩⟩⟩⟩⟩⟩
  exact fun w hw => key w hw (h w hw)
def mTxL : List Nat := mTx.map List.length
def mTxB : List (List Int32) := mTx.map (fun t => t.map Int32.ofInt)
def stx (j : Nat) : Int := ([0, 1, 1, 2, 1, 2, 1, 1, 0, -1, -1, -2, -1, -2, -1, -1] : List Int).getD j 0
def sty (j : Nat) : Int := ([-1, -2, -1, -1, 0, 1, 1, 2, 1, 2, 1, 1, 0, -1, -1, -2] : List Int).getD j 0
/-- what else is known of the machine: words, rows that are only read, texts -/
def mEnv (ρ : Nat → Nat) (fl : Nat → Bool) (U : State) (H : Heap) : Prop :=
  (∀ w ∈ mNG, va_Nw w U) ∧
  (va_Z "NineOnGrass" "STEP_X" "[I" (.ref (ρ 240)) (mA ρ fl) U H ∧ va_T .int (ρ 240) 16 (fun j => .int (Int32.ofInt (stx j))) (mA ρ fl) U H ∧ va_Z "NineOnGrass" "STEP_Y" "[I" (.ref (ρ 241)) (mA ρ fl) U H ∧ va_T .int (ρ 241) 16 (fun j => .int (Int32.ofInt (sty j))) (mA ρ fl) U H) ∧
  (vx_Zq Bundle.tN "UNASSIGNED_STACK" Bundle.steD (mA ρ fl) U H ∧ vx_Zq Bundle.tN "SUPPRESSED_SENTINEL" Bundle.listD (mA ρ fl) U H) ∧
  (∀ q ∈ mStr, vk_R q.1 q.2.1 q.2.2.1 (ρ q.2.2.2) U) ∧
  vk_S 12 mTxL mTxB (fun i => ρ (250 + i)) (fun i => ρ (270 + i)) (mA ρ fl) U H ∧
  (va_Z "java/lang/String" "COMPACT_STRINGS" "Z" (.int 1) (mA ρ fl) U H ∧ va_Zq "jdk/internal/util/Preconditions" "SIOOBE_FORMATTER" "Ljava/util/function/BiFunction;" (mA ρ fl) U H)
theorem mEnv.to {ρ : Nat → Nat} {fl : Nat → Bool} {s U : State} {H0 H : Heap} (h : mEnv ρ fl s H0) (hW : s.WarmedH U.vm) (hq : ∀ a : Nat, a < H0.size → ¬ mA ρ fl a → H[a]? = H0[a]?) : mEnv ρ fl U H := by
  obtain ⟨h1, ⟨h2, h3, h4, h5⟩, ⟨h6, h7⟩, h8, h9, h10, h11⟩ := h
  have hv := hW.alike
  exact ⟨mNG_warm hW h1, ⟨(h2.kept hq).moved hv, (h3.kept hq).moved hv, (h4.kept hq).moved hv, (h5.kept hq).moved hv⟩, ⟨(h6.kept hq).moved hv, (h7.kept hq).moved hv⟩, fun q hm => (h8 q hm).warm hW, (h9.kept hq).moved hv, (h10.kept hq).moved hv, (h11.kept hq).moved hv⟩
def mBW : List Cond := lw_tbl.filter goodWord
theorem mBW_of {w : Cond} (i : Nat) (h : (decide (lw_tbl[i]? = some w) && goodWord w) = true) : w ∈ mBW := by
  simp only [Bool.and_eq_true, decide_eq_true_eq] at h
  exact List.mem_filter.mpr ⟨List.mem_of_getElem? h.1, h.2⟩
theorem mBW_good {w : Cond} (h : w ∈ mBW) : (w.onTables && w.keeps) = true ∨ ∃ ty, w = .arrayClass ty := good_of_word (List.mem_filter.mp h).2
def mB (i : Nat) (w : Cond) : Bool := decide (lw_tbl[i]? = some w) && goodWord w
theorem mB_in {i : Nat} {w : Cond} (h : mB i w = true) : w ∈ mBW := mBW_of i h
def mDc (cc : ByteArray) (pc : Nat) (i : Instr) (n : Nat) : Bool := decide (decode cc pc = .ok (i, n))
theorem mDc_of {cc : ByteArray} {pc n : Nat} {i : Instr} (h : mDc cc pc i n = true) : decode cc pc = .ok (i, n) := of_decide_eq_true h
/-- a row that is only read -/
def mRoAt (a n : Nat) (f : Int → Int) (A : Nat → Prop) (U : State) (H : Heap) : Prop := ∃ cell : Cell, H[a]? = some cell ∧ U.isArrayOf cell .int ∧ cell.vm ≠ .unknown ∧ n ≤ cell.slots.size ∧ cell.slots.size.toInt32 = Int32.ofNat n ∧ (∀ j : Nat, j < n → cell.slots[j]? = some (.int (Int32.ofInt (f j)))) ∧ ¬ A a ∧ n < 2147483648
/-- a callee: name, code, locals, answer's type, room (frames, locals, cells, slots) -/
abbrev mCal : Type := MethodName × ByteArray × Nat × Option FieldType × (Nat × Nat × Nat × Nat)
def mRm (q : Nat × Nat × Nat × Nat) : Room := { frames := q.1, cells := q.2.2.1, slots := q.2.2.2, locals := q.2.1 }
def mPc (D : va_G) (cA : Nat → ClassId) (ρ : Nat → Nat) (fl : Nat → Bool) (avs : List mV) (I : mM) : Array Value → State → Prop := fun v U =>
  v = (avs.map (mc ρ)).toArray ∧ va_K D vwCl (mTys cA) U ∧ va_P D vwCl (mWs cA ρ fl I) U.heap ∧ va_D (mA ρ fl) (mWs cA ρ fl I) ∧ mEnv ρ fl U U.heap
def mQc (D : va_G) (cA : Nat → ClassId) (ρ : Nat → Nat) (fl : Nat → Bool) (Q : mO → mM → Prop) : Array Value → State → Outcome → State → Prop := fun _ st oc t =>
  (∃ (ov : Option mV) (I' : mM), oc = .returned (ov.map (mc ρ)) ∧ Q (.inl ov) I' ∧ va_P D vwCl (mWs cA ρ fl I') t.heap) ∧ va_F (mA ρ fl) st t
def mXc (D : va_G) (cA : Nat → ClassId) (ρ : Nat → Nat) (fl : Nat → Bool) (Q : mO → mM → Prop) : String → State → State → Prop := fun E st t =>
  ∃ I' : mM, Q (.inr E) I' ∧ va_P D vwCl (mWs cA ρ fl I') t.heap ∧ va_F (mA ρ fl) st t
def mWd (t : mCal) : List Cond := Cond.code t.1 t.2.1 t.2.2.1 t.2.2.2.1 :: mBW
/-- a method's contract: whatever 'sp' says of the call holds -/
def mCtr (l : Launch) (t : mCal) (sp : mSp) : Prop := ∀ (D : va_G) (cA : Nat → ClassId) (ρ : Nat → Nat) (fl : Nat → Bool) (avs : List mV) (I : mM) (Q : mO → mM → Prop), sp fl avs I Q →
  vx_Met l t.1 (mWd t) (mRm t.2.2.2.2) (mPc D cA ρ fl avs I) (mQc D cA ρ fl Q) (mXc D cA ρ fl Q) t.2.2.2.2.2.2.1 t.2.2.2.2.2.2.2 (mA ρ fl)
theorem mPc_blind {D : va_G} {cA : Nat → ClassId} {ρ : Nat → Nat} {fl : Nat → Bool} {avs : List mV} {I : mM} : FrameBlind (mPc D cA ρ fl avs I) := fun a U g mk h =>
  ⟨h.1, va_K.moved (u := U) (U := U.calling g mk a) (Vm.Alike.refl U.vm) h.2.1, h.2.2.1, h.2.2.2.1, h.2.2.2.2.to (U := U.calling g mk a) (State.WarmedH.refl U) (fun _ _ _ => rfl)⟩
def mAW (p : Program) (l : Launch) (e : Env) (R : Room) (s : State) (m : MethodId) (args : Array Value) (below : List Frame) (meth : Method) (c : Code) (Qs : State → Prop) (nL : Nat) (D : va_G) (cA : Nat → ClassId) (ρ : Nat → Nat) (fl : Nat → Bool) (acc acs : Nat → Nat) (pc : Nat) (lv : mLv) (st : mSt) (I : mM) : Prop :=
  ∀ (H : Heap) (locs : List Loc) (ls : Array Slot) (cells slots : Nat), cells ≤ acc pc → slots ≤ acs pc → va_P D vwCl (mWs cA ρ fl I) H → va_D (mA ρ fl) (mWs cA ρ fl I) → va_S (mA ρ fl) s.heap H locs → mLoc ρ ls nL lv →
    W p l e R s m args below meth c H locs cells slots Qs (F0 m pc ls (st.map (mc ρ)))
/-- what holds throughout a method -/
def mFx (p : Program) (s : State) (m : MethodId) (args : Array Value) (c : Code) (cc : ByteArray) (nL : Nat) (own : String) (D : va_G) (cA : Nat → ClassId) (ρ : Nat → Nat) (fl : Nat → Bool) (ro : mRo) : Prop :=
  p.tables.exec = Jvm.exec ∧ c.code = cc ∧ c.maxLocals = nL ∧ s.vm.findClass own = some m.cls ∧ (∀ w ∈ mBW, w.before args s = true) ∧ va_K D vwCl (mTys cA) s ∧ mEnv ρ fl s s.heap ∧ (∀ i n f, ro i = some (n, f) → mRoAt (ρ i) n f (mA ρ fl) s s.heap)
theorem sn_lt (i : Nat) : sn i < 2147483648 := by
  rcases Nat.lt_or_ge i 240 with q | q
  · have h : ∀ i, i < 240 → sn i < 2147483648 := by decide +kernel
    exact h i q
  · have hl : mTN.length = 240 := by decide +kernel
    have e : sn i = 0 := by
      unfold sn
      rw [List.getD_eq_getElem?_getD, List.getElem?_eq_none (by omega)]; rfl
    omega
section SO
variable {p : Program} {l : Launch} {e : Env} {R : Room} {s : State} {m : MethodId} {args : Array Value} {below : List Frame} {meth : Method} {c : Code} {Qs : State → Prop} {nL : Nat} {D : va_G} {cA : Nat → ClassId} {ρ : Nat → Nat} {fl : Nat → Bool} {acc acs : Nat → Nat} {cc : ByteArray} {own : String} {ro : mRo} {pc : Nat} {lv : mLv} {st : mSt} {I : mM} {k : mK}
theorem so_ic0 {x : Int} (F : mFx p s m args c cc nL own D cA ρ fl ro) (hk : ∀ lv st I, k lv st I → mAW p l e R s m args below meth c Qs nL D cA ρ fl acc acs (pc + 1) lv st I) (ha : acc pc ≤ acc (pc + 1) ∧ acs pc ≤ acs (pc + 1)) (hd : decode cc pc = .ok (.iconst x, 1)) (h : w_ic x k lv st I) : mAW p l e R s m args below meth c Qs nL D cA ρ fl acc acs (pc) lv st I := by
  obtain ⟨hx, hb, hml, hown, hts, hK, hE, hro⟩ := F
  intro H locs ls cells slots hc1 hs1 hP hD hS hl
  exact lv_iconst hx hb hd rfl (hk _ _ _ h H locs ls cells slots (Nat.le_trans hc1 ha.1) (Nat.le_trans hs1 ha.2) hP hD hS hl)
theorem so_ic1 {x : Int} (F : mFx p s m args c cc nL own D cA ρ fl ro) (hk : ∀ lv st I, k lv st I → mAW p l e R s m args below meth c Qs nL D cA ρ fl acc acs (pc + 2) lv st I) (ha : acc pc ≤ acc (pc + 2) ∧ acs pc ≤ acs (pc + 2)) (hd : decode cc pc = .ok (.bipush x, 2)) (hv : (Int8.ofInt x).toInt32 = Int32.ofInt x) (h : w_ic x k lv st I) : mAW p l e R s m args below meth c Qs nL D cA ρ fl acc acs (pc) lv st I := by
  obtain ⟨hx, hb, hml, hown, hts, hK, hE, hro⟩ := F
  intro H locs ls cells slots hc1 hs1 hP hD hS hl
  exact lv_bipush hx hb hd hv (hk _ _ _ h H locs ls cells slots (Nat.le_trans hc1 ha.1) (Nat.le_trans hs1 ha.2) hP hD hS hl)
theorem so_ic2 {x : Int} (F : mFx p s m args c cc nL own D cA ρ fl ro) (hk : ∀ lv st I, k lv st I → mAW p l e R s m args below meth c Qs nL D cA ρ fl acc acs (pc + 3) lv st I) (ha : acc pc ≤ acc (pc + 3) ∧ acs pc ≤ acs (pc + 3)) (hd : decode cc pc = .ok (.sipush x, 3)) (hv : (Int16.ofInt x).toInt32 = Int32.ofInt x) (h : w_ic x k lv st I) : mAW p l e R s m args below meth c Qs nL D cA ρ fl acc acs (pc) lv st I := by
  obtain ⟨hx, hb, hml, hown, hts, hK, hE, hro⟩ := F
  intro H locs ls cells slots hc1 hs1 hP hD hS hl
  exact lv_sipush hx hb hd hv (hk _ _ _ h H locs ls cells slots (Nat.le_trans hc1 ha.1) (Nat.le_trans hs1 ha.2) hP hD hS hl)
theorem so_ic3 {x : Int} {b : Nat} (F : mFx p s m args c cc nL own D cA ρ fl ro) (hk : ∀ lv st I, k lv st I → mAW p l e R s m args below meth c Qs nL D cA ρ fl acc acs (pc + 2) lv st I) (ha : acc pc ≤ acc (pc + 2) ∧ acs pc ≤ acs (pc + 2)) (hd : decode cc pc = .ok (.ldc b, 2)) (hw : Cond.constant own b (Int32.ofInt x) ∈ mBW) (h : w_ic x k lv st I) : mAW p l e R s m args below meth c Qs nL D cA ρ fl acc acs (pc) lv st I := by
  obtain ⟨hx, hb, hml, hown, hts, hK, hE, hro⟩ := F
  intro H locs ls cells slots hc1 hs1 hP hD hS hl
  exact lv_ldc hx hb hown (hts _ hw) hd (hk _ _ _ h H locs ls cells slots (Nat.le_trans hc1 ha.1) (Nat.le_trans hs1 ha.2) hP hD hS hl)
theorem so_ic4 {x : Int} {b : Nat} (F : mFx p s m args c cc nL own D cA ρ fl ro) (hk : ∀ lv st I, k lv st I → mAW p l e R s m args below meth c Qs nL D cA ρ fl acc acs (pc + 3) lv st I) (ha : acc pc ≤ acc (pc + 3) ∧ acs pc ≤ acs (pc + 3)) (hd : decode cc pc = .ok (.ldc_w b, 3)) (hw : Cond.constant own b (Int32.ofInt x) ∈ mBW) (h : w_ic x k lv st I) : mAW p l e R s m args below meth c Qs nL D cA ρ fl acc acs (pc) lv st I := by
  obtain ⟨hx, hb, hml, hown, hts, hK, hE, hro⟩ := F
  intro H locs ls cells slots hc1 hs1 hP hD hS hl
  exact lv_ldcw hx hb hown (hts _ hw) hd (hk _ _ _ h H locs ls cells slots (Nat.le_trans hc1 ha.1) (Nat.le_trans hs1 ha.2) hP hD hS hl)
theorem so_lc0 {x : Int} {b : Fin 2} (F : mFx p s m args c cc nL own D cA ρ fl ro) (hk : ∀ lv st I, k lv st I → mAW p l e R s m args below meth c Qs nL D cA ρ fl acc acs (pc + 1) lv st I) (ha : acc pc ≤ acc (pc + 1) ∧ acs pc ≤ acs (pc + 1)) (hd : decode cc pc = .ok (.lconst b, 1)) (hv : Int64.ofNat (b : Nat) = Int64.ofInt x) (h : w_lc x k lv st I) : mAW p l e R s m args below meth c Qs nL D cA ρ fl acc acs (pc) lv st I := by
  obtain ⟨hx, hb, hml, hown, hts, hK, hE, hro⟩ := F
  intro H locs ls cells slots hc1 hs1 hP hD hS hl
  exact lv_lconst hx hb hd hv (hk _ _ _ h H locs ls cells slots (Nat.le_trans hc1 ha.1) (Nat.le_trans hs1 ha.2) hP hD hS hl)
theorem so_lc1 {x : Int} {b : Nat} (F : mFx p s m args c cc nL own D cA ρ fl ro) (hk : ∀ lv st I, k lv st I → mAW p l e R s m args below meth c Qs nL D cA ρ fl acc acs (pc + 3) lv st I) (ha : acc pc ≤ acc (pc + 3) ∧ acs pc ≤ acs (pc + 3)) (hd : decode cc pc = .ok (.ldc2_w b, 3)) (hw : Cond.constantLong own b (Int64.ofInt x) ∈ mBW) (h : w_lc x k lv st I) : mAW p l e R s m args below meth c Qs nL D cA ρ fl acc acs (pc) lv st I := by
  obtain ⟨hx, hb, hml, hown, hts, hK, hE, hro⟩ := F
  intro H locs ls cells slots hc1 hs1 hP hD hS hl
  exact lv_ldc2 hx hb hown (hts _ hw) hd (hk _ _ _ h H locs ls cells slots (Nat.le_trans hc1 ha.1) (Nat.le_trans hs1 ha.2) hP hD hS hl)
theorem so_null  (F : mFx p s m args c cc nL own D cA ρ fl ro) (hk : ∀ lv st I, k lv st I → mAW p l e R s m args below meth c Qs nL D cA ρ fl acc acs (pc + 1) lv st I) (ha : acc pc ≤ acc (pc + 1) ∧ acs pc ≤ acs (pc + 1)) (hd : decode cc pc = .ok (.aconst_null, 1)) (h : (fun lv st I => k lv (mR none :: st) I) lv st I) : mAW p l e R s m args below meth c Qs nL D cA ρ fl acc acs (pc) lv st I := by
  obtain ⟨hx, hb, hml, hown, hts, hK, hE, hro⟩ := F
  intro H locs ls cells slots hc1 hs1 hP hD hS hl
  exact lv_null hx hb hd (hk _ _ _ h H locs ls cells slots (Nat.le_trans hc1 ha.1) (Nat.le_trans hs1 ha.2) hP hD hS hl)
theorem so_ld_in {a : Nat} {b : Fin 4} (F : mFx p s m args c cc nL own D cA ρ fl ro) (hk : ∀ lv st I, k lv st I → mAW p l e R s m args below meth c Qs nL D cA ρ fl acc acs (pc + 1) lv st I) (ha : acc pc ≤ acc (pc + 1) ∧ acs pc ≤ acs (pc + 1)) (hd : decode cc pc = .ok (.iload_n b, 1)) (hi : (b : Nat) = a) (h : w_ld a 0 k lv st I) : mAW p l e R s m args below meth c Qs nL D cA ρ fl acc acs (pc) lv st I := by
  obtain ⟨hx, hb, hml, hown, hts, hK, hE, hro⟩ := F
  intro H locs ls cells slots hc1 hs1 hP hD hS hl
  unfold w_ld at h
  cases hv : lv.getD a none with
  | none => rw [hv] at h; exact absurd h id
  | some v =>
    rw [hv] at h
    obtain ⟨h1, h2⟩ := h
    have hat := hl.2.2.2 a v (getD_some hv)
    rcases v with x | x | r <;> first | (cases h1; done) | skip
    exact lv_iload_n hx hb hd hi hat (hk _ _ _ h2 H locs ls cells slots (Nat.le_trans hc1 ha.1) (Nat.le_trans hs1 ha.2) hP hD hS hl)
theorem so_ld_iw {a : Nat} (F : mFx p s m args c cc nL own D cA ρ fl ro) (hk : ∀ lv st I, k lv st I → mAW p l e R s m args below meth c Qs nL D cA ρ fl acc acs (pc + 2) lv st I) (ha : acc pc ≤ acc (pc + 2) ∧ acs pc ≤ acs (pc + 2)) (hd : decode cc pc = .ok (.iload a, 2)) (h : w_ld a 0 k lv st I) : mAW p l e R s m args below meth c Qs nL D cA ρ fl acc acs (pc) lv st I := by
  obtain ⟨hx, hb, hml, hown, hts, hK, hE, hro⟩ := F
  intro H locs ls cells slots hc1 hs1 hP hD hS hl
  unfold w_ld at h
  cases hv : lv.getD a none with
  | none => rw [hv] at h; exact absurd h id
  | some v =>
    rw [hv] at h
    obtain ⟨h1, h2⟩ := h
    have hat := hl.2.2.2 a v (getD_some hv)
    rcases v with x | x | r <;> first | (cases h1; done) | skip
    exact lv_iload hx hb hd hat (hk _ _ _ h2 H locs ls cells slots (Nat.le_trans hc1 ha.1) (Nat.le_trans hs1 ha.2) hP hD hS hl)
theorem so_ld_ln {a : Nat} {b : Fin 4} (F : mFx p s m args c cc nL own D cA ρ fl ro) (hk : ∀ lv st I, k lv st I → mAW p l e R s m args below meth c Qs nL D cA ρ fl acc acs (pc + 1) lv st I) (ha : acc pc ≤ acc (pc + 1) ∧ acs pc ≤ acs (pc + 1)) (hd : decode cc pc = .ok (.lload_n b, 1)) (hi : (b : Nat) = a) (h : w_ld a 1 k lv st I) : mAW p l e R s m args below meth c Qs nL D cA ρ fl acc acs (pc) lv st I := by
  obtain ⟨hx, hb, hml, hown, hts, hK, hE, hro⟩ := F
  intro H locs ls cells slots hc1 hs1 hP hD hS hl
  unfold w_ld at h
  cases hv : lv.getD a none with
  | none => rw [hv] at h; exact absurd h id
  | some v =>
    rw [hv] at h
    obtain ⟨h1, h2⟩ := h
    have hat := hl.2.2.2 a v (getD_some hv)
    rcases v with x | x | r <;> first | (cases h1; done) | skip
    exact lv_lload_n hx hb hd hi hat (hk _ _ _ h2 H locs ls cells slots (Nat.le_trans hc1 ha.1) (Nat.le_trans hs1 ha.2) hP hD hS hl)
theorem so_ld_lw {a : Nat} (F : mFx p s m args c cc nL own D cA ρ fl ro) (hk : ∀ lv st I, k lv st I → mAW p l e R s m args below meth c Qs nL D cA ρ fl acc acs (pc + 2) lv st I) (ha : acc pc ≤ acc (pc + 2) ∧ acs pc ≤ acs (pc + 2)) (hd : decode cc pc = .ok (.lload a, 2)) (h : w_ld a 1 k lv st I) : mAW p l e R s m args below meth c Qs nL D cA ρ fl acc acs (pc) lv st I := by
  obtain ⟨hx, hb, hml, hown, hts, hK, hE, hro⟩ := F
  intro H locs ls cells slots hc1 hs1 hP hD hS hl
  unfold w_ld at h
  cases hv : lv.getD a none with
  | none => rw [hv] at h; exact absurd h id
  | some v =>
    rw [hv] at h
    obtain ⟨h1, h2⟩ := h
    have hat := hl.2.2.2 a v (getD_some hv)
    rcases v with x | x | r <;> first | (cases h1; done) | skip
    exact lv_lload hx hb hd hat (hk _ _ _ h2 H locs ls cells slots (Nat.le_trans hc1 ha.1) (Nat.le_trans hs1 ha.2) hP hD hS hl)
theorem so_ld_an {a : Nat} {b : Fin 4} (F : mFx p s m args c cc nL own D cA ρ fl ro) (hk : ∀ lv st I, k lv st I → mAW p l e R s m args below meth c Qs nL D cA ρ fl acc acs (pc + 1) lv st I) (ha : acc pc ≤ acc (pc + 1) ∧ acs pc ≤ acs (pc + 1)) (hd : decode cc pc = .ok (.aload_n b, 1)) (hi : (b : Nat) = a) (h : w_ld a 2 k lv st I) : mAW p l e R s m args below meth c Qs nL D cA ρ fl acc acs (pc) lv st I := by
  obtain ⟨hx, hb, hml, hown, hts, hK, hE, hro⟩ := F
  intro H locs ls cells slots hc1 hs1 hP hD hS hl
  unfold w_ld at h
  cases hv : lv.getD a none with
  | none => rw [hv] at h; exact absurd h id
  | some v =>
    rw [hv] at h
    obtain ⟨h1, h2⟩ := h
    have hat := hl.2.2.2 a v (getD_some hv)
    rcases v with x | x | _ | i <;> first | (cases h1; done) | skip
    · exact lv_aload_nN hx hb hd hi hat (hk _ _ _ h2 H locs ls cells slots (Nat.le_trans hc1 ha.1) (Nat.le_trans hs1 ha.2) hP hD hS hl)
    · exact lv_aload_n hx hb hd hi hat (hk _ _ _ h2 H locs ls cells slots (Nat.le_trans hc1 ha.1) (Nat.le_trans hs1 ha.2) hP hD hS hl)
theorem so_ld_aw {a : Nat} (F : mFx p s m args c cc nL own D cA ρ fl ro) (hk : ∀ lv st I, k lv st I → mAW p l e R s m args below meth c Qs nL D cA ρ fl acc acs (pc + 2) lv st I) (ha : acc pc ≤ acc (pc + 2) ∧ acs pc ≤ acs (pc + 2)) (hd : decode cc pc = .ok (.aload a, 2)) (h : w_ld a 2 k lv st I) : mAW p l e R s m args below meth c Qs nL D cA ρ fl acc acs (pc) lv st I := by
  obtain ⟨hx, hb, hml, hown, hts, hK, hE, hro⟩ := F
  intro H locs ls cells slots hc1 hs1 hP hD hS hl
  unfold w_ld at h
  cases hv : lv.getD a none with
  | none => rw [hv] at h; exact absurd h id
  | some v =>
    rw [hv] at h
    obtain ⟨h1, h2⟩ := h
    have hat := hl.2.2.2 a v (getD_some hv)
    rcases v with x | x | _ | i <;> first | (cases h1; done) | skip
    · exact lv_aloadN hx hb hd hat (hk _ _ _ h2 H locs ls cells slots (Nat.le_trans hc1 ha.1) (Nat.le_trans hs1 ha.2) hP hD hS hl)
    · exact lv_aload hx hb hd hat (hk _ _ _ h2 H locs ls cells slots (Nat.le_trans hc1 ha.1) (Nat.le_trans hs1 ha.2) hP hD hS hl)
theorem so_st_in {a : Nat} {b : Fin 4} (F : mFx p s m args c cc nL own D cA ρ fl ro) (hk : ∀ lv st I, k lv st I → mAW p l e R s m args below meth c Qs nL D cA ρ fl acc acs (pc + 1) lv st I) (ha : acc pc ≤ acc (pc + 1) ∧ acs pc ≤ acs (pc + 1)) (hd : decode cc pc = .ok (.istore_n b, 1)) (hi : (b : Nat) = a) (h : w_st a 0 k lv st I) : mAW p l e R s m args below meth c Qs nL D cA ρ fl acc acs (pc) lv st I := by
  obtain ⟨hx, hb, hml, hown, hts, hK, hE, hro⟩ := F
  intro H locs ls cells slots hc1 hs1 hP hD hS hl
  rcases st with _ | ⟨v, st⟩
  · exact absurd h id
  obtain ⟨h1, h2, h3⟩ := h
  rw [hl.1] at h2
  rcases v with x | x | r <;> first | (cases h1; done) | skip
  exact lv_istore_n hx hb hd hi hl.has h2 rfl (fun ls1 hl1 => hk _ _ _ h3 H locs ls1 cells slots (Nat.le_trans hc1 ha.1) (Nat.le_trans hs1 ha.2) hP hD hS (hl.put h2 (by intro z; cases z) hl1))
theorem so_st_iw {a : Nat} (F : mFx p s m args c cc nL own D cA ρ fl ro) (hk : ∀ lv st I, k lv st I → mAW p l e R s m args below meth c Qs nL D cA ρ fl acc acs (pc + 2) lv st I) (ha : acc pc ≤ acc (pc + 2) ∧ acs pc ≤ acs (pc + 2)) (hd : decode cc pc = .ok (.istore a, 2)) (h : w_st a 0 k lv st I) : mAW p l e R s m args below meth c Qs nL D cA ρ fl acc acs (pc) lv st I := by
  obtain ⟨hx, hb, hml, hown, hts, hK, hE, hro⟩ := F
  intro H locs ls cells slots hc1 hs1 hP hD hS hl
  rcases st with _ | ⟨v, st⟩
  · exact absurd h id
  obtain ⟨h1, h2, h3⟩ := h
  rw [hl.1] at h2
  rcases v with x | x | r <;> first | (cases h1; done) | skip
  exact lv_istore hx hb hd hl.has h2 rfl (fun ls1 hl1 => hk _ _ _ h3 H locs ls1 cells slots (Nat.le_trans hc1 ha.1) (Nat.le_trans hs1 ha.2) hP hD hS (hl.put h2 (by intro z; cases z) hl1))
theorem so_st_ln {a : Nat} {b : Fin 4} (F : mFx p s m args c cc nL own D cA ρ fl ro) (hk : ∀ lv st I, k lv st I → mAW p l e R s m args below meth c Qs nL D cA ρ fl acc acs (pc + 1) lv st I) (ha : acc pc ≤ acc (pc + 1) ∧ acs pc ≤ acs (pc + 1)) (hd : decode cc pc = .ok (.lstore_n b, 1)) (hi : (b : Nat) = a) (h : w_st a 1 k lv st I) : mAW p l e R s m args below meth c Qs nL D cA ρ fl acc acs (pc) lv st I := by
  obtain ⟨hx, hb, hml, hown, hts, hK, hE, hro⟩ := F
  intro H locs ls cells slots hc1 hs1 hP hD hS hl
  rcases st with _ | ⟨v, st⟩
  · exact absurd h id
  obtain ⟨h1, h2, h3⟩ := h
  rw [hl.1] at h2
  rcases v with x | x | r <;> first | (cases h1; done) | skip
  exact lv_lstore_n hx hb hd hi hl.has h2 rfl (fun ls1 hl1 => hk _ _ _ h3 H locs ls1 cells slots (Nat.le_trans hc1 ha.1) (Nat.le_trans hs1 ha.2) hP hD hS (hl.putL h2 rfl hl1))
theorem so_st_lw {a : Nat} (F : mFx p s m args c cc nL own D cA ρ fl ro) (hk : ∀ lv st I, k lv st I → mAW p l e R s m args below meth c Qs nL D cA ρ fl acc acs (pc + 2) lv st I) (ha : acc pc ≤ acc (pc + 2) ∧ acs pc ≤ acs (pc + 2)) (hd : decode cc pc = .ok (.lstore a, 2)) (h : w_st a 1 k lv st I) : mAW p l e R s m args below meth c Qs nL D cA ρ fl acc acs (pc) lv st I := by
  obtain ⟨hx, hb, hml, hown, hts, hK, hE, hro⟩ := F
  intro H locs ls cells slots hc1 hs1 hP hD hS hl
  rcases st with _ | ⟨v, st⟩
  · exact absurd h id
  obtain ⟨h1, h2, h3⟩ := h
  rw [hl.1] at h2
  rcases v with x | x | r <;> first | (cases h1; done) | skip
  exact lv_lstore hx hb hd hl.has h2 rfl (fun ls1 hl1 => hk _ _ _ h3 H locs ls1 cells slots (Nat.le_trans hc1 ha.1) (Nat.le_trans hs1 ha.2) hP hD hS (hl.putL h2 rfl hl1))
theorem so_st_an {a : Nat} {b : Fin 4} (F : mFx p s m args c cc nL own D cA ρ fl ro) (hk : ∀ lv st I, k lv st I → mAW p l e R s m args below meth c Qs nL D cA ρ fl acc acs (pc + 1) lv st I) (ha : acc pc ≤ acc (pc + 1) ∧ acs pc ≤ acs (pc + 1)) (hd : decode cc pc = .ok (.astore_n b, 1)) (hi : (b : Nat) = a) (h : w_st a 2 k lv st I) : mAW p l e R s m args below meth c Qs nL D cA ρ fl acc acs (pc) lv st I := by
  obtain ⟨hx, hb, hml, hown, hts, hK, hE, hro⟩ := F
  intro H locs ls cells slots hc1 hs1 hP hD hS hl
  rcases st with _ | ⟨v, st⟩
  · exact absurd h id
  obtain ⟨h1, h2, h3⟩ := h
  rw [hl.1] at h2
  rcases v with x | x | _ | i <;> first | (cases h1; done) | skip
  · exact lv_astore_nN hx hb hd hi hl.has h2 rfl (fun ls1 hl1 => hk _ _ _ h3 H locs ls1 cells slots (Nat.le_trans hc1 ha.1) (Nat.le_trans hs1 ha.2) hP hD hS (hl.put h2 (by intro z; cases z) hl1))
  · exact lv_astore_n hx hb hd hi hl.has h2 rfl (fun ls1 hl1 => hk _ _ _ h3 H locs ls1 cells slots (Nat.le_trans hc1 ha.1) (Nat.le_trans hs1 ha.2) hP hD hS (hl.put h2 (by intro z; cases z) hl1))
theorem so_st_aw {a : Nat} (F : mFx p s m args c cc nL own D cA ρ fl ro) (hk : ∀ lv st I, k lv st I → mAW p l e R s m args below meth c Qs nL D cA ρ fl acc acs (pc + 2) lv st I) (ha : acc pc ≤ acc (pc + 2) ∧ acs pc ≤ acs (pc + 2)) (hd : decode cc pc = .ok (.astore a, 2)) (h : w_st a 2 k lv st I) : mAW p l e R s m args below meth c Qs nL D cA ρ fl acc acs (pc) lv st I := by
  obtain ⟨hx, hb, hml, hown, hts, hK, hE, hro⟩ := F
  intro H locs ls cells slots hc1 hs1 hP hD hS hl
  rcases st with _ | ⟨v, st⟩
  · exact absurd h id
  obtain ⟨h1, h2, h3⟩ := h
  rw [hl.1] at h2
  rcases v with x | x | _ | i <;> first | (cases h1; done) | skip
  · exact lv_astoreN hx hb hd hl.has h2 rfl (fun ls1 hl1 => hk _ _ _ h3 H locs ls1 cells slots (Nat.le_trans hc1 ha.1) (Nat.le_trans hs1 ha.2) hP hD hS (hl.put h2 (by intro z; cases z) hl1))
  · exact lv_astore hx hb hd hl.has h2 rfl (fun ls1 hl1 => hk _ _ _ h3 H locs ls1 cells slots (Nat.le_trans hc1 ha.1) (Nat.le_trans hs1 ha.2) hP hD hS (hl.put h2 (by intro z; cases z) hl1))
theorem so_iinc {a : Nat} {x : Int} (F : mFx p s m args c cc nL own D cA ρ fl ro) (hk : ∀ lv st I, k lv st I → mAW p l e R s m args below meth c Qs nL D cA ρ fl acc acs (pc + 3) lv st I) (ha : acc pc ≤ acc (pc + 3) ∧ acs pc ≤ acs (pc + 3)) (hd : decode cc pc = .ok (.iinc a x, 3)) (h : w_iinc a x k lv st I) : mAW p l e R s m args below meth c Qs nL D cA ρ fl acc acs (pc) lv st I := by
  obtain ⟨hx, hb, hml, hown, hts, hK, hE, hro⟩ := F
  intro H locs ls cells slots hc1 hs1 hP hD hS hl
  unfold w_iinc at h
  cases hv : lv.getD a none with
  | none => rw [hv] at h; exact absurd h id
  | some v =>
    rw [hv] at h
    rcases v with y | y | r <;> first | exact absurd h id | skip
    have hg := getD_some hv
    obtain ⟨q, hq⟩ := List.getElem?_of_mem (mAs_mem (ρ := ρ) (hl.lt hg) hg)
    refine lv_iinc (v := Int32.ofInt (y + x)) hx hb hd hl.has hq (by rw [Int32.ofInt_add]) (hl.lt hg) rfl ?_
    exact fun ls1 hl1 => hk _ _ _ h H locs ls1 cells slots (Nat.le_trans hc1 ha.1) (Nat.le_trans hs1 ha.2) hP hD hS (hl.put (v := mI (y + x)) (hl.lt hg) (by intro z; cases z) hl1)
theorem so_ib0  (F : mFx p s m args c cc nL own D cA ρ fl ro) (hk : ∀ lv st I, k lv st I → mAW p l e R s m args below meth c Qs nL D cA ρ fl acc acs (pc + 1) lv st I) (ha : acc pc ≤ acc (pc + 1) ∧ acs pc ≤ acs (pc + 1)) (hd : decode cc pc = .ok (.iadd, 1)) (h : w_ib 0 k lv st I) : mAW p l e R s m args below meth c Qs nL D cA ρ fl acc acs (pc) lv st I := by
  obtain ⟨hx, hb, hml, hown, hts, hK, hE, hro⟩ := F
  intro H locs ls cells slots hc1 hs1 hP hD hS hl
  rcases st with _ | ⟨v, _ | ⟨w, st⟩⟩
  · exact absurd h id
  · rcases v with y | y | r <;> exact absurd h id
  rcases v with y | y | r <;> first | exact absurd h id | skip
  rcases w with x | x | r <;> first | exact absurd h id | skip
  have hh := (hk _ _ _ h H locs ls cells slots (Nat.le_trans hc1 ha.1) (Nat.le_trans hs1 ha.2) hP hD hS hl)
  have e := ib_ofInt 0 x y
  rw [List.map_cons, show mc ρ (mI (ib 0 x y)) = .int (Int32.ofInt (ib 0 x y)) from rfl, e] at hh
  exact lv_iadd hx hb hd hh
theorem so_ib1  (F : mFx p s m args c cc nL own D cA ρ fl ro) (hk : ∀ lv st I, k lv st I → mAW p l e R s m args below meth c Qs nL D cA ρ fl acc acs (pc + 1) lv st I) (ha : acc pc ≤ acc (pc + 1) ∧ acs pc ≤ acs (pc + 1)) (hd : decode cc pc = .ok (.isub, 1)) (h : w_ib 1 k lv st I) : mAW p l e R s m args below meth c Qs nL D cA ρ fl acc acs (pc) lv st I := by
  obtain ⟨hx, hb, hml, hown, hts, hK, hE, hro⟩ := F
  intro H locs ls cells slots hc1 hs1 hP hD hS hl
  rcases st with _ | ⟨v, _ | ⟨w, st⟩⟩
  · exact absurd h id
  · rcases v with y | y | r <;> exact absurd h id
  rcases v with y | y | r <;> first | exact absurd h id | skip
  rcases w with x | x | r <;> first | exact absurd h id | skip
  have hh := (hk _ _ _ h H locs ls cells slots (Nat.le_trans hc1 ha.1) (Nat.le_trans hs1 ha.2) hP hD hS hl)
  have e := ib_ofInt 1 x y
  rw [List.map_cons, show mc ρ (mI (ib 1 x y)) = .int (Int32.ofInt (ib 1 x y)) from rfl, e] at hh
  exact lv_isub hx hb hd hh
theorem so_ib2  (F : mFx p s m args c cc nL own D cA ρ fl ro) (hk : ∀ lv st I, k lv st I → mAW p l e R s m args below meth c Qs nL D cA ρ fl acc acs (pc + 1) lv st I) (ha : acc pc ≤ acc (pc + 1) ∧ acs pc ≤ acs (pc + 1)) (hd : decode cc pc = .ok (.imul, 1)) (h : w_ib 2 k lv st I) : mAW p l e R s m args below meth c Qs nL D cA ρ fl acc acs (pc) lv st I := by
  obtain ⟨hx, hb, hml, hown, hts, hK, hE, hro⟩ := F
  intro H locs ls cells slots hc1 hs1 hP hD hS hl
  rcases st with _ | ⟨v, _ | ⟨w, st⟩⟩
  · exact absurd h id
  · rcases v with y | y | r <;> exact absurd h id
  rcases v with y | y | r <;> first | exact absurd h id | skip
  rcases w with x | x | r <;> first | exact absurd h id | skip
  have hh := (hk _ _ _ h H locs ls cells slots (Nat.le_trans hc1 ha.1) (Nat.le_trans hs1 ha.2) hP hD hS hl)
  have e := ib_ofInt 2 x y
  rw [List.map_cons, show mc ρ (mI (ib 2 x y)) = .int (Int32.ofInt (ib 2 x y)) from rfl, e] at hh
  exact lv_imul hx hb hd hh
theorem so_ib3  (F : mFx p s m args c cc nL own D cA ρ fl ro) (hk : ∀ lv st I, k lv st I → mAW p l e R s m args below meth c Qs nL D cA ρ fl acc acs (pc + 1) lv st I) (ha : acc pc ≤ acc (pc + 1) ∧ acs pc ≤ acs (pc + 1)) (hd : decode cc pc = .ok (.iand, 1)) (h : w_ib 3 k lv st I) : mAW p l e R s m args below meth c Qs nL D cA ρ fl acc acs (pc) lv st I := by
  obtain ⟨hx, hb, hml, hown, hts, hK, hE, hro⟩ := F
  intro H locs ls cells slots hc1 hs1 hP hD hS hl
  rcases st with _ | ⟨v, _ | ⟨w, st⟩⟩
  · exact absurd h id
  · rcases v with y | y | r <;> exact absurd h id
  rcases v with y | y | r <;> first | exact absurd h id | skip
  rcases w with x | x | r <;> first | exact absurd h id | skip
  have hh := (hk _ _ _ h H locs ls cells slots (Nat.le_trans hc1 ha.1) (Nat.le_trans hs1 ha.2) hP hD hS hl)
  have e := ib_ofInt 3 x y
  rw [List.map_cons, show mc ρ (mI (ib 3 x y)) = .int (Int32.ofInt (ib 3 x y)) from rfl, e] at hh
  exact lv_iand hx hb hd hh
theorem so_ib4  (F : mFx p s m args c cc nL own D cA ρ fl ro) (hk : ∀ lv st I, k lv st I → mAW p l e R s m args below meth c Qs nL D cA ρ fl acc acs (pc + 1) lv st I) (ha : acc pc ≤ acc (pc + 1) ∧ acs pc ≤ acs (pc + 1)) (hd : decode cc pc = .ok (.ior, 1)) (h : w_ib 4 k lv st I) : mAW p l e R s m args below meth c Qs nL D cA ρ fl acc acs (pc) lv st I := by
  obtain ⟨hx, hb, hml, hown, hts, hK, hE, hro⟩ := F
  intro H locs ls cells slots hc1 hs1 hP hD hS hl
  rcases st with _ | ⟨v, _ | ⟨w, st⟩⟩
  · exact absurd h id
  · rcases v with y | y | r <;> exact absurd h id
  rcases v with y | y | r <;> first | exact absurd h id | skip
  rcases w with x | x | r <;> first | exact absurd h id | skip
  have hh := (hk _ _ _ h H locs ls cells slots (Nat.le_trans hc1 ha.1) (Nat.le_trans hs1 ha.2) hP hD hS hl)
  have e := ib_ofInt 4 x y
  rw [List.map_cons, show mc ρ (mI (ib 4 x y)) = .int (Int32.ofInt (ib 4 x y)) from rfl, e] at hh
  exact lv_ior hx hb hd hh
theorem so_ib5  (F : mFx p s m args c cc nL own D cA ρ fl ro) (hk : ∀ lv st I, k lv st I → mAW p l e R s m args below meth c Qs nL D cA ρ fl acc acs (pc + 1) lv st I) (ha : acc pc ≤ acc (pc + 1) ∧ acs pc ≤ acs (pc + 1)) (hd : decode cc pc = .ok (.ixor, 1)) (h : w_ib 5 k lv st I) : mAW p l e R s m args below meth c Qs nL D cA ρ fl acc acs (pc) lv st I := by
  obtain ⟨hx, hb, hml, hown, hts, hK, hE, hro⟩ := F
  intro H locs ls cells slots hc1 hs1 hP hD hS hl
  rcases st with _ | ⟨v, _ | ⟨w, st⟩⟩
  · exact absurd h id
  · rcases v with y | y | r <;> exact absurd h id
  rcases v with y | y | r <;> first | exact absurd h id | skip
  rcases w with x | x | r <;> first | exact absurd h id | skip
  have hh := (hk _ _ _ h H locs ls cells slots (Nat.le_trans hc1 ha.1) (Nat.le_trans hs1 ha.2) hP hD hS hl)
  have e := ib_ofInt 5 x y
  rw [List.map_cons, show mc ρ (mI (ib 5 x y)) = .int (Int32.ofInt (ib 5 x y)) from rfl, e] at hh
  exact lv_ixor hx hb hd hh
theorem so_ib6  (F : mFx p s m args c cc nL own D cA ρ fl ro) (hk : ∀ lv st I, k lv st I → mAW p l e R s m args below meth c Qs nL D cA ρ fl acc acs (pc + 1) lv st I) (ha : acc pc ≤ acc (pc + 1) ∧ acs pc ≤ acs (pc + 1)) (hd : decode cc pc = .ok (.ishl, 1)) (h : w_ib 6 k lv st I) : mAW p l e R s m args below meth c Qs nL D cA ρ fl acc acs (pc) lv st I := by
  obtain ⟨hx, hb, hml, hown, hts, hK, hE, hro⟩ := F
  intro H locs ls cells slots hc1 hs1 hP hD hS hl
  rcases st with _ | ⟨v, _ | ⟨w, st⟩⟩
  · exact absurd h id
  · rcases v with y | y | r <;> exact absurd h id
  rcases v with y | y | r <;> first | exact absurd h id | skip
  rcases w with x | x | r <;> first | exact absurd h id | skip
  have hh := (hk _ _ _ h H locs ls cells slots (Nat.le_trans hc1 ha.1) (Nat.le_trans hs1 ha.2) hP hD hS hl)
  have e := ib_ofInt 6 x y
  rw [List.map_cons, show mc ρ (mI (ib 6 x y)) = .int (Int32.ofInt (ib 6 x y)) from rfl, e] at hh
  exact lv_ishl hx hb hd hh
theorem so_ib7  (F : mFx p s m args c cc nL own D cA ρ fl ro) (hk : ∀ lv st I, k lv st I → mAW p l e R s m args below meth c Qs nL D cA ρ fl acc acs (pc + 1) lv st I) (ha : acc pc ≤ acc (pc + 1) ∧ acs pc ≤ acs (pc + 1)) (hd : decode cc pc = .ok (.ishr, 1)) (h : w_ib 7 k lv st I) : mAW p l e R s m args below meth c Qs nL D cA ρ fl acc acs (pc) lv st I := by
  obtain ⟨hx, hb, hml, hown, hts, hK, hE, hro⟩ := F
  intro H locs ls cells slots hc1 hs1 hP hD hS hl
  rcases st with _ | ⟨v, _ | ⟨w, st⟩⟩
  · exact absurd h id
  · rcases v with y | y | r <;> exact absurd h id
  rcases v with y | y | r <;> first | exact absurd h id | skip
  rcases w with x | x | r <;> first | exact absurd h id | skip
  have hh := (hk _ _ _ h H locs ls cells slots (Nat.le_trans hc1 ha.1) (Nat.le_trans hs1 ha.2) hP hD hS hl)
  have e := ib_ofInt 7 x y
  rw [List.map_cons, show mc ρ (mI (ib 7 x y)) = .int (Int32.ofInt (ib 7 x y)) from rfl, e] at hh
  exact lv_ishr hx hb hd hh
theorem so_ib8  (F : mFx p s m args c cc nL own D cA ρ fl ro) (hk : ∀ lv st I, k lv st I → mAW p l e R s m args below meth c Qs nL D cA ρ fl acc acs (pc + 1) lv st I) (ha : acc pc ≤ acc (pc + 1) ∧ acs pc ≤ acs (pc + 1)) (hd : decode cc pc = .ok (.iushr, 1)) (h : w_ib 8 k lv st I) : mAW p l e R s m args below meth c Qs nL D cA ρ fl acc acs (pc) lv st I := by
  obtain ⟨hx, hb, hml, hown, hts, hK, hE, hro⟩ := F
  intro H locs ls cells slots hc1 hs1 hP hD hS hl
  rcases st with _ | ⟨v, _ | ⟨w, st⟩⟩
  · exact absurd h id
  · rcases v with y | y | r <;> exact absurd h id
  rcases v with y | y | r <;> first | exact absurd h id | skip
  rcases w with x | x | r <;> first | exact absurd h id | skip
  have hh := (hk _ _ _ h H locs ls cells slots (Nat.le_trans hc1 ha.1) (Nat.le_trans hs1 ha.2) hP hD hS hl)
  have e := ib_ofInt 8 x y
  rw [List.map_cons, show mc ρ (mI (ib 8 x y)) = .int (Int32.ofInt (ib 8 x y)) from rfl, e] at hh
  exact lv_iushr hx hb hd rfl hh
theorem so_ineg  (F : mFx p s m args c cc nL own D cA ρ fl ro) (hk : ∀ lv st I, k lv st I → mAW p l e R s m args below meth c Qs nL D cA ρ fl acc acs (pc + 1) lv st I) (ha : acc pc ≤ acc (pc + 1) ∧ acs pc ≤ acs (pc + 1)) (hd : decode cc pc = .ok (.ineg, 1)) (h : w_ineg k lv st I) : mAW p l e R s m args below meth c Qs nL D cA ρ fl acc acs (pc) lv st I := by
  obtain ⟨hx, hb, hml, hown, hts, hK, hE, hro⟩ := F
  intro H locs ls cells slots hc1 hs1 hP hD hS hl
  rcases st with _ | ⟨v, st⟩
  · exact absurd h id
  rcases v with y | y | r <;> first | exact absurd h id | skip
  have hh := (hk _ _ _ h H locs ls cells slots (Nat.le_trans hc1 ha.1) (Nat.le_trans hs1 ha.2) hP hD hS hl)
  rw [List.map_cons, show mc ρ (mI (-y)) = .int (Int32.ofInt (-y)) from rfl, Int32.ofInt_neg] at hh
  exact lv_ineg hx hb hd hh
theorem so_lb0  (F : mFx p s m args c cc nL own D cA ρ fl ro) (hk : ∀ lv st I, k lv st I → mAW p l e R s m args below meth c Qs nL D cA ρ fl acc acs (pc + 1) lv st I) (ha : acc pc ≤ acc (pc + 1) ∧ acs pc ≤ acs (pc + 1)) (hd : decode cc pc = .ok (.ladd, 1)) (h : w_lb 0 k lv st I) : mAW p l e R s m args below meth c Qs nL D cA ρ fl acc acs (pc) lv st I := by
  obtain ⟨hx, hb, hml, hown, hts, hK, hE, hro⟩ := F
  intro H locs ls cells slots hc1 hs1 hP hD hS hl
  rcases st with _ | ⟨v, _ | ⟨w, st⟩⟩
  · exact absurd h id
  · rcases v with y | y | r <;> exact absurd h id
  rcases v with y | y | r <;> first | exact absurd h id | skip
  rcases w with x | x | r <;> first | exact absurd h id | skip
  have hh := (hk _ _ _ h H locs ls cells slots (Nat.le_trans hc1 ha.1) (Nat.le_trans hs1 ha.2) hP hD hS hl)
  have e := lb_ofInt 0 x y
  rw [List.map_cons, show mc ρ (mL (lb 0 x y)) = .long (Int64.ofInt (lb 0 x y)) from rfl, e] at hh
  exact lv_ladd hx hb hd hh
theorem so_lb1  (F : mFx p s m args c cc nL own D cA ρ fl ro) (hk : ∀ lv st I, k lv st I → mAW p l e R s m args below meth c Qs nL D cA ρ fl acc acs (pc + 1) lv st I) (ha : acc pc ≤ acc (pc + 1) ∧ acs pc ≤ acs (pc + 1)) (hd : decode cc pc = .ok (.lsub, 1)) (h : w_lb 1 k lv st I) : mAW p l e R s m args below meth c Qs nL D cA ρ fl acc acs (pc) lv st I := by
  obtain ⟨hx, hb, hml, hown, hts, hK, hE, hro⟩ := F
  intro H locs ls cells slots hc1 hs1 hP hD hS hl
  rcases st with _ | ⟨v, _ | ⟨w, st⟩⟩
  · exact absurd h id
  · rcases v with y | y | r <;> exact absurd h id
  rcases v with y | y | r <;> first | exact absurd h id | skip
  rcases w with x | x | r <;> first | exact absurd h id | skip
  have hh := (hk _ _ _ h H locs ls cells slots (Nat.le_trans hc1 ha.1) (Nat.le_trans hs1 ha.2) hP hD hS hl)
  have e := lb_ofInt 1 x y
  rw [List.map_cons, show mc ρ (mL (lb 1 x y)) = .long (Int64.ofInt (lb 1 x y)) from rfl, e] at hh
  exact lv_lsub hx hb hd hh
theorem so_lb2  (F : mFx p s m args c cc nL own D cA ρ fl ro) (hk : ∀ lv st I, k lv st I → mAW p l e R s m args below meth c Qs nL D cA ρ fl acc acs (pc + 1) lv st I) (ha : acc pc ≤ acc (pc + 1) ∧ acs pc ≤ acs (pc + 1)) (hd : decode cc pc = .ok (.lmul, 1)) (h : w_lb 2 k lv st I) : mAW p l e R s m args below meth c Qs nL D cA ρ fl acc acs (pc) lv st I := by
  obtain ⟨hx, hb, hml, hown, hts, hK, hE, hro⟩ := F
  intro H locs ls cells slots hc1 hs1 hP hD hS hl
  rcases st with _ | ⟨v, _ | ⟨w, st⟩⟩
  · exact absurd h id
  · rcases v with y | y | r <;> exact absurd h id
  rcases v with y | y | r <;> first | exact absurd h id | skip
  rcases w with x | x | r <;> first | exact absurd h id | skip
  have hh := (hk _ _ _ h H locs ls cells slots (Nat.le_trans hc1 ha.1) (Nat.le_trans hs1 ha.2) hP hD hS hl)
  have e := lb_ofInt 2 x y
  rw [List.map_cons, show mc ρ (mL (lb 2 x y)) = .long (Int64.ofInt (lb 2 x y)) from rfl, e] at hh
  exact lv_lmul hx hb hd hh
theorem so_lb3  (F : mFx p s m args c cc nL own D cA ρ fl ro) (hk : ∀ lv st I, k lv st I → mAW p l e R s m args below meth c Qs nL D cA ρ fl acc acs (pc + 1) lv st I) (ha : acc pc ≤ acc (pc + 1) ∧ acs pc ≤ acs (pc + 1)) (hd : decode cc pc = .ok (.land, 1)) (h : w_lb 3 k lv st I) : mAW p l e R s m args below meth c Qs nL D cA ρ fl acc acs (pc) lv st I := by
  obtain ⟨hx, hb, hml, hown, hts, hK, hE, hro⟩ := F
  intro H locs ls cells slots hc1 hs1 hP hD hS hl
  rcases st with _ | ⟨v, _ | ⟨w, st⟩⟩
  · exact absurd h id
  · rcases v with y | y | r <;> exact absurd h id
  rcases v with y | y | r <;> first | exact absurd h id | skip
  rcases w with x | x | r <;> first | exact absurd h id | skip
  have hh := (hk _ _ _ h H locs ls cells slots (Nat.le_trans hc1 ha.1) (Nat.le_trans hs1 ha.2) hP hD hS hl)
  have e := lb_ofInt 3 x y
  rw [List.map_cons, show mc ρ (mL (lb 3 x y)) = .long (Int64.ofInt (lb 3 x y)) from rfl, e] at hh
  exact lv_land hx hb hd hh
theorem so_lb4  (F : mFx p s m args c cc nL own D cA ρ fl ro) (hk : ∀ lv st I, k lv st I → mAW p l e R s m args below meth c Qs nL D cA ρ fl acc acs (pc + 1) lv st I) (ha : acc pc ≤ acc (pc + 1) ∧ acs pc ≤ acs (pc + 1)) (hd : decode cc pc = .ok (.lor, 1)) (h : w_lb 4 k lv st I) : mAW p l e R s m args below meth c Qs nL D cA ρ fl acc acs (pc) lv st I := by
  obtain ⟨hx, hb, hml, hown, hts, hK, hE, hro⟩ := F
  intro H locs ls cells slots hc1 hs1 hP hD hS hl
  rcases st with _ | ⟨v, _ | ⟨w, st⟩⟩
  · exact absurd h id
  · rcases v with y | y | r <;> exact absurd h id
  rcases v with y | y | r <;> first | exact absurd h id | skip
  rcases w with x | x | r <;> first | exact absurd h id | skip
  have hh := (hk _ _ _ h H locs ls cells slots (Nat.le_trans hc1 ha.1) (Nat.le_trans hs1 ha.2) hP hD hS hl)
  have e := lb_ofInt 4 x y
  rw [List.map_cons, show mc ρ (mL (lb 4 x y)) = .long (Int64.ofInt (lb 4 x y)) from rfl, e] at hh
  exact lv_lor hx hb hd hh
theorem so_lneg  (F : mFx p s m args c cc nL own D cA ρ fl ro) (hk : ∀ lv st I, k lv st I → mAW p l e R s m args below meth c Qs nL D cA ρ fl acc acs (pc + 1) lv st I) (ha : acc pc ≤ acc (pc + 1) ∧ acs pc ≤ acs (pc + 1)) (hd : decode cc pc = .ok (.lneg, 1)) (h : w_lneg k lv st I) : mAW p l e R s m args below meth c Qs nL D cA ρ fl acc acs (pc) lv st I := by
  obtain ⟨hx, hb, hml, hown, hts, hK, hE, hro⟩ := F
  intro H locs ls cells slots hc1 hs1 hP hD hS hl
  rcases st with _ | ⟨v, st⟩
  · exact absurd h id
  rcases v with y | y | r <;> first | exact absurd h id | skip
  have hh := (hk _ _ _ h H locs ls cells slots (Nat.le_trans hc1 ha.1) (Nat.le_trans hs1 ha.2) hP hD hS hl)
  rw [List.map_cons, show mc ρ (mL (-y)) = .long (Int64.ofInt (-y)) from rfl, Int64.ofInt_neg] at hh
  exact lv_lneg hx hb hd hh
theorem so_i2l  (F : mFx p s m args c cc nL own D cA ρ fl ro) (hk : ∀ lv st I, k lv st I → mAW p l e R s m args below meth c Qs nL D cA ρ fl acc acs (pc + 1) lv st I) (ha : acc pc ≤ acc (pc + 1) ∧ acs pc ≤ acs (pc + 1)) (hd : decode cc pc = .ok (.i2l, 1)) (h : w_i2l k lv st I) : mAW p l e R s m args below meth c Qs nL D cA ρ fl acc acs (pc) lv st I := by
  obtain ⟨hx, hb, hml, hown, hts, hK, hE, hro⟩ := F
  intro H locs ls cells slots hc1 hs1 hP hD hS hl
  rcases st with _ | ⟨v, st⟩
  · exact absurd h id
  rcases v with y | y | r <;> first | exact absurd h id | skip
  exact lv_i2l hx hb hd (mi_l h.1) (hk _ _ _ h.2 H locs ls cells slots (Nat.le_trans hc1 ha.1) (Nat.le_trans hs1 ha.2) hP hD hS hl)
theorem so_l2i  (F : mFx p s m args c cc nL own D cA ρ fl ro) (hk : ∀ lv st I, k lv st I → mAW p l e R s m args below meth c Qs nL D cA ρ fl acc acs (pc + 1) lv st I) (ha : acc pc ≤ acc (pc + 1) ∧ acs pc ≤ acs (pc + 1)) (hd : decode cc pc = .ok (.l2i, 1)) (h : w_l2i k lv st I) : mAW p l e R s m args below meth c Qs nL D cA ρ fl acc acs (pc) lv st I := by
  obtain ⟨hx, hb, hml, hown, hts, hK, hE, hro⟩ := F
  intro H locs ls cells slots hc1 hs1 hP hD hS hl
  rcases st with _ | ⟨v, st⟩
  · exact absurd h id
  rcases v with y | y | r <;> first | exact absurd h id | skip
  exact lv_l2i hx hb hd Int64.toInt32_ofInt (hk _ _ _ h H locs ls cells slots (Nat.le_trans hc1 ha.1) (Nat.le_trans hs1 ha.2) hP hD hS hl)
theorem so_icv0  (F : mFx p s m args c cc nL own D cA ρ fl ro) (hk : ∀ lv st I, k lv st I → mAW p l e R s m args below meth c Qs nL D cA ρ fl acc acs (pc + 1) lv st I) (ha : acc pc ≤ acc (pc + 1) ∧ acs pc ≤ acs (pc + 1)) (hd : decode cc pc = .ok (.i2b, 1)) (h : w_icv 0 k lv st I) : mAW p l e R s m args below meth c Qs nL D cA ρ fl acc acs (pc) lv st I := by
  obtain ⟨hx, hb, hml, hown, hts, hK, hE, hro⟩ := F
  intro H locs ls cells slots hc1 hs1 hP hD hS hl
  rcases st with _ | ⟨v, st⟩
  · exact absurd h id
  rcases v with y | y | r <;> first | exact absurd h id | skip
  exact lv_i2b hx hb hd (v := Int32.ofInt (icv 0 y)) (Int32.ofInt_toInt _).symm (hk _ _ _ h H locs ls cells slots (Nat.le_trans hc1 ha.1) (Nat.le_trans hs1 ha.2) hP hD hS hl)
theorem so_icv1  (F : mFx p s m args c cc nL own D cA ρ fl ro) (hk : ∀ lv st I, k lv st I → mAW p l e R s m args below meth c Qs nL D cA ρ fl acc acs (pc + 1) lv st I) (ha : acc pc ≤ acc (pc + 1) ∧ acs pc ≤ acs (pc + 1)) (hd : decode cc pc = .ok (.i2s, 1)) (h : w_icv 1 k lv st I) : mAW p l e R s m args below meth c Qs nL D cA ρ fl acc acs (pc) lv st I := by
  obtain ⟨hx, hb, hml, hown, hts, hK, hE, hro⟩ := F
  intro H locs ls cells slots hc1 hs1 hP hD hS hl
  rcases st with _ | ⟨v, st⟩
  · exact absurd h id
  rcases v with y | y | r <;> first | exact absurd h id | skip
  exact lv_i2s hx hb hd (v := Int32.ofInt (icv 1 y)) (Int32.ofInt_toInt _).symm (hk _ _ _ h H locs ls cells slots (Nat.le_trans hc1 ha.1) (Nat.le_trans hs1 ha.2) hP hD hS hl)
theorem so_icv2  (F : mFx p s m args c cc nL own D cA ρ fl ro) (hk : ∀ lv st I, k lv st I → mAW p l e R s m args below meth c Qs nL D cA ρ fl acc acs (pc + 1) lv st I) (ha : acc pc ≤ acc (pc + 1) ∧ acs pc ≤ acs (pc + 1)) (hd : decode cc pc = .ok (.i2c, 1)) (h : w_icv 2 k lv st I) : mAW p l e R s m args below meth c Qs nL D cA ρ fl acc acs (pc) lv st I := by
  obtain ⟨hx, hb, hml, hown, hts, hK, hE, hro⟩ := F
  intro H locs ls cells slots hc1 hs1 hP hD hS hl
  rcases st with _ | ⟨v, st⟩
  · exact absurd h id
  rcases v with y | y | r <;> first | exact absurd h id | skip
  exact lv_i2c hx hb hd (v := Int32.ofInt (icv 2 y)) (by rw [← mi_u]; exact (Int32.ofInt_toInt _).symm) (hk _ _ _ h H locs ls cells slots (Nat.le_trans hc1 ha.1) (Nat.le_trans hs1 ha.2) hP hD hS hl)
theorem so_idiv  (F : mFx p s m args c cc nL own D cA ρ fl ro) (hk : ∀ lv st I, k lv st I → mAW p l e R s m args below meth c Qs nL D cA ρ fl acc acs (pc + 1) lv st I) (ha : acc pc ≤ acc (pc + 1) ∧ acs pc ≤ acs (pc + 1)) (hd : decode cc pc = .ok (.idiv, 1)) (h : w_idv 0 k lv st I) : mAW p l e R s m args below meth c Qs nL D cA ρ fl acc acs (pc) lv st I := by
  obtain ⟨hx, hb, hml, hown, hts, hK, hE, hro⟩ := F
  intro H locs ls cells slots hc1 hs1 hP hD hS hl
  rcases st with _ | ⟨v, _ | ⟨w, st⟩⟩
  · exact absurd h id
  · rcases v with y | y | r <;> exact absurd h id
  rcases v with y | y | r <;> first | exact absurd h id | skip
  rcases w with x | x | r <;> first | exact absurd h id | skip
  obtain ⟨⟨hx1, hy1, hy0⟩, h2⟩ := h
  have hh := (hk _ _ _ h2 H locs ls cells slots (Nat.le_trans hc1 ha.1) (Nat.le_trans hs1 ha.2) hP hD hS hl)
  rw [List.map_cons, show mc ρ (mI (dv 0 x y)) = .int (Int32.ofInt (dv 0 x y)) from rfl, dv_0, ← mi_div hx1 hy1] at hh
  exact lv_idiv hx hb hd (fun z => hy0 ((mi_eq hy1 mrg_0).mp z)) hh
theorem so_irem  (F : mFx p s m args c cc nL own D cA ρ fl ro) (hk : ∀ lv st I, k lv st I → mAW p l e R s m args below meth c Qs nL D cA ρ fl acc acs (pc + 1) lv st I) (ha : acc pc ≤ acc (pc + 1) ∧ acs pc ≤ acs (pc + 1)) (hd : decode cc pc = .ok (.irem, 1)) (h : w_idv 1 k lv st I) : mAW p l e R s m args below meth c Qs nL D cA ρ fl acc acs (pc) lv st I := by
  obtain ⟨hx, hb, hml, hown, hts, hK, hE, hro⟩ := F
  intro H locs ls cells slots hc1 hs1 hP hD hS hl
  rcases st with _ | ⟨v, _ | ⟨w, st⟩⟩
  · exact absurd h id
  · rcases v with y | y | r <;> exact absurd h id
  rcases v with y | y | r <;> first | exact absurd h id | skip
  rcases w with x | x | r <;> first | exact absurd h id | skip
  obtain ⟨⟨hx1, hy1, hy0⟩, h2⟩ := h
  have hh := (hk _ _ _ h2 H locs ls cells slots (Nat.le_trans hc1 ha.1) (Nat.le_trans hs1 ha.2) hP hD hS hl)
  rw [List.map_cons, show mc ρ (mI (dv 1 x y)) = .int (Int32.ofInt (dv 1 x y)) from rfl, dv_1, ← mi_rem hx1 hy1] at hh
  exact lv_irem hx hb hd (fun z => hy0 ((mi_eq hy1 mrg_0).mp z)) hh
theorem so_ldiv  (F : mFx p s m args c cc nL own D cA ρ fl ro) (hk : ∀ lv st I, k lv st I → mAW p l e R s m args below meth c Qs nL D cA ρ fl acc acs (pc + 1) lv st I) (ha : acc pc ≤ acc (pc + 1) ∧ acs pc ≤ acs (pc + 1)) (hd : decode cc pc = .ok (.ldiv, 1)) (h : w_ldv 0 k lv st I) : mAW p l e R s m args below meth c Qs nL D cA ρ fl acc acs (pc) lv st I := by
  obtain ⟨hx, hb, hml, hown, hts, hK, hE, hro⟩ := F
  intro H locs ls cells slots hc1 hs1 hP hD hS hl
  rcases st with _ | ⟨v, _ | ⟨w, st⟩⟩
  · exact absurd h id
  · rcases v with y | y | r <;> exact absurd h id
  rcases v with y | y | r <;> first | exact absurd h id | skip
  rcases w with x | x | r <;> first | exact absurd h id | skip
  obtain ⟨⟨hx1, hy1, hy0⟩, h2⟩ := h
  have hh := (hk _ _ _ h2 H locs ls cells slots (Nat.le_trans hc1 ha.1) (Nat.le_trans hs1 ha.2) hP hD hS hl)
  rw [List.map_cons, show mc ρ (mL (dv 0 x y)) = .long (Int64.ofInt (dv 0 x y)) from rfl, dv_0, ← ml_div hx1 hy1] at hh
  exact lv_ldiv hx hb hd (fun z => hy0 ((ml_eq hy1 mrl_0).mp z)) hh
theorem so_lrem  (F : mFx p s m args c cc nL own D cA ρ fl ro) (hk : ∀ lv st I, k lv st I → mAW p l e R s m args below meth c Qs nL D cA ρ fl acc acs (pc + 1) lv st I) (ha : acc pc ≤ acc (pc + 1) ∧ acs pc ≤ acs (pc + 1)) (hd : decode cc pc = .ok (.lrem, 1)) (h : w_ldv 1 k lv st I) : mAW p l e R s m args below meth c Qs nL D cA ρ fl acc acs (pc) lv st I := by
  obtain ⟨hx, hb, hml, hown, hts, hK, hE, hro⟩ := F
  intro H locs ls cells slots hc1 hs1 hP hD hS hl
  rcases st with _ | ⟨v, _ | ⟨w, st⟩⟩
  · exact absurd h id
  · rcases v with y | y | r <;> exact absurd h id
  rcases v with y | y | r <;> first | exact absurd h id | skip
  rcases w with x | x | r <;> first | exact absurd h id | skip
  obtain ⟨⟨hx1, hy1, hy0⟩, h2⟩ := h
  have hh := (hk _ _ _ h2 H locs ls cells slots (Nat.le_trans hc1 ha.1) (Nat.le_trans hs1 ha.2) hP hD hS hl)
  rw [List.map_cons, show mc ρ (mL (dv 1 x y)) = .long (Int64.ofInt (dv 1 x y)) from rfl, dv_1, ← ml_rem hx1 hy1] at hh
  exact lv_lrem hx hb hd (fun z => hy0 ((ml_eq hy1 mrl_0).mp z)) hh
theorem so_lshl  (F : mFx p s m args c cc nL own D cA ρ fl ro) (hk : ∀ lv st I, k lv st I → mAW p l e R s m args below meth c Qs nL D cA ρ fl acc acs (pc + 1) lv st I) (ha : acc pc ≤ acc (pc + 1) ∧ acs pc ≤ acs (pc + 1)) (hd : decode cc pc = .ok (.lshl, 1)) (h : w_lsh 0 k lv st I) : mAW p l e R s m args below meth c Qs nL D cA ρ fl acc acs (pc) lv st I := by
  obtain ⟨hx, hb, hml, hown, hts, hK, hE, hro⟩ := F
  intro H locs ls cells slots hc1 hs1 hP hD hS hl
  rcases st with _ | ⟨v, _ | ⟨w, st⟩⟩
  · exact absurd h id
  · rcases v with y | y | r <;> exact absurd h id
  rcases v with y | y | r <;> first | exact absurd h id | skip
  rcases w with x | x | r <;> first | exact absurd h id | skip
  exact lv_lshl hx hb hd (v := Int64.ofInt (lsh 0 x y)) (Int64.ofInt_toInt _).symm (hk _ _ _ h H locs ls cells slots (Nat.le_trans hc1 ha.1) (Nat.le_trans hs1 ha.2) hP hD hS hl)
theorem so_lshr  (F : mFx p s m args c cc nL own D cA ρ fl ro) (hk : ∀ lv st I, k lv st I → mAW p l e R s m args below meth c Qs nL D cA ρ fl acc acs (pc + 1) lv st I) (ha : acc pc ≤ acc (pc + 1) ∧ acs pc ≤ acs (pc + 1)) (hd : decode cc pc = .ok (.lshr, 1)) (h : w_lsh 1 k lv st I) : mAW p l e R s m args below meth c Qs nL D cA ρ fl acc acs (pc) lv st I := by
  obtain ⟨hx, hb, hml, hown, hts, hK, hE, hro⟩ := F
  intro H locs ls cells slots hc1 hs1 hP hD hS hl
  rcases st with _ | ⟨v, _ | ⟨w, st⟩⟩
  · exact absurd h id
  · rcases v with y | y | r <;> exact absurd h id
  rcases v with y | y | r <;> first | exact absurd h id | skip
  rcases w with x | x | r <;> first | exact absurd h id | skip
  exact lv_lshr hx hb hd (v := Int64.ofInt (lsh 1 x y)) (Int64.ofInt_toInt _).symm (hk _ _ _ h H locs ls cells slots (Nat.le_trans hc1 ha.1) (Nat.le_trans hs1 ha.2) hP hD hS hl)
theorem so_dup  (F : mFx p s m args c cc nL own D cA ρ fl ro) (hk : ∀ lv st I, k lv st I → mAW p l e R s m args below meth c Qs nL D cA ρ fl acc acs (pc + 1) lv st I) (ha : acc pc ≤ acc (pc + 1) ∧ acs pc ≤ acs (pc + 1)) (hd : decode cc pc = .ok (.dup, 1)) (h : w_dup k lv st I) : mAW p l e R s m args below meth c Qs nL D cA ρ fl acc acs (pc) lv st I := by
  obtain ⟨hx, hb, hml, hown, hts, hK, hE, hro⟩ := F
  intro H locs ls cells slots hc1 hs1 hP hD hS hl
  rcases st with _ | ⟨v, st⟩
  · exact absurd h id
  exact lv_dup hx hb hd (mc_cat1 h.1) (hk _ _ _ h.2 H locs ls cells slots (Nat.le_trans hc1 ha.1) (Nat.le_trans hs1 ha.2) hP hD hS hl)
theorem so_dup2  (F : mFx p s m args c cc nL own D cA ρ fl ro) (hk : ∀ lv st I, k lv st I → mAW p l e R s m args below meth c Qs nL D cA ρ fl acc acs (pc + 1) lv st I) (ha : acc pc ≤ acc (pc + 1) ∧ acs pc ≤ acs (pc + 1)) (hd : decode cc pc = .ok (.dup2, 1)) (h : w_dup2 k lv st I) : mAW p l e R s m args below meth c Qs nL D cA ρ fl acc acs (pc) lv st I := by
  obtain ⟨hx, hb, hml, hown, hts, hK, hE, hro⟩ := F
  intro H locs ls cells slots hc1 hs1 hP hD hS hl
  rcases st with _ | ⟨v, _ | ⟨w, st⟩⟩
  · exact absurd h id
  · exact absurd h id
  exact lv_dup2_11 hx hb hd (mc_cat1 h.1) (mc_cat1 h.2.1) (hk _ _ _ h.2.2 H locs ls cells slots (Nat.le_trans hc1 ha.1) (Nat.le_trans hs1 ha.2) hP hD hS hl)
theorem so_pop  (F : mFx p s m args c cc nL own D cA ρ fl ro) (hk : ∀ lv st I, k lv st I → mAW p l e R s m args below meth c Qs nL D cA ρ fl acc acs (pc + 1) lv st I) (ha : acc pc ≤ acc (pc + 1) ∧ acs pc ≤ acs (pc + 1)) (hd : decode cc pc = .ok (.pop, 1)) (h : w_pop k lv st I) : mAW p l e R s m args below meth c Qs nL D cA ρ fl acc acs (pc) lv st I := by
  obtain ⟨hx, hb, hml, hown, hts, hK, hE, hro⟩ := F
  intro H locs ls cells slots hc1 hs1 hP hD hS hl
  rcases st with _ | ⟨v, st⟩
  · exact absurd h id
  exact lv_pop hx hb hd (mc_cat1 h.1) (hk _ _ _ h.2 H locs ls cells slots (Nat.le_trans hc1 ha.1) (Nat.le_trans hs1 ha.2) hP hD hS hl)
theorem so_icmp_eq {j : mK} {tgt : Nat} {off : Int} (F : mFx p s m args c cc nL own D cA ρ fl ro) (hj : ∀ lv st I, j lv st I → mAW p l e R s m args below meth c Qs nL D cA ρ fl acc acs (tgt) lv st I) (hja : acc pc ≤ acc tgt ∧ acs pc ≤ acs tgt) (hk : ∀ lv st I, k lv st I → mAW p l e R s m args below meth c Qs nL D cA ρ fl acc acs (pc + 3) lv st I) (ha : acc pc ≤ acc (pc + 3) ∧ acs pc ≤ acs (pc + 3)) (hd : decode cc pc = .ok (.if_icmp .eq off, 3)) (ht : (pc : Int) + off = (tgt : Int)) (h : w_icmp 0 j k lv st I) : mAW p l e R s m args below meth c Qs nL D cA ρ fl acc acs (pc) lv st I := by
  obtain ⟨hx, hb, hml, hown, hts, hK, hE, hro⟩ := F
  intro H locs ls cells slots hc1 hs1 hP hD hS hl
  rcases st with _ | ⟨v, _ | ⟨w, st⟩⟩
  · exact absurd h id
  · rcases v with y | y | r <;> exact absurd h id
  rcases v with y | y | r <;> first | exact absurd h id | skip
  rcases w with x | x | r <;> first | exact absurd h id | skip
  obtain ⟨⟨h1, h2⟩, hA, hB⟩ := h
  have hi : (Int32.ofInt x = Int32.ofInt y) ↔ mCmp 0 x y := mi_eq h1 h2
  exact lv_icmp_eq hx hb hd ht (fun z => (hj _ _ _ (hA (hi.mp z)) H locs ls cells slots (Nat.le_trans hc1 hja.1) (Nat.le_trans hs1 hja.2) hP hD hS hl)) (fun z => (hk _ _ _ (hB (fun w => z (hi.mpr w))) H locs ls cells slots (Nat.le_trans hc1 ha.1) (Nat.le_trans hs1 ha.2) hP hD hS hl))
theorem so_if_eq {j : mK} {tgt : Nat} {off : Int} (F : mFx p s m args c cc nL own D cA ρ fl ro) (hj : ∀ lv st I, j lv st I → mAW p l e R s m args below meth c Qs nL D cA ρ fl acc acs (tgt) lv st I) (hja : acc pc ≤ acc tgt ∧ acs pc ≤ acs tgt) (hk : ∀ lv st I, k lv st I → mAW p l e R s m args below meth c Qs nL D cA ρ fl acc acs (pc + 3) lv st I) (ha : acc pc ≤ acc (pc + 3) ∧ acs pc ≤ acs (pc + 3)) (hd : decode cc pc = .ok (.ifCond .eq off, 3)) (ht : (pc : Int) + off = (tgt : Int)) (h : w_if 0 j k lv st I) : mAW p l e R s m args below meth c Qs nL D cA ρ fl acc acs (pc) lv st I := by
  obtain ⟨hx, hb, hml, hown, hts, hK, hE, hro⟩ := F
  intro H locs ls cells slots hc1 hs1 hP hD hS hl
  rcases st with _ | ⟨v, st⟩
  · exact absurd h id
  rcases v with x | x | r <;> first | exact absurd h id | skip
  obtain ⟨h1, hA, hB⟩ := h
  have h2 := mrg_0
  have hi : (Int32.ofInt x = Int32.ofInt 0) ↔ mCmp 0 x 0 := mi_eq h1 h2
  exact lv_if_eq hx hb hd ht (fun z => (hj _ _ _ (hA (hi.mp z)) H locs ls cells slots (Nat.le_trans hc1 hja.1) (Nat.le_trans hs1 hja.2) hP hD hS hl)) (fun z => (hk _ _ _ (hB (fun w => z (hi.mpr w))) H locs ls cells slots (Nat.le_trans hc1 ha.1) (Nat.le_trans hs1 ha.2) hP hD hS hl))
theorem so_icmp_ne {j : mK} {tgt : Nat} {off : Int} (F : mFx p s m args c cc nL own D cA ρ fl ro) (hj : ∀ lv st I, j lv st I → mAW p l e R s m args below meth c Qs nL D cA ρ fl acc acs (tgt) lv st I) (hja : acc pc ≤ acc tgt ∧ acs pc ≤ acs tgt) (hk : ∀ lv st I, k lv st I → mAW p l e R s m args below meth c Qs nL D cA ρ fl acc acs (pc + 3) lv st I) (ha : acc pc ≤ acc (pc + 3) ∧ acs pc ≤ acs (pc + 3)) (hd : decode cc pc = .ok (.if_icmp .ne off, 3)) (ht : (pc : Int) + off = (tgt : Int)) (h : w_icmp 1 j k lv st I) : mAW p l e R s m args below meth c Qs nL D cA ρ fl acc acs (pc) lv st I := by
  obtain ⟨hx, hb, hml, hown, hts, hK, hE, hro⟩ := F
  intro H locs ls cells slots hc1 hs1 hP hD hS hl
  rcases st with _ | ⟨v, _ | ⟨w, st⟩⟩
  · exact absurd h id
  · rcases v with y | y | r <;> exact absurd h id
  rcases v with y | y | r <;> first | exact absurd h id | skip
  rcases w with x | x | r <;> first | exact absurd h id | skip
  obtain ⟨⟨h1, h2⟩, hA, hB⟩ := h
  have hi : (¬ Int32.ofInt x = Int32.ofInt y) ↔ mCmp 1 x y := not_congr (mi_eq h1 h2)
  exact lv_icmp_ne hx hb hd ht (fun z => (hj _ _ _ (hA (hi.mp z)) H locs ls cells slots (Nat.le_trans hc1 hja.1) (Nat.le_trans hs1 hja.2) hP hD hS hl)) (fun z => (hk _ _ _ (hB (fun w => (hi.mpr w) z)) H locs ls cells slots (Nat.le_trans hc1 ha.1) (Nat.le_trans hs1 ha.2) hP hD hS hl))
theorem so_if_ne {j : mK} {tgt : Nat} {off : Int} (F : mFx p s m args c cc nL own D cA ρ fl ro) (hj : ∀ lv st I, j lv st I → mAW p l e R s m args below meth c Qs nL D cA ρ fl acc acs (tgt) lv st I) (hja : acc pc ≤ acc tgt ∧ acs pc ≤ acs tgt) (hk : ∀ lv st I, k lv st I → mAW p l e R s m args below meth c Qs nL D cA ρ fl acc acs (pc + 3) lv st I) (ha : acc pc ≤ acc (pc + 3) ∧ acs pc ≤ acs (pc + 3)) (hd : decode cc pc = .ok (.ifCond .ne off, 3)) (ht : (pc : Int) + off = (tgt : Int)) (h : w_if 1 j k lv st I) : mAW p l e R s m args below meth c Qs nL D cA ρ fl acc acs (pc) lv st I := by
  obtain ⟨hx, hb, hml, hown, hts, hK, hE, hro⟩ := F
  intro H locs ls cells slots hc1 hs1 hP hD hS hl
  rcases st with _ | ⟨v, st⟩
  · exact absurd h id
  rcases v with x | x | r <;> first | exact absurd h id | skip
  obtain ⟨h1, hA, hB⟩ := h
  have h2 := mrg_0
  have hi : (¬ Int32.ofInt x = Int32.ofInt 0) ↔ mCmp 1 x 0 := not_congr (mi_eq h1 h2)
  exact lv_if_ne hx hb hd ht (fun z => (hj _ _ _ (hA (hi.mp z)) H locs ls cells slots (Nat.le_trans hc1 hja.1) (Nat.le_trans hs1 hja.2) hP hD hS hl)) (fun z => (hk _ _ _ (hB (fun w => (hi.mpr w) z)) H locs ls cells slots (Nat.le_trans hc1 ha.1) (Nat.le_trans hs1 ha.2) hP hD hS hl))
theorem so_icmp_lt {j : mK} {tgt : Nat} {off : Int} (F : mFx p s m args c cc nL own D cA ρ fl ro) (hj : ∀ lv st I, j lv st I → mAW p l e R s m args below meth c Qs nL D cA ρ fl acc acs (tgt) lv st I) (hja : acc pc ≤ acc tgt ∧ acs pc ≤ acs tgt) (hk : ∀ lv st I, k lv st I → mAW p l e R s m args below meth c Qs nL D cA ρ fl acc acs (pc + 3) lv st I) (ha : acc pc ≤ acc (pc + 3) ∧ acs pc ≤ acs (pc + 3)) (hd : decode cc pc = .ok (.if_icmp .lt off, 3)) (ht : (pc : Int) + off = (tgt : Int)) (h : w_icmp 2 j k lv st I) : mAW p l e R s m args below meth c Qs nL D cA ρ fl acc acs (pc) lv st I := by
  obtain ⟨hx, hb, hml, hown, hts, hK, hE, hro⟩ := F
  intro H locs ls cells slots hc1 hs1 hP hD hS hl
  rcases st with _ | ⟨v, _ | ⟨w, st⟩⟩
  · exact absurd h id
  · rcases v with y | y | r <;> exact absurd h id
  rcases v with y | y | r <;> first | exact absurd h id | skip
  rcases w with x | x | r <;> first | exact absurd h id | skip
  obtain ⟨⟨h1, h2⟩, hA, hB⟩ := h
  have hi : (Int32.ofInt x < Int32.ofInt y) ↔ mCmp 2 x y := mi_lt h1 h2
  exact lv_icmp_lt hx hb hd ht (fun z => (hj _ _ _ (hA (hi.mp z)) H locs ls cells slots (Nat.le_trans hc1 hja.1) (Nat.le_trans hs1 hja.2) hP hD hS hl)) (fun z => (hk _ _ _ (hB (fun w => z (hi.mpr w))) H locs ls cells slots (Nat.le_trans hc1 ha.1) (Nat.le_trans hs1 ha.2) hP hD hS hl))
theorem so_if_lt {j : mK} {tgt : Nat} {off : Int} (F : mFx p s m args c cc nL own D cA ρ fl ro) (hj : ∀ lv st I, j lv st I → mAW p l e R s m args below meth c Qs nL D cA ρ fl acc acs (tgt) lv st I) (hja : acc pc ≤ acc tgt ∧ acs pc ≤ acs tgt) (hk : ∀ lv st I, k lv st I → mAW p l e R s m args below meth c Qs nL D cA ρ fl acc acs (pc + 3) lv st I) (ha : acc pc ≤ acc (pc + 3) ∧ acs pc ≤ acs (pc + 3)) (hd : decode cc pc = .ok (.ifCond .lt off, 3)) (ht : (pc : Int) + off = (tgt : Int)) (h : w_if 2 j k lv st I) : mAW p l e R s m args below meth c Qs nL D cA ρ fl acc acs (pc) lv st I := by
  obtain ⟨hx, hb, hml, hown, hts, hK, hE, hro⟩ := F
  intro H locs ls cells slots hc1 hs1 hP hD hS hl
  rcases st with _ | ⟨v, st⟩
  · exact absurd h id
  rcases v with x | x | r <;> first | exact absurd h id | skip
  obtain ⟨h1, hA, hB⟩ := h
  have h2 := mrg_0
  have hi : (Int32.ofInt x < Int32.ofInt 0) ↔ mCmp 2 x 0 := mi_lt h1 h2
  exact lv_if_lt hx hb hd ht (fun z => (hj _ _ _ (hA (hi.mp z)) H locs ls cells slots (Nat.le_trans hc1 hja.1) (Nat.le_trans hs1 hja.2) hP hD hS hl)) (fun z => (hk _ _ _ (hB (fun w => z (hi.mpr w))) H locs ls cells slots (Nat.le_trans hc1 ha.1) (Nat.le_trans hs1 ha.2) hP hD hS hl))
theorem so_icmp_ge {j : mK} {tgt : Nat} {off : Int} (F : mFx p s m args c cc nL own D cA ρ fl ro) (hj : ∀ lv st I, j lv st I → mAW p l e R s m args below meth c Qs nL D cA ρ fl acc acs (tgt) lv st I) (hja : acc pc ≤ acc tgt ∧ acs pc ≤ acs tgt) (hk : ∀ lv st I, k lv st I → mAW p l e R s m args below meth c Qs nL D cA ρ fl acc acs (pc + 3) lv st I) (ha : acc pc ≤ acc (pc + 3) ∧ acs pc ≤ acs (pc + 3)) (hd : decode cc pc = .ok (.if_icmp .ge off, 3)) (ht : (pc : Int) + off = (tgt : Int)) (h : w_icmp 3 j k lv st I) : mAW p l e R s m args below meth c Qs nL D cA ρ fl acc acs (pc) lv st I := by
  obtain ⟨hx, hb, hml, hown, hts, hK, hE, hro⟩ := F
  intro H locs ls cells slots hc1 hs1 hP hD hS hl
  rcases st with _ | ⟨v, _ | ⟨w, st⟩⟩
  · exact absurd h id
  · rcases v with y | y | r <;> exact absurd h id
  rcases v with y | y | r <;> first | exact absurd h id | skip
  rcases w with x | x | r <;> first | exact absurd h id | skip
  obtain ⟨⟨h1, h2⟩, hA, hB⟩ := h
  have hi : (Int32.ofInt y ≤ Int32.ofInt x) ↔ mCmp 3 x y := mi_le h2 h1
  exact lv_icmp_ge hx hb hd ht (fun z => (hj _ _ _ (hA (hi.mp z)) H locs ls cells slots (Nat.le_trans hc1 hja.1) (Nat.le_trans hs1 hja.2) hP hD hS hl)) (fun z => (hk _ _ _ (hB (fun w => z (hi.mpr w))) H locs ls cells slots (Nat.le_trans hc1 ha.1) (Nat.le_trans hs1 ha.2) hP hD hS hl))
theorem so_if_ge {j : mK} {tgt : Nat} {off : Int} (F : mFx p s m args c cc nL own D cA ρ fl ro) (hj : ∀ lv st I, j lv st I → mAW p l e R s m args below meth c Qs nL D cA ρ fl acc acs (tgt) lv st I) (hja : acc pc ≤ acc tgt ∧ acs pc ≤ acs tgt) (hk : ∀ lv st I, k lv st I → mAW p l e R s m args below meth c Qs nL D cA ρ fl acc acs (pc + 3) lv st I) (ha : acc pc ≤ acc (pc + 3) ∧ acs pc ≤ acs (pc + 3)) (hd : decode cc pc = .ok (.ifCond .ge off, 3)) (ht : (pc : Int) + off = (tgt : Int)) (h : w_if 3 j k lv st I) : mAW p l e R s m args below meth c Qs nL D cA ρ fl acc acs (pc) lv st I := by
  obtain ⟨hx, hb, hml, hown, hts, hK, hE, hro⟩ := F
  intro H locs ls cells slots hc1 hs1 hP hD hS hl
  rcases st with _ | ⟨v, st⟩
  · exact absurd h id
  rcases v with x | x | r <;> first | exact absurd h id | skip
  obtain ⟨h1, hA, hB⟩ := h
  have h2 := mrg_0
  have hi : (Int32.ofInt 0 ≤ Int32.ofInt x) ↔ mCmp 3 x 0 := mi_le h2 h1
  exact lv_if_ge hx hb hd ht (fun z => (hj _ _ _ (hA (hi.mp z)) H locs ls cells slots (Nat.le_trans hc1 hja.1) (Nat.le_trans hs1 hja.2) hP hD hS hl)) (fun z => (hk _ _ _ (hB (fun w => z (hi.mpr w))) H locs ls cells slots (Nat.le_trans hc1 ha.1) (Nat.le_trans hs1 ha.2) hP hD hS hl))
theorem so_icmp_gt {j : mK} {tgt : Nat} {off : Int} (F : mFx p s m args c cc nL own D cA ρ fl ro) (hj : ∀ lv st I, j lv st I → mAW p l e R s m args below meth c Qs nL D cA ρ fl acc acs (tgt) lv st I) (hja : acc pc ≤ acc tgt ∧ acs pc ≤ acs tgt) (hk : ∀ lv st I, k lv st I → mAW p l e R s m args below meth c Qs nL D cA ρ fl acc acs (pc + 3) lv st I) (ha : acc pc ≤ acc (pc + 3) ∧ acs pc ≤ acs (pc + 3)) (hd : decode cc pc = .ok (.if_icmp .gt off, 3)) (ht : (pc : Int) + off = (tgt : Int)) (h : w_icmp 4 j k lv st I) : mAW p l e R s m args below meth c Qs nL D cA ρ fl acc acs (pc) lv st I := by
  obtain ⟨hx, hb, hml, hown, hts, hK, hE, hro⟩ := F
  intro H locs ls cells slots hc1 hs1 hP hD hS hl
  rcases st with _ | ⟨v, _ | ⟨w, st⟩⟩
  · exact absurd h id
  · rcases v with y | y | r <;> exact absurd h id
  rcases v with y | y | r <;> first | exact absurd h id | skip
  rcases w with x | x | r <;> first | exact absurd h id | skip
  obtain ⟨⟨h1, h2⟩, hA, hB⟩ := h
  have hi : (Int32.ofInt y < Int32.ofInt x) ↔ mCmp 4 x y := mi_lt h2 h1
  exact lv_icmp_gt hx hb hd ht (fun z => (hj _ _ _ (hA (hi.mp z)) H locs ls cells slots (Nat.le_trans hc1 hja.1) (Nat.le_trans hs1 hja.2) hP hD hS hl)) (fun z => (hk _ _ _ (hB (fun w => z (hi.mpr w))) H locs ls cells slots (Nat.le_trans hc1 ha.1) (Nat.le_trans hs1 ha.2) hP hD hS hl))
theorem so_if_gt {j : mK} {tgt : Nat} {off : Int} (F : mFx p s m args c cc nL own D cA ρ fl ro) (hj : ∀ lv st I, j lv st I → mAW p l e R s m args below meth c Qs nL D cA ρ fl acc acs (tgt) lv st I) (hja : acc pc ≤ acc tgt ∧ acs pc ≤ acs tgt) (hk : ∀ lv st I, k lv st I → mAW p l e R s m args below meth c Qs nL D cA ρ fl acc acs (pc + 3) lv st I) (ha : acc pc ≤ acc (pc + 3) ∧ acs pc ≤ acs (pc + 3)) (hd : decode cc pc = .ok (.ifCond .gt off, 3)) (ht : (pc : Int) + off = (tgt : Int)) (h : w_if 4 j k lv st I) : mAW p l e R s m args below meth c Qs nL D cA ρ fl acc acs (pc) lv st I := by
  obtain ⟨hx, hb, hml, hown, hts, hK, hE, hro⟩ := F
  intro H locs ls cells slots hc1 hs1 hP hD hS hl
  rcases st with _ | ⟨v, st⟩
  · exact absurd h id
  rcases v with x | x | r <;> first | exact absurd h id | skip
  obtain ⟨h1, hA, hB⟩ := h
  have h2 := mrg_0
  have hi : (Int32.ofInt 0 < Int32.ofInt x) ↔ mCmp 4 x 0 := mi_lt h2 h1
  exact lv_if_gt hx hb hd ht (fun z => (hj _ _ _ (hA (hi.mp z)) H locs ls cells slots (Nat.le_trans hc1 hja.1) (Nat.le_trans hs1 hja.2) hP hD hS hl)) (fun z => (hk _ _ _ (hB (fun w => z (hi.mpr w))) H locs ls cells slots (Nat.le_trans hc1 ha.1) (Nat.le_trans hs1 ha.2) hP hD hS hl))
theorem so_icmp_le {j : mK} {tgt : Nat} {off : Int} (F : mFx p s m args c cc nL own D cA ρ fl ro) (hj : ∀ lv st I, j lv st I → mAW p l e R s m args below meth c Qs nL D cA ρ fl acc acs (tgt) lv st I) (hja : acc pc ≤ acc tgt ∧ acs pc ≤ acs tgt) (hk : ∀ lv st I, k lv st I → mAW p l e R s m args below meth c Qs nL D cA ρ fl acc acs (pc + 3) lv st I) (ha : acc pc ≤ acc (pc + 3) ∧ acs pc ≤ acs (pc + 3)) (hd : decode cc pc = .ok (.if_icmp .le off, 3)) (ht : (pc : Int) + off = (tgt : Int)) (h : w_icmp 5 j k lv st I) : mAW p l e R s m args below meth c Qs nL D cA ρ fl acc acs (pc) lv st I := by
  obtain ⟨hx, hb, hml, hown, hts, hK, hE, hro⟩ := F
  intro H locs ls cells slots hc1 hs1 hP hD hS hl
  rcases st with _ | ⟨v, _ | ⟨w, st⟩⟩
  · exact absurd h id
  · rcases v with y | y | r <;> exact absurd h id
  rcases v with y | y | r <;> first | exact absurd h id | skip
  rcases w with x | x | r <;> first | exact absurd h id | skip
  obtain ⟨⟨h1, h2⟩, hA, hB⟩ := h
  have hi : (Int32.ofInt x ≤ Int32.ofInt y) ↔ mCmp 5 x y := mi_le h1 h2
  exact lv_icmp_le hx hb hd ht (fun z => (hj _ _ _ (hA (hi.mp z)) H locs ls cells slots (Nat.le_trans hc1 hja.1) (Nat.le_trans hs1 hja.2) hP hD hS hl)) (fun z => (hk _ _ _ (hB (fun w => z (hi.mpr w))) H locs ls cells slots (Nat.le_trans hc1 ha.1) (Nat.le_trans hs1 ha.2) hP hD hS hl))
theorem so_if_le {j : mK} {tgt : Nat} {off : Int} (F : mFx p s m args c cc nL own D cA ρ fl ro) (hj : ∀ lv st I, j lv st I → mAW p l e R s m args below meth c Qs nL D cA ρ fl acc acs (tgt) lv st I) (hja : acc pc ≤ acc tgt ∧ acs pc ≤ acs tgt) (hk : ∀ lv st I, k lv st I → mAW p l e R s m args below meth c Qs nL D cA ρ fl acc acs (pc + 3) lv st I) (ha : acc pc ≤ acc (pc + 3) ∧ acs pc ≤ acs (pc + 3)) (hd : decode cc pc = .ok (.ifCond .le off, 3)) (ht : (pc : Int) + off = (tgt : Int)) (h : w_if 5 j k lv st I) : mAW p l e R s m args below meth c Qs nL D cA ρ fl acc acs (pc) lv st I := by
  obtain ⟨hx, hb, hml, hown, hts, hK, hE, hro⟩ := F
  intro H locs ls cells slots hc1 hs1 hP hD hS hl
  rcases st with _ | ⟨v, st⟩
  · exact absurd h id
  rcases v with x | x | r <;> first | exact absurd h id | skip
  obtain ⟨h1, hA, hB⟩ := h
  have h2 := mrg_0
  have hi : (Int32.ofInt x ≤ Int32.ofInt 0) ↔ mCmp 5 x 0 := mi_le h1 h2
  exact lv_if_le hx hb hd ht (fun z => (hj _ _ _ (hA (hi.mp z)) H locs ls cells slots (Nat.le_trans hc1 hja.1) (Nat.le_trans hs1 hja.2) hP hD hS hl)) (fun z => (hk _ _ _ (hB (fun w => z (hi.mpr w))) H locs ls cells slots (Nat.le_trans hc1 ha.1) (Nat.le_trans hs1 ha.2) hP hD hS hl))
theorem lg_if (x y : Int64) : (lg_cmp x y = 0 ↔ x = y) ∧ (lg_cmp x y < 0 ↔ x < y) ∧ (0 < lg_cmp x y ↔ y < x) := by
  unfold lg_cmp
  by_cases h1 : x > y
  · rw [if_pos h1]
    have h2 : y.toInt < x.toInt := Int64.lt_iff_toInt_lt.mp h1
    refine ⟨⟨fun z => absurd z (by decide), fun z => ?_⟩, ⟨fun z => absurd z (by decide), fun z => ?_⟩, ⟨fun _ => h1, fun _ => by decide⟩⟩
    · subst z; omega
    · have := Int64.lt_iff_toInt_lt.mp z; omega
  · rw [if_neg h1]
    have h2 : ¬ y.toInt < x.toInt := fun z => h1 (Int64.lt_iff_toInt_lt.mpr z)
    by_cases h3 : x = y
    · rw [if_pos h3]
      subst h3
      refine ⟨⟨fun _ => rfl, fun _ => rfl⟩, ⟨fun z => absurd z (by decide), fun z => ?_⟩, ⟨fun z => absurd z (by decide), fun z => absurd z h1⟩⟩
      have := Int64.lt_iff_toInt_lt.mp z; omega
    · rw [if_neg h3]
      have h4 : x.toInt ≠ y.toInt := fun z => h3 (Int64.toInt_inj.mp z)
      exact ⟨⟨fun z => absurd z (by decide), fun z => absurd z h3⟩, ⟨fun _ => Int64.lt_iff_toInt_lt.mpr (by omega), fun _ => by decide⟩, ⟨fun z => absurd z (by decide), fun z => absurd z h1⟩⟩
theorem so_lcmp_eq {j : mK} {tgt : Nat} {off : Int} (F : mFx p s m args c cc nL own D cA ρ fl ro) (hj : ∀ lv st I, j lv st I → mAW p l e R s m args below meth c Qs nL D cA ρ fl acc acs (tgt) lv st I) (hja : acc pc ≤ acc tgt ∧ acs pc ≤ acs tgt) (hk : ∀ lv st I, k lv st I → mAW p l e R s m args below meth c Qs nL D cA ρ fl acc acs (pc + 4) lv st I) (ha : acc pc ≤ acc (pc + 4) ∧ acs pc ≤ acs (pc + 4)) (hd0 : decode cc pc = .ok (.lcmp, 1)) (hd : decode cc (pc + 1) = .ok (.ifCond .eq off, 3)) (ht : ((pc + 1 : Nat) : Int) + off = (tgt : Int)) (h : w_lcmp 0 j k lv st I) : mAW p l e R s m args below meth c Qs nL D cA ρ fl acc acs (pc) lv st I := by
  obtain ⟨hx, hb, hml, hown, hts, hK, hE, hro⟩ := F
  intro H locs ls cells slots hc1 hs1 hP hD hS hl
  rcases st with _ | ⟨v, _ | ⟨w, st⟩⟩
  · exact absurd h id
  · rcases v with y | y | r <;> exact absurd h id
  rcases v with y | y | r <;> first | exact absurd h id | skip
  rcases w with x | x | r <;> first | exact absurd h id | skip
  obtain ⟨⟨h1, h2⟩, hA, hB⟩ := h
  have hi : (lg_cmp (Int64.ofInt x) (Int64.ofInt y) = 0) ↔ mCmp 0 x y := ((lg_if _ _).1).trans (ml_eq h1 h2)
  refine W.lcmp hx hb hd0 ?_
  exact lv_if_eq hx hb hd ht (fun z => (hj _ _ _ (hA (hi.mp z)) H locs ls cells slots (Nat.le_trans hc1 hja.1) (Nat.le_trans hs1 hja.2) hP hD hS hl)) (fun z => (hk _ _ _ (hB (fun w => z (hi.mpr w))) H locs ls cells slots (Nat.le_trans hc1 ha.1) (Nat.le_trans hs1 ha.2) hP hD hS hl))
theorem so_lcmp_ne {j : mK} {tgt : Nat} {off : Int} (F : mFx p s m args c cc nL own D cA ρ fl ro) (hj : ∀ lv st I, j lv st I → mAW p l e R s m args below meth c Qs nL D cA ρ fl acc acs (tgt) lv st I) (hja : acc pc ≤ acc tgt ∧ acs pc ≤ acs tgt) (hk : ∀ lv st I, k lv st I → mAW p l e R s m args below meth c Qs nL D cA ρ fl acc acs (pc + 4) lv st I) (ha : acc pc ≤ acc (pc + 4) ∧ acs pc ≤ acs (pc + 4)) (hd0 : decode cc pc = .ok (.lcmp, 1)) (hd : decode cc (pc + 1) = .ok (.ifCond .ne off, 3)) (ht : ((pc + 1 : Nat) : Int) + off = (tgt : Int)) (h : w_lcmp 1 j k lv st I) : mAW p l e R s m args below meth c Qs nL D cA ρ fl acc acs (pc) lv st I := by
  obtain ⟨hx, hb, hml, hown, hts, hK, hE, hro⟩ := F
  intro H locs ls cells slots hc1 hs1 hP hD hS hl
  rcases st with _ | ⟨v, _ | ⟨w, st⟩⟩
  · exact absurd h id
  · rcases v with y | y | r <;> exact absurd h id
  rcases v with y | y | r <;> first | exact absurd h id | skip
  rcases w with x | x | r <;> first | exact absurd h id | skip
  obtain ⟨⟨h1, h2⟩, hA, hB⟩ := h
  have hi : (¬ lg_cmp (Int64.ofInt x) (Int64.ofInt y) = 0) ↔ mCmp 1 x y := (not_congr (lg_if _ _).1).trans (not_congr (ml_eq h1 h2))
  refine W.lcmp hx hb hd0 ?_
  exact lv_if_ne hx hb hd ht (fun z => (hj _ _ _ (hA (hi.mp z)) H locs ls cells slots (Nat.le_trans hc1 hja.1) (Nat.le_trans hs1 hja.2) hP hD hS hl)) (fun z => (hk _ _ _ (hB (fun w => (hi.mpr w) z)) H locs ls cells slots (Nat.le_trans hc1 ha.1) (Nat.le_trans hs1 ha.2) hP hD hS hl))
theorem so_lcmp_lt {j : mK} {tgt : Nat} {off : Int} (F : mFx p s m args c cc nL own D cA ρ fl ro) (hj : ∀ lv st I, j lv st I → mAW p l e R s m args below meth c Qs nL D cA ρ fl acc acs (tgt) lv st I) (hja : acc pc ≤ acc tgt ∧ acs pc ≤ acs tgt) (hk : ∀ lv st I, k lv st I → mAW p l e R s m args below meth c Qs nL D cA ρ fl acc acs (pc + 4) lv st I) (ha : acc pc ≤ acc (pc + 4) ∧ acs pc ≤ acs (pc + 4)) (hd0 : decode cc pc = .ok (.lcmp, 1)) (hd : decode cc (pc + 1) = .ok (.ifCond .lt off, 3)) (ht : ((pc + 1 : Nat) : Int) + off = (tgt : Int)) (h : w_lcmp 2 j k lv st I) : mAW p l e R s m args below meth c Qs nL D cA ρ fl acc acs (pc) lv st I := by
  obtain ⟨hx, hb, hml, hown, hts, hK, hE, hro⟩ := F
  intro H locs ls cells slots hc1 hs1 hP hD hS hl
  rcases st with _ | ⟨v, _ | ⟨w, st⟩⟩
  · exact absurd h id
  · rcases v with y | y | r <;> exact absurd h id
  rcases v with y | y | r <;> first | exact absurd h id | skip
  rcases w with x | x | r <;> first | exact absurd h id | skip
  obtain ⟨⟨h1, h2⟩, hA, hB⟩ := h
  have hi : (lg_cmp (Int64.ofInt x) (Int64.ofInt y) < 0) ↔ mCmp 2 x y := ((lg_if _ _).2.1).trans (ml_lt h1 h2)
  refine W.lcmp hx hb hd0 ?_
  exact lv_if_lt hx hb hd ht (fun z => (hj _ _ _ (hA (hi.mp z)) H locs ls cells slots (Nat.le_trans hc1 hja.1) (Nat.le_trans hs1 hja.2) hP hD hS hl)) (fun z => (hk _ _ _ (hB (fun w => z (hi.mpr w))) H locs ls cells slots (Nat.le_trans hc1 ha.1) (Nat.le_trans hs1 ha.2) hP hD hS hl))
theorem so_lcmp_ge {j : mK} {tgt : Nat} {off : Int} (F : mFx p s m args c cc nL own D cA ρ fl ro) (hj : ∀ lv st I, j lv st I → mAW p l e R s m args below meth c Qs nL D cA ρ fl acc acs (tgt) lv st I) (hja : acc pc ≤ acc tgt ∧ acs pc ≤ acs tgt) (hk : ∀ lv st I, k lv st I → mAW p l e R s m args below meth c Qs nL D cA ρ fl acc acs (pc + 4) lv st I) (ha : acc pc ≤ acc (pc + 4) ∧ acs pc ≤ acs (pc + 4)) (hd0 : decode cc pc = .ok (.lcmp, 1)) (hd : decode cc (pc + 1) = .ok (.ifCond .ge off, 3)) (ht : ((pc + 1 : Nat) : Int) + off = (tgt : Int)) (h : w_lcmp 3 j k lv st I) : mAW p l e R s m args below meth c Qs nL D cA ρ fl acc acs (pc) lv st I := by
  obtain ⟨hx, hb, hml, hown, hts, hK, hE, hro⟩ := F
  intro H locs ls cells slots hc1 hs1 hP hD hS hl
  rcases st with _ | ⟨v, _ | ⟨w, st⟩⟩
  · exact absurd h id
  · rcases v with y | y | r <;> exact absurd h id
  rcases v with y | y | r <;> first | exact absurd h id | skip
  rcases w with x | x | r <;> first | exact absurd h id | skip
  obtain ⟨⟨h1, h2⟩, hA, hB⟩ := h
  have hi : (0 ≤ lg_cmp (Int64.ofInt x) (Int64.ofInt y)) ↔ mCmp 3 x y := (by rw [← Int32.not_lt, (lg_if _ _).2.1, Int64.not_lt]; exact ml_le h2 h1)
  refine W.lcmp hx hb hd0 ?_
  exact lv_if_ge hx hb hd ht (fun z => (hj _ _ _ (hA (hi.mp z)) H locs ls cells slots (Nat.le_trans hc1 hja.1) (Nat.le_trans hs1 hja.2) hP hD hS hl)) (fun z => (hk _ _ _ (hB (fun w => z (hi.mpr w))) H locs ls cells slots (Nat.le_trans hc1 ha.1) (Nat.le_trans hs1 ha.2) hP hD hS hl))
theorem so_lcmp_gt {j : mK} {tgt : Nat} {off : Int} (F : mFx p s m args c cc nL own D cA ρ fl ro) (hj : ∀ lv st I, j lv st I → mAW p l e R s m args below meth c Qs nL D cA ρ fl acc acs (tgt) lv st I) (hja : acc pc ≤ acc tgt ∧ acs pc ≤ acs tgt) (hk : ∀ lv st I, k lv st I → mAW p l e R s m args below meth c Qs nL D cA ρ fl acc acs (pc + 4) lv st I) (ha : acc pc ≤ acc (pc + 4) ∧ acs pc ≤ acs (pc + 4)) (hd0 : decode cc pc = .ok (.lcmp, 1)) (hd : decode cc (pc + 1) = .ok (.ifCond .gt off, 3)) (ht : ((pc + 1 : Nat) : Int) + off = (tgt : Int)) (h : w_lcmp 4 j k lv st I) : mAW p l e R s m args below meth c Qs nL D cA ρ fl acc acs (pc) lv st I := by
  obtain ⟨hx, hb, hml, hown, hts, hK, hE, hro⟩ := F
  intro H locs ls cells slots hc1 hs1 hP hD hS hl
  rcases st with _ | ⟨v, _ | ⟨w, st⟩⟩
  · exact absurd h id
  · rcases v with y | y | r <;> exact absurd h id
  rcases v with y | y | r <;> first | exact absurd h id | skip
  rcases w with x | x | r <;> first | exact absurd h id | skip
  obtain ⟨⟨h1, h2⟩, hA, hB⟩ := h
  have hi : (0 < lg_cmp (Int64.ofInt x) (Int64.ofInt y)) ↔ mCmp 4 x y := ((lg_if _ _).2.2).trans (ml_lt h2 h1)
  refine W.lcmp hx hb hd0 ?_
  exact lv_if_gt hx hb hd ht (fun z => (hj _ _ _ (hA (hi.mp z)) H locs ls cells slots (Nat.le_trans hc1 hja.1) (Nat.le_trans hs1 hja.2) hP hD hS hl)) (fun z => (hk _ _ _ (hB (fun w => z (hi.mpr w))) H locs ls cells slots (Nat.le_trans hc1 ha.1) (Nat.le_trans hs1 ha.2) hP hD hS hl))
theorem so_lcmp_le {j : mK} {tgt : Nat} {off : Int} (F : mFx p s m args c cc nL own D cA ρ fl ro) (hj : ∀ lv st I, j lv st I → mAW p l e R s m args below meth c Qs nL D cA ρ fl acc acs (tgt) lv st I) (hja : acc pc ≤ acc tgt ∧ acs pc ≤ acs tgt) (hk : ∀ lv st I, k lv st I → mAW p l e R s m args below meth c Qs nL D cA ρ fl acc acs (pc + 4) lv st I) (ha : acc pc ≤ acc (pc + 4) ∧ acs pc ≤ acs (pc + 4)) (hd0 : decode cc pc = .ok (.lcmp, 1)) (hd : decode cc (pc + 1) = .ok (.ifCond .le off, 3)) (ht : ((pc + 1 : Nat) : Int) + off = (tgt : Int)) (h : w_lcmp 5 j k lv st I) : mAW p l e R s m args below meth c Qs nL D cA ρ fl acc acs (pc) lv st I := by
  obtain ⟨hx, hb, hml, hown, hts, hK, hE, hro⟩ := F
  intro H locs ls cells slots hc1 hs1 hP hD hS hl
  rcases st with _ | ⟨v, _ | ⟨w, st⟩⟩
  · exact absurd h id
  · rcases v with y | y | r <;> exact absurd h id
  rcases v with y | y | r <;> first | exact absurd h id | skip
  rcases w with x | x | r <;> first | exact absurd h id | skip
  obtain ⟨⟨h1, h2⟩, hA, hB⟩ := h
  have hi : (lg_cmp (Int64.ofInt x) (Int64.ofInt y) ≤ 0) ↔ mCmp 5 x y := (by rw [← Int32.not_lt, (lg_if _ _).2.2, Int64.not_lt]; exact ml_le h1 h2)
  refine W.lcmp hx hb hd0 ?_
  exact lv_if_le hx hb hd ht (fun z => (hj _ _ _ (hA (hi.mp z)) H locs ls cells slots (Nat.le_trans hc1 hja.1) (Nat.le_trans hs1 hja.2) hP hD hS hl)) (fun z => (hk _ _ _ (hB (fun w => z (hi.mpr w))) H locs ls cells slots (Nat.le_trans hc1 ha.1) (Nat.le_trans hs1 ha.2) hP hD hS hl))
theorem so_goto {j : mK} {tgt : Nat} {off : Int} (F : mFx p s m args c cc nL own D cA ρ fl ro) (hj : ∀ lv st I, j lv st I → mAW p l e R s m args below meth c Qs nL D cA ρ fl acc acs (tgt) lv st I) (hja : acc pc ≤ acc tgt ∧ acs pc ≤ acs tgt) (hd : decode cc pc = .ok (.goto off, 3)) (ht : (pc : Int) + off = (tgt : Int)) (h : j lv st I) : mAW p l e R s m args below meth c Qs nL D cA ρ fl acc acs (pc) lv st I := by
  obtain ⟨hx, hb, hml, hown, hts, hK, hE, hro⟩ := F
  intro H locs ls cells slots hc1 hs1 hP hD hS hl
  exact lv_goto hx hb hd ht (hj _ _ _ (h) H locs ls cells slots (Nat.le_trans hc1 hja.1) (Nat.le_trans hs1 hja.2) hP hD hS hl)
theorem so_ifnull {j : mK} {tgt : Nat} {off : Int} (F : mFx p s m args c cc nL own D cA ρ fl ro) (hj : ∀ lv st I, j lv st I → mAW p l e R s m args below meth c Qs nL D cA ρ fl acc acs (tgt) lv st I) (hja : acc pc ≤ acc tgt ∧ acs pc ≤ acs tgt) (hk : ∀ lv st I, k lv st I → mAW p l e R s m args below meth c Qs nL D cA ρ fl acc acs (pc + 3) lv st I) (ha : acc pc ≤ acc (pc + 3) ∧ acs pc ≤ acs (pc + 3)) (hd : decode cc pc = .ok (.ifnull off, 3)) (ht : (pc : Int) + off = (tgt : Int)) (h : w_nul j k lv st I) : mAW p l e R s m args below meth c Qs nL D cA ρ fl acc acs (pc) lv st I := by
  obtain ⟨hx, hb, hml, hown, hts, hK, hE, hro⟩ := F
  intro H locs ls cells slots hc1 hs1 hP hD hS hl
  rcases st with _ | ⟨v, st⟩
  · exact absurd h id
  rcases v with x | x | _ | i <;> first | exact absurd h id | skip
  · exact lv_ifnullN hx hb hd ht (hj _ _ _ (h) H locs ls cells slots (Nat.le_trans hc1 hja.1) (Nat.le_trans hs1 hja.2) hP hD hS hl)
  · exact lv_ifnull hx hb hd (hk _ _ _ h H locs ls cells slots (Nat.le_trans hc1 ha.1) (Nat.le_trans hs1 ha.2) hP hD hS hl)
theorem so_ifnonnull {j : mK} {tgt : Nat} {off : Int} (F : mFx p s m args c cc nL own D cA ρ fl ro) (hj : ∀ lv st I, j lv st I → mAW p l e R s m args below meth c Qs nL D cA ρ fl acc acs (tgt) lv st I) (hja : acc pc ≤ acc tgt ∧ acs pc ≤ acs tgt) (hk : ∀ lv st I, k lv st I → mAW p l e R s m args below meth c Qs nL D cA ρ fl acc acs (pc + 3) lv st I) (ha : acc pc ≤ acc (pc + 3) ∧ acs pc ≤ acs (pc + 3)) (hd : decode cc pc = .ok (.ifnonnull off, 3)) (ht : (pc : Int) + off = (tgt : Int)) (h : w_nul k j lv st I) : mAW p l e R s m args below meth c Qs nL D cA ρ fl acc acs (pc) lv st I := by
  obtain ⟨hx, hb, hml, hown, hts, hK, hE, hro⟩ := F
  intro H locs ls cells slots hc1 hs1 hP hD hS hl
  rcases st with _ | ⟨v, st⟩
  · exact absurd h id
  rcases v with x | x | _ | i <;> first | exact absurd h id | skip
  · exact lv_ifnonnullN hx hb hd (hk _ _ _ h H locs ls cells slots (Nat.le_trans hc1 ha.1) (Nat.le_trans hs1 ha.2) hP hD hS hl)
  · exact lv_ifnonnull hx hb hd ht (hj _ _ _ (h) H locs ls cells slots (Nat.le_trans hc1 hja.1) (Nat.le_trans hs1 hja.2) hP hD hS hl)
end SO
end MSOUND
