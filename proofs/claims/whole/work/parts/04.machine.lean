section MACH
abbrev mV : Type := Int ⊕ (Int ⊕ Option Nat)
def mI (x : Int) : mV := .inl x
def mL (x : Int) : mV := .inr (.inl x)
def mR (r : Option Nat) : mV := .inr (.inr r)
abbrev mLv : Type := List (Option mV)
abbrev mSt : Type := List mV
/-- the numbers of all cells: by a cell's id and a field's or element's place -/
abbrev mM : Type := Nat → Int → Int
abbrev mO : Type := Option mV ⊕ String
abbrev mK : Type := mLv → mSt → mM → Prop
abbrev mSp : Type := (Nat → Bool) → List mV → mM → (mO → mM → Prop) → Prop
/-- pc, op, number, three places, further places -/
abbrev mIn : Type := Nat × Nat × Int × Nat × Nat × Nat × List Nat
def mrg (x : Int) : Prop := -2147483648 ≤ x ∧ x < 2147483648
def mrl (x : Int) : Prop := -9223372036854775808 ≤ x ∧ x < 9223372036854775808
def mKd : mV → Nat
  | .inl _ => 0
  | .inr (.inl _) => 1
  | .inr (.inr _) => 2
theorem mKd_I (x : Int) : mKd (mI x) = 0 := rfl
theorem mKd_L (x : Int) : mKd (mL x) = 1 := rfl
theorem mKd_R (x : Option Nat) : mKd (mR x) = 2 := rfl
def mIsL : Option mV → Bool
  | some (.inr (.inl _)) => true
  | _ => false
theorem mIsL_n : mIsL none = false := rfl
theorem mIsL_I (x : Int) : mIsL (some (mI x)) = false := rfl
theorem mIsL_R (x : Option Nat) : mIsL (some (mR x)) = false := rfl
theorem mIsL_L (x : Int) : mIsL (some (mL x)) = true := rfl
def mCatV (v : mV) : Nat := if mKd v = 1 then 2 else 1
def mCat : List mV → Nat
  | [] => 0
  | v :: s => mCatV v + mCat s
theorem mCat_n : mCat [] = 0 := rfl
theorem mCat_I (x : Int) (s : List mV) : mCat (mI x :: s) = 1 + mCat s := rfl
theorem mCat_L (x : Int) (s : List mV) : mCat (mL x :: s) = 2 + mCat s := rfl
theorem mCat_R (x : Option Nat) (s : List mV) : mCat (mR x :: s) = 1 + mCat s := rfl
/-- a local is written: a long that ends here is forgotten, a long takes the next place too -/
def mPut (lv : mLv) (a : Nat) (v : mV) : mLv :=
  let l1 := if a = 0 then lv else if mIsL (lv.getD (a - 1) none) = true then lv.set (a - 1) none else lv
  let l2 := l1.set a (some v)
  if mKd v = 1 then l2.set (a + 1) none else l2
/-- which places of the locals are kept -/
def mMask : List Bool → mLv → mLv
  | [], _ => []
  | _, [] => []
  | b :: bs, v :: vs => (if b = true then v else none) :: mMask bs vs
def mTK : List Nat := [11, 24, 25, 20, 20, 20, 20, 20, 0, 0, 8, 4, 7, 2, 20, 20, 20, 20, 20, 20, 20, 20, 20, 20, 20, 20, 20, 20, 0, 0, 8, 4, 7, 2, 20, 20, 20, 20, 20, 20, 20, 20, 20, 20, 20, 20, 20, 20, 0, 0, 8, 4, 7, 2, 20, 20, 20, 20, 20, 20, 20, 20, 20, 20, 20, 20, 20, 20, 0, 0, 8, 4, 7, 2, 20, 20, 20, 20, 20, 20, 20, 20, 20, 20, 20, 20, 20, 20, 0, 0, 0, 0, 0, 0, 0, 0, 0, 0, 0, 0, 6, 21, 4, 0, 0, 20, 20, 20, 20, 20, 20, 0, 0, 0, 0, 0, 0, 0, 0, 0, 1, 20, 20, 20, 20, 20, 20, 20, 0, 0, 10, 0, 0, 0, 0, 0, 0, 0, 0, 0, 3, 20, 20, 20, 20, 20, 20, 20, 20, 20, 20, 0, 0, 0, 0, 0, 0, 0, 0, 0, 5, 20, 20, 0, 0, 0, 0, 0, 0, 0, 9, 23, 9, 23, 9, 23, 9, 23, 0, 0, 0, 0, 0, 0, 0, 0, 0, 0, 0, 0, 0, 0, 0, 0, 0, 0, 0, 0, 0, 0, 12, 20, 20, 22, 20, 20, 20, 20, 20, 23, 23, 20, 20, 20, 20, 20, 20, 20, 23, 0, 0, 0, 0, 0, 0, 0, 0, 0, 0, 0, 23, 0, 0, 0, 0, 0, 0, 0, 0, 0]
def mTN : List Nat := [0, 3, 4, 9, 6, 9, 9, 512, 0, 0, 0, 0, 0, 0, 289, 6, 48, 48, 48, 48, 9, 9, 9, 9, 9, 36, 48, 4, 0, 0, 0, 0, 0, 0, 289, 6, 48, 48, 48, 48, 9, 9, 9, 9, 9, 36, 48, 4, 0, 0, 0, 0, 0, 0, 289, 6, 48, 48, 48, 48, 9, 9, 9, 9, 9, 36, 48, 4, 0, 0, 0, 0, 0, 0, 289, 6, 48, 48, 48, 48, 9, 9, 9, 9, 9, 36, 48, 4, 0, 0, 0, 0, 0, 0, 0, 0, 0, 0, 0, 0, 0, 800, 0, 0, 0, 289, 6, 48, 48, 48, 48, 0, 0, 0, 0, 0, 0, 0, 0, 0, 0, 8, 8, 8, 8, 8, 64, 64, 0, 0, 0, 0, 0, 0, 0, 0, 0, 0, 0, 0, 0, 9, 8, 8, 8, 8, 8, 8, 8, 8, 9, 0, 0, 0, 0, 0, 0, 0, 0, 0, 0, 8, 8, 0, 0, 0, 0, 0, 0, 0, 0, 40, 0, 40, 0, 40, 0, 40, 0, 0, 0, 0, 0, 0, 0, 0, 0, 0, 0, 0, 0, 0, 0, 0, 0, 0, 0, 0, 0, 0, 0, 635, 1905, 3, 800, 550, 2, 9, 9, 8, 8, 9, 9, 512, 6, 6, 4, 4, 160, 0, 0, 0, 0, 0, 0, 0, 0, 0, 0, 0, 1, 0, 0, 0, 0, 0, 0, 0, 0, 0]
def mTA : List Nat := [1, 1, 1, 1, 1, 1, 1, 1, 0, 0, 1, 1, 1, 1, 1, 1, 1, 1, 1, 1, 1, 1, 1, 1, 1, 1, 1, 1, 0, 0, 2, 2, 2, 2, 2, 2, 2, 2, 2, 2, 2, 2, 2, 2, 2, 2, 2, 2, 0, 0, 3, 3, 3, 3, 3, 3, 3, 3, 3, 3, 3, 3, 3, 3, 3, 3, 3, 3, 0, 0, 4, 4, 4, 4, 4, 4, 4, 4, 4, 4, 4, 4, 4, 4, 4, 4, 4, 4, 0, 0, 0, 0, 0, 0, 0, 0, 0, 0, 0, 0, 1, 1, 1, 0, 0, 1, 1, 1, 1, 1, 1, 0, 0, 0, 0, 0, 0, 0, 0, 0, 1, 1, 1, 1, 1, 1, 1, 1, 0, 0, 1, 0, 0, 0, 0, 0, 0, 0, 0, 0, 1, 1, 1, 1, 1, 1, 1, 1, 1, 1, 1, 0, 0, 0, 0, 0, 0, 0, 0, 0, 1, 1, 1, 0, 0, 0, 0, 0, 0, 0, 5, 5, 6, 6, 7, 7, 8, 8, 0, 0, 0, 0, 0, 0, 0, 0, 0, 0, 0, 0, 0, 0, 0, 0, 0, 0, 0, 0, 0, 0, 1, 1, 1, 1, 1, 1, 1, 1, 1, 1, 1, 1, 1, 1, 1, 1, 1, 1, 1, 0, 0, 0, 0, 0, 0, 0, 0, 0, 0, 0, 1, 0, 0, 0, 0, 0, 0, 0, 0, 0]
def mTR : List (List (Option Nat)) := [[some 10, some 1, some 2, some 100, some 120, some 130, some 140, some 160, some 3, some 4, some 5, some 6, some 7], [], [], [], [], [], [], [], [], [], [some 11, some 12, some 13], [none, none, none, none, none, none, some 14, some 15, some 16, some 17, some 18, some 19], [some 20, some 21, some 22, some 23, some 24, some 25], [none, none, none, some 26, some 27], [], [], [], [], [], [], [], [], [], [], [], [], [], [], [], [], [some 31, some 32, some 33], [none, none, none, none, none, none, some 34, some 35, some 36, some 37, some 38, some 39], [some 40, some 41, some 42, some 43, some 44, some 45], [none, none, none, some 46, some 47], [], [], [], [], [], [], [], [], [], [], [], [], [], [], [], [], [some 51, some 52, some 53], [none, none, none, none, none, none, some 54, some 55, some 56, some 57, some 58, some 59], [some 60, some 61, some 62, some 63, some 64, some 65], [none, none, none, some 66, some 67], [], [], [], [], [], [], [], [], [], [], [], [], [], [], [], [], [some 71, some 72, some 73], [none, none, none, none, none, none, some 74, some 75, some 76, some 77, some 78, some 79], [some 80, some 81, some 82, some 83, some 84, some 85], [none, none, none, some 86, some 87], [], [], [], [], [], [], [], [], [], [], [], [], [], [], [], [], [], [], [], [], [], [], [], [], [], [], [some 101, none, some 102], [], [none, none, none, none, none, none, some 105, some 106, some 107, some 108, some 109, some 110], [], [], [], [], [], [], [], [], [], [], [], [], [], [], [], [], [], [none, none, none, some 121, some 122, some 123, some 124, some 125, some 126, some 127], [], [], [], [], [], [], [], [], [], [some 11, some 12, some 120], [], [], [], [], [], [], [], [], [], [some 11, some 12, some 120, some 130, some 141, some 142, some 143, some 144, some 145, some 146, some 147, some 148, some 149, some 150], [], [], [], [], [], [], [], [], [], [], [], [], [], [], [], [], [], [], [], [some 161, some 162], [], [], [], [], [], [], [], [], [], [none, none, some 171], [], [none, none, some 173], [], [none, none, some 175], [], [none, none, some 177], [], [], [], [], [], [], [], [], [], [], [], [], [], [], [], [], [], [], [], [], [], [], [], [some 201, some 202, some 203, none, some 204, some 205, none, none, none, none, none, none, none, none, none, none, none, none, none, some 206, some 207, some 208, some 209, some 210, none, none, none, some 211, some 212, some 213, some 214, some 215, none, some 216, some 217, some 218], [], [], [], [], [], [], [], [], [], [], [], [], [], [], [], [], [], [], [], [], [], [], [], [], [], [], [], [], [], [], [], [], [], [], [], [], [], [], []]
def mTF : List (List Nat) := [[0, 0, 0, 2, 2, 2, 2, 2, 2, 2], [0, 0, 3, 2, 2], [2, 2, 2, 2, 2, 2, 2, 2, 2, 2, 2, 2, 2, 2, 0, 1], [0, 0, 0, 0, 0, 0, 2, 2, 2, 2, 2, 2], [2, 2, 0, 1, 1, 1], [2, 0, 2, 0, 0, 0, 0, 0, 0, 0, 0], [2, 2, 2, 2, 2, 2, 0], [2, 2, 2], [0, 0, 2], [2, 2, 2, 0, 0, 0, 0, 0, 0], [2, 2, 2, 2, 2, 2, 2, 2, 2, 2, 2, 2, 2, 1, 1, 0], [2, 2, 2, 0, 2, 2, 0, 0, 0, 0, 0, 0, 0, 0, 0, 0, 1, 1, 1, 2, 2, 2, 2, 2, 1, 1, 1, 2, 2, 2, 2, 2, 0, 2, 2, 2]]
def sk (i : Nat) : Nat := mTK.getD i 0
def sn (i : Nat) : Nat := mTN.getD i 0
def al (fl : Nat → Bool) (i : Nat) : Bool := match mTA.getD i 0 with
  | 0 => false
  | 1 => true
  | n + 2 => fl n
def RF (fl : Nat → Bool) (i k : Nat) : Option Nat :=
  if i = 1 then (if k < 3 ∧ fl k = true then some (30 + 20 * k) else none)
  else if i = 2 then (if k < 4 ∧ fl (3 + k) = true then some (170 + 2 * k) else none)
  else (mTR.getD i []).getD k none
def fk (c k : Nat) : Nat := (mTF.getD c []).getD k 9
def mSet (I : mM) (i : Nat) (k v : Int) : mM := fun a b => if a = i ∧ b = k then v else I a b
/-- arithmetic of ints, up to 2^32 -/
def ib (a : Nat) (x y : Int) : Int := match a with
  | 0 => x + y
  | 1 => x - y
  | 2 => x * y
  | 3 => (Int32.ofInt x &&& Int32.ofInt y).toInt
  | 4 => (Int32.ofInt x ||| Int32.ofInt y).toInt
  | 5 => (Int32.ofInt x ^^^ Int32.ofInt y).toInt
  | 6 => (Int32.ofInt x <<< (Int32.ofInt y &&& 31)).toInt
  | 7 => (Int32.ofInt x >>> (Int32.ofInt y &&& 31)).toInt
  | _ => ((Int32.ofInt x).toUInt32 >>> ((Int32.ofInt y).toUInt32 &&& Int32.toUInt32 31)).toInt32.toInt
theorem ib_0 (x y : Int) : ib 0 x y = x + y := rfl
theorem ib_1 (x y : Int) : ib 1 x y = x - y := rfl
theorem ib_2 (x y : Int) : ib 2 x y = x * y := rfl
def lb (a : Nat) (x y : Int) : Int := match a with
  | 0 => x + y
  | 1 => x - y
  | 2 => x * y
  | 3 => (Int64.ofInt x &&& Int64.ofInt y).toInt
  | _ => (Int64.ofInt x ||| Int64.ofInt y).toInt
theorem lb_0 (x y : Int) : lb 0 x y = x + y := rfl
theorem lb_1 (x y : Int) : lb 1 x y = x - y := rfl
theorem lb_2 (x y : Int) : lb 2 x y = x * y := rfl
def lsh (a : Nat) (x y : Int) : Int := match a with
  | 0 => (Int64.ofInt x <<< ((Int32.ofInt y).toInt64 &&& 63)).toInt
  | _ => (Int64.ofInt x >>> ((Int32.ofInt y).toInt64 &&& 63)).toInt
def icv (a : Nat) (x : Int) : Int := match a with
  | 0 => (Int32.ofInt x).toInt8.toInt32.toInt
  | 1 => (Int32.ofInt x).toInt16.toInt32.toInt
  | _ => (Int32.ofInt x).toUInt32.toUInt16.toUInt32.toInt32.toInt
def dv (a : Nat) (x y : Int) : Int := match a with
  | 0 => Int.tdiv x y
  | _ => Int.tmod x y
theorem dv_0 (x y : Int) : dv 0 x y = Int.tdiv x y := rfl
theorem dv_1 (x y : Int) : dv 1 x y = Int.tmod x y := rfl
def mCmp (a : Nat) (x y : Int) : Prop := match a with
  | 0 => x = y
  | 1 => x ≠ y
  | 2 => x < y
  | 3 => y ≤ x
  | 4 => y < x
  | _ => x ≤ y
theorem mCmp_0 (x y : Int) : mCmp 0 x y = (x = y) := rfl
theorem mCmp_1 (x y : Int) : mCmp 1 x y = (x ≠ y) := rfl
theorem mCmp_2 (x y : Int) : mCmp 2 x y = (x < y) := rfl
theorem mCmp_3 (x y : Int) : mCmp 3 x y = (y ≤ x) := rfl
theorem mCmp_4 (x y : Int) : mCmp 4 x y = (y < x) := rfl
theorem mCmp_5 (x y : Int) : mCmp 5 x y = (x ≤ y) := rfl
/-- the texts that are read sign by sign -/
def mTx : List (List Int) := [[98, 97, 108, 108], [115, 108, 111, 119], [101, 100, 103, 101], [114, 117, 110], [119, 111, 114, 116, 104], [115, 105, 100, 101], [110, 101, 97, 114], [97, 116], [119, 97, 121], [112, 97, 99, 101], [97, 105, 114], [102, 111, 114]]
def mTxLen (i : Nat) : Nat := (mTx.getD i []).length
def mTxCh (i : Nat) (j : Int) : Int := (mTx.getD i []).getD j.toNat 0
/-- rows that are only read -/
abbrev mRo : Type := Nat → Option (Nat × (Int → Int))
def mRo0 : mRo := fun i => if i = 240 then some (16, fun j => ([0, 1, 1, 2, 1, 2, 1, 1, 0, -1, -1, -2, -1, -2, -1, -1] : List Int).getD j.toNat 0) else if i = 241 then some (16, fun j => ([-1, -2, -1, -1, 0, 1, 1, 2, 1, 2, 1, 1, 0, -1, -1, -2] : List Int).getD j.toNat 0) else none
/-- the classes that are thrown -/
def mEx (a : Nat) : String := match a with
  | 0 => "java/util/NoSuchElementException"
  | 1 => "java/lang/IllegalArgumentException"
  | 2 => "java/lang/IllegalStateException"
  | _ => "java/lang/IndexOutOfBoundsException"
-- what an instruction asks, and what it does: 'k' goes on
def w_ic (x : Int) (k : mK) : mK := fun lv st I => k lv (mI x :: st) I
def w_lc (x : Int) (k : mK) : mK := fun lv st I => k lv (mL x :: st) I
def w_ld (a kd : Nat) (k : mK) : mK := fun lv st I => match lv.getD a none with
  | some v => mKd v = kd ∧ k lv (v :: st) I
  | none => False
def w_st (a kd : Nat) (k : mK) : mK := fun lv st I => match st with
  | v :: s => mKd v = kd ∧ (a + (if kd = 1 then 1 else 0) < lv.length) ∧ k (mPut lv a v) s I
  | _ => False
def w_iinc (a : Nat) (x : Int) (k : mK) : mK := fun lv st I => match lv.getD a none with
  | some (.inl y) => k (mPut lv a (mI (y + x))) st I
  | _ => False
def w_ib (a : Nat) (k : mK) : mK := fun lv st I => match st with
  | .inl y :: .inl x :: s => k lv (mI (ib a x y) :: s) I
  | _ => False
def w_ineg (k : mK) : mK := fun lv st I => match st with
  | .inl x :: s => k lv (mI (-x) :: s) I
  | _ => False
def w_lb (a : Nat) (k : mK) : mK := fun lv st I => match st with
  | .inr (.inl y) :: .inr (.inl x) :: s => k lv (mL (lb a x y) :: s) I
  | _ => False
def w_lneg (k : mK) : mK := fun lv st I => match st with
  | .inr (.inl x) :: s => k lv (mL (-x) :: s) I
  | _ => False
def w_i2l (k : mK) : mK := fun lv st I => match st with
  | .inl x :: s => mrg x ∧ k lv (mL x :: s) I
  | _ => False
def w_l2i (k : mK) : mK := fun lv st I => match st with
  | .inr (.inl x) :: s => k lv (mI x :: s) I
  | _ => False
def w_icv (a : Nat) (k : mK) : mK := fun lv st I => match st with
  | .inl x :: s => k lv (mI (icv a x) :: s) I
  | _ => False
def w_idv (a : Nat) (k : mK) : mK := fun lv st I => match st with
  | .inl y :: .inl x :: s => (mrg x ∧ mrg y ∧ y ≠ 0) ∧ k lv (mI (dv a x y) :: s) I
  | _ => False
def w_ldv (a : Nat) (k : mK) : mK := fun lv st I => match st with
  | .inr (.inl y) :: .inr (.inl x) :: s => (mrl x ∧ mrl y ∧ y ≠ 0) ∧ k lv (mL (dv a x y) :: s) I
  | _ => False
def w_lsh (a : Nat) (k : mK) : mK := fun lv st I => match st with
  | .inl y :: .inr (.inl x) :: s => k lv (mL (lsh a x y) :: s) I
  | _ => False
def w_icmp (a : Nat) (j k : mK) : mK := fun lv st I => match st with
  | .inl y :: .inl x :: s => (mrg x ∧ mrg y) ∧ (mCmp a x y → j lv s I) ∧ (¬ mCmp a x y → k lv s I)
  | _ => False
def w_if (a : Nat) (j k : mK) : mK := fun lv st I => match st with
  | .inl x :: s => mrg x ∧ (mCmp a x 0 → j lv s I) ∧ (¬ mCmp a x 0 → k lv s I)
  | _ => False
def w_lcmp (a : Nat) (j k : mK) : mK := fun lv st I => match st with
  | .inr (.inl y) :: .inr (.inl x) :: s => (mrl x ∧ mrl y) ∧ (mCmp a x y → j lv s I) ∧ (¬ mCmp a x y → k lv s I)
  | _ => False
def w_nul (j k : mK) : mK := fun lv st I => match st with
  | .inr (.inr none) :: s => j lv s I
  | .inr (.inr (some _)) :: s => k lv s I
  | _ => False
def mGet (fl : Nat → Bool) (I : mM) (i b kd : Nat) : mV := match kd with
  | 0 => mI (I i b)
  | 1 => mL (I i b)
  | 2 => mR (RF fl i b)
  | _ => mI (I i b)
def w_get (fl : Nat → Bool) (a b kd : Nat) (k : mK) : mK := fun lv st I => match st with
  | .inr (.inr (some i)) :: s => (sk i = a + 1 ∧ al fl i = true) ∧ k lv (mGet fl I i b kd :: s) I
  | _ => False
def w_put (fl : Nat → Bool) (a b kd : Nat) (k : mK) : mK := fun lv st I => match st with
  | .inl x :: .inr (.inr (some i)) :: s => (sk i = a + 1 ∧ al fl i = true) ∧ (kd = 0 ∨ (kd = 3 ∧ (x = 0 ∨ x = 1))) ∧ k lv s (mSet I i b x)
  | .inr (.inl x) :: .inr (.inr (some i)) :: s => (sk i = a + 1 ∧ al fl i = true) ∧ kd = 1 ∧ k lv s (mSet I i b x)
  | _ => False
def w_ald (fl : Nat → Bool) (ro : mRo) (a : Nat) (k : mK) : mK := fun lv st I => match st with
  | .inl j :: .inr (.inr (some i)) :: s => match ro i with
    | some (n, f) => (a = 20 ∧ 0 ≤ j ∧ j < n) ∧ k lv (mI (f j) :: s) I
    | none => (sk i = a ∧ al fl i = true) ∧ (0 ≤ j ∧ j < sn i) ∧ k lv ((if a = 23 then mL (I i j) else if a < 23 then mI (I i j) else mR (RF fl i j.toNat)) :: s) I
  | _ => False
def w_ast (fl : Nat → Bool) (a : Nat) (k : mK) : mK := fun lv st I => match st with
  | .inl v :: .inl j :: .inr (.inr (some i)) :: s => (sk i = a ∧ al fl i = true) ∧ (0 ≤ j ∧ j < sn i) ∧ (a = 20 ∨ (a = 21 ∧ -128 ≤ v ∧ v < 128) ∨ (a = 22 ∧ (v = 0 ∨ v = 1))) ∧ k lv s (mSet I i j v)
  | .inr (.inl v) :: .inl j :: .inr (.inr (some i)) :: s => (sk i = a ∧ al fl i = true) ∧ (0 ≤ j ∧ j < sn i) ∧ a = 23 ∧ k lv s (mSet I i j v)
  | _ => False
def w_len (fl : Nat → Bool) (ro : mRo) (k : mK) : mK := fun lv st I => match st with
  | .inr (.inr (some i)) :: s => match ro i with
    | some (n, _) => k lv (mI n :: s) I
    | none => (20 ≤ sk i ∧ sk i ≤ 25 ∧ al fl i = true) ∧ k lv (mI (sn i) :: s) I
  | _ => False
def w_dup (k : mK) : mK := fun lv st I => match st with
  | v :: s => (mKd v = 0 ∨ mKd v = 2) ∧ k lv (v :: v :: s) I
  | _ => False
def w_dup2 (k : mK) : mK := fun lv st I => match st with
  | v :: u :: s => (mKd v = 0 ∨ mKd v = 2) ∧ (mKd u = 0 ∨ mKd u = 2) ∧ k lv (v :: u :: v :: u :: s) I
  | _ => False
def w_pop (k : mK) : mK := fun lv st I => match st with
  | v :: s => (mKd v = 0 ∨ mKd v = 2) ∧ k lv s I
  | _ => False
def mSw (J : Nat → mK) (lv : mLv) (s : mSt) (I : mM) (y : Int) (d : Nat) : Int → List Nat → Prop
  | _, [] => J d lv s I
  | x, t :: ts => (y = x → J t lv s I) ∧ (¬ y = x → mSw J lv s I y d (x + 1) ts)
def w_sw (J : Nat → mK) (x : Int) (d : Nat) (ts : List Nat) : mK := fun lv st I => match st with
  | .inl y :: s => mrg y ∧ mSw J lv s I y d x ts
  | _ => False
/-- a call: n arguments from the stack; the receiver, if there is one, is an object of class cl -/
def w_call (fl : Nat → Bool) (S : Nat → mSp) (X : String → mLv → mM → Prop) (a n : Nat) (rc : Option Nat) (k : mK) : mK := fun lv st I =>
  n ≤ st.length ∧ mCat (st.drop n) ≤ 8 ∧
  (match rc with
    | none => True
    | some cl => match (st.take n).reverse with
      | .inr (.inr (some i)) :: _ => sk i = cl + 1 ∧ al fl i = true
      | _ => False) ∧
  S a fl (st.take n).reverse I (fun o I' => match o with
    | .inl (some v) => k lv (v :: st.drop n) I'
    | .inl none => k lv (st.drop n) I'
    | .inr E => X E lv I')
def w_ret (a : Nat) (Q : mO → mM → Prop) : mK := fun _ st I => match a with
  | 0 => st = [] ∧ Q (.inl none) I
  | 1 => match st with
    | [.inl x] => Q (.inl (some (mI x))) I
    | _ => False
  | 2 => match st with
    | [.inr (.inl x)] => Q (.inl (some (mL x))) I
    | _ => False
  | 3 => match st with
    | [.inr (.inr r)] => Q (.inl (some (mR r))) I
    | _ => False
  | _ => match st with
    | [.inl x] => (x = 0 ∨ x = 1) ∧ Q (.inl (some (mI x))) I
    | _ => False
def w_txl (k : mK) : mK := fun lv st I => match st with
  | .inr (.inr (some i)) :: s => (250 ≤ i ∧ i < 250 + mTx.length) ∧ mCat s ≤ 8 ∧ k lv (mI (mTxLen (i - 250)) :: s) I
  | _ => False
def w_txc (k : mK) : mK := fun lv st I => match st with
  | .inl j :: .inr (.inr (some i)) :: s => (250 ≤ i ∧ i < 250 + mTx.length) ∧ (0 ≤ j ∧ j < mTxLen (i - 250)) ∧ mCat s ≤ 8 ∧ k lv (mI (mTxCh (i - 250) j) :: s) I
  | _ => False
def w_mth (a : Nat) (k : mK) : mK := fun lv st I => match a with
  | 0 => match st with
    | .inl y :: .inl x :: s => (mrg x ∧ mrg y) ∧ mCat s ≤ 8 ∧ k lv (mI (max x y) :: s) I
    | _ => False
  | 1 => match st with
    | .inl y :: .inl x :: s => (mrg x ∧ mrg y) ∧ mCat s ≤ 8 ∧ k lv (mI (min x y) :: s) I
    | _ => False
  | 2 => match st with
    | .inl x :: s => (mrg x ∧ x ≠ -2147483648) ∧ mCat s ≤ 8 ∧ k lv (mI (if 0 ≤ x then x else -x) :: s) I
    | _ => False
  | _ => match st with
    | .inr (.inl y) :: .inr (.inl x) :: s => (mrl x ∧ mrl y) ∧ mCat s ≤ 8 ∧ k lv (mL (max x y) :: s) I
    | _ => False
/-- System.arraycopy of ints, from one row into another -/
def mCpy (I : mM) (i j : Nat) (sp dp n : Int) : mM := fun a b => if a = j ∧ dp ≤ b ∧ b < dp + n then I i (sp + (b - dp)) else I a b
def w_cpy (fl : Nat → Bool) (k : mK) : mK := fun lv st I => match st with
  | .inl n :: .inl dp :: .inr (.inr (some j)) :: .inl sp :: .inr (.inr (some i)) :: s =>
    (sk i = 20 ∧ al fl i = true) ∧ (sk j = 20 ∧ al fl j = true) ∧ (0 ≤ sp ∧ 0 ≤ dp ∧ 0 ≤ n ∧ sp + n ≤ sn i ∧ dp + n ≤ sn j) ∧ mCat s ≤ 8 ∧ k lv s (mCpy I i j sp dp n)
  | _ => False
/-- one instruction -/
def mStep (S : Nat → mSp) (J : Nat → mK) (Q : mO → mM → Prop) (X : String → mLv → mM → Prop) (fl : Nat → Bool) (ro : mRo) (q : mIn) (k : mK) : mK :=
  match q with
  | (_, op, x, a, b, c, ts) => match op with
    | 0 => w_ic x k
    | 1 => w_lc x k
    | 2 => w_ld a 0 k
    | 3 => w_ld a 1 k
    | 4 => w_ld a 2 k
    | 5 => w_st a 0 k
    | 6 => w_st a 1 k
    | 7 => w_st a 2 k
    | 8 => w_iinc a x k
    | 9 => w_ib a k
    | 10 => w_ineg k
    | 11 => w_lb a k
    | 12 => w_lneg k
    | 13 => w_i2l k
    | 14 => w_l2i k
    | 15 => w_icv a k
    | 16 => w_idv a k
    | 17 => w_ldv a k
    | 18 => w_lsh a k
    | 19 => w_icmp a (J b) k
    | 20 => w_if a (J b) k
    | 21 => w_lcmp a (J b) k
    | 22 => J b
    | 23 => if a = 0 then w_nul (J b) k else w_nul k (J b)
    | 24 => w_get fl a b (fk a b) k
    | 25 => w_put fl a b (fk a b) k
    | 26 => w_ald fl ro a k
    | 27 => w_ast fl a k
    | 28 => w_len fl ro k
    | 29 => w_dup k
    | 30 => w_dup2 k
    | 31 => w_pop k
    | 32 => w_call fl S X a b (if x = 0 ∨ x = 2 then some (ts.getD 0 99) else none) k
    | 33 => w_ret a Q
    | 34 => w_sw J x b ts
    | 35 => fun lv st I => st = [] ∧ X (mEx a) lv I
    | 36 => fun lv st I => k lv (mR (some (240 + a)) :: st) I
    | 37 => fun lv st I => k lv (mR (some (250 + a)) :: st) I
    | 38 => w_txl k
    | 39 => w_txc k
    | 40 => w_mth a k
    | 41 => w_cpy fl k
    | 42 => fun lv st I => k lv (mR none :: st) I
    | 43 => J b
    | _ => fun _ _ _ => False
def mWp (S : Nat → mSp) (J : Nat → mK) (Q : mO → mM → Prop) (X : String → mLv → mM → Prop) (fl : Nat → Bool) (ro : mRo) : List mIn → mK
  | [] => fun _ _ _ => False
  | q :: r => mStep S J Q X fl ro q (mWp S J Q X fl ro r)
end MACH
section MEQ
variable {S : Nat → mSp} {J : Nat → mK} {Q : mO → mM → Prop} {X : String → mLv → mM → Prop} {fl : Nat → Bool} {ro : mRo} {r : List mIn} {lv : mLv} {st : mSt} {I : mM} {pc a b c : Nat} {x : Int} {ts : List Nat}
theorem wp_ic  : mWp S J Q X fl ro ((pc, 0, x, a, b, c, ts) :: r) lv st I = mWp S J Q X fl ro r lv (mI x :: st) I := rfl
theorem wp_lc  : mWp S J Q X fl ro ((pc, 1, x, a, b, c, ts) :: r) lv st I = mWp S J Q X fl ro r lv (mL x :: st) I := rfl
theorem wp_ld_i  : mWp S J Q X fl ro ((pc, 2, x, a, b, c, ts) :: r) lv st I = (w_ld a 0 (mWp S J Q X fl ro r) lv st I) := rfl
theorem wp_st_i {y : Int} : mWp S J Q X fl ro ((pc, 5, x, a, b, c, ts) :: r) lv (mI y :: st) I = (w_st a 0 (mWp S J Q X fl ro r) lv (mI y :: st) I) := rfl
theorem wp_ld_l  : mWp S J Q X fl ro ((pc, 3, x, a, b, c, ts) :: r) lv st I = (w_ld a 1 (mWp S J Q X fl ro r) lv st I) := rfl
theorem wp_st_l {y : Int} : mWp S J Q X fl ro ((pc, 6, x, a, b, c, ts) :: r) lv (mL y :: st) I = (w_st a 1 (mWp S J Q X fl ro r) lv (mL y :: st) I) := rfl
theorem wp_ld_a  : mWp S J Q X fl ro ((pc, 4, x, a, b, c, ts) :: r) lv st I = (w_ld a 2 (mWp S J Q X fl ro r) lv st I) := rfl
theorem wp_st_a {y : Option Nat} : mWp S J Q X fl ro ((pc, 7, x, a, b, c, ts) :: r) lv (mR y :: st) I = (w_st a 2 (mWp S J Q X fl ro r) lv (mR y :: st) I) := rfl
theorem wp_iinc  : mWp S J Q X fl ro ((pc, 8, x, a, b, c, ts) :: r) lv st I = (w_iinc a x (mWp S J Q X fl ro r) lv st I) := rfl
theorem wp_ib {y z : Int} : mWp S J Q X fl ro ((pc, 9, x, a, b, c, ts) :: r) lv (mI y :: mI z :: st) I = mWp S J Q X fl ro r lv (mI (ib a z y) :: st) I := rfl
theorem wp_ineg {y : Int} : mWp S J Q X fl ro ((pc, 10, x, a, b, c, ts) :: r) lv (mI y :: st) I = mWp S J Q X fl ro r lv (mI (-y) :: st) I := rfl
theorem wp_lb {y z : Int} : mWp S J Q X fl ro ((pc, 11, x, a, b, c, ts) :: r) lv (mL y :: mL z :: st) I = mWp S J Q X fl ro r lv (mL (lb a z y) :: st) I := rfl
theorem wp_lneg {y : Int} : mWp S J Q X fl ro ((pc, 12, x, a, b, c, ts) :: r) lv (mL y :: st) I = mWp S J Q X fl ro r lv (mL (-y) :: st) I := rfl
theorem wp_i2l {y : Int} : mWp S J Q X fl ro ((pc, 13, x, a, b, c, ts) :: r) lv (mI y :: st) I = (mrg y ∧ mWp S J Q X fl ro r lv (mL y :: st) I) := rfl
theorem wp_l2i {y : Int} : mWp S J Q X fl ro ((pc, 14, x, a, b, c, ts) :: r) lv (mL y :: st) I = mWp S J Q X fl ro r lv (mI y :: st) I := rfl
theorem wp_icv {y : Int} : mWp S J Q X fl ro ((pc, 15, x, a, b, c, ts) :: r) lv (mI y :: st) I = mWp S J Q X fl ro r lv (mI (icv a y) :: st) I := rfl
theorem wp_idv {y z : Int} : mWp S J Q X fl ro ((pc, 16, x, a, b, c, ts) :: r) lv (mI y :: mI z :: st) I = ((mrg z ∧ mrg y ∧ y ≠ 0) ∧ mWp S J Q X fl ro r lv (mI (dv a z y) :: st) I) := rfl
theorem wp_ldv {y z : Int} : mWp S J Q X fl ro ((pc, 17, x, a, b, c, ts) :: r) lv (mL y :: mL z :: st) I = ((mrl z ∧ mrl y ∧ y ≠ 0) ∧ mWp S J Q X fl ro r lv (mL (dv a z y) :: st) I) := rfl
theorem wp_lsh {y z : Int} : mWp S J Q X fl ro ((pc, 18, x, a, b, c, ts) :: r) lv (mI y :: mL z :: st) I = mWp S J Q X fl ro r lv (mL (lsh a z y) :: st) I := rfl
theorem wp_icmp {y z : Int} : mWp S J Q X fl ro ((pc, 19, x, a, b, c, ts) :: r) lv (mI y :: mI z :: st) I = ((mrg z ∧ mrg y) ∧ (mCmp a z y → J b lv st I) ∧ (¬ mCmp a z y → mWp S J Q X fl ro r lv st I)) := rfl
theorem wp_if {z : Int} : mWp S J Q X fl ro ((pc, 20, x, a, b, c, ts) :: r) lv (mI z :: st) I = (mrg z ∧ (mCmp a z 0 → J b lv st I) ∧ (¬ mCmp a z 0 → mWp S J Q X fl ro r lv st I)) := rfl
theorem wp_lcmp {y z : Int} : mWp S J Q X fl ro ((pc, 21, x, a, b, c, ts) :: r) lv (mL y :: mL z :: st) I = ((mrl z ∧ mrl y) ∧ (mCmp a z y → J b lv st I) ∧ (¬ mCmp a z y → mWp S J Q X fl ro r lv st I)) := rfl
theorem wp_goto  : mWp S J Q X fl ro ((pc, 22, x, a, b, c, ts) :: r) lv st I = J b lv st I := rfl
theorem wp_nulN  : mWp S J Q X fl ro ((pc, 23, x, 0, b, c, ts) :: r) lv (mR none :: st) I = J b lv st I := rfl
theorem wp_nulS {i : Nat} : mWp S J Q X fl ro ((pc, 23, x, 0, b, c, ts) :: r) lv (mR (some i) :: st) I = mWp S J Q X fl ro r lv st I := rfl
theorem wp_nnlN  : mWp S J Q X fl ro ((pc, 23, x, 1, b, c, ts) :: r) lv (mR none :: st) I = mWp S J Q X fl ro r lv st I := rfl
theorem wp_nnlS {i : Nat} : mWp S J Q X fl ro ((pc, 23, x, 1, b, c, ts) :: r) lv (mR (some i) :: st) I = J b lv st I := rfl
theorem wp_get {i : Nat} : mWp S J Q X fl ro ((pc, 24, x, a, b, c, ts) :: r) lv (mR (some i) :: st) I = ((sk i = a + 1 ∧ al fl i = true) ∧ mWp S J Q X fl ro r lv (mGet fl I i b (fk a b) :: st) I) := rfl
theorem wp_putI {i : Nat} {y : Int} : mWp S J Q X fl ro ((pc, 25, x, a, b, c, ts) :: r) lv (mI y :: mR (some i) :: st) I = ((sk i = a + 1 ∧ al fl i = true) ∧ (fk a b = 0 ∨ (fk a b = 3 ∧ (y = 0 ∨ y = 1))) ∧ mWp S J Q X fl ro r lv st (mSet I i b y)) := rfl
theorem wp_putL {i : Nat} {y : Int} : mWp S J Q X fl ro ((pc, 25, x, a, b, c, ts) :: r) lv (mL y :: mR (some i) :: st) I = ((sk i = a + 1 ∧ al fl i = true) ∧ fk a b = 1 ∧ mWp S J Q X fl ro r lv st (mSet I i b y)) := rfl
theorem wp_ald  : mWp S J Q X fl ro ((pc, 26, x, a, b, c, ts) :: r) lv st I = (w_ald fl ro a (mWp S J Q X fl ro r) lv st I) := rfl
theorem wp_astI {i : Nat} {y j : Int} : mWp S J Q X fl ro ((pc, 27, x, a, b, c, ts) :: r) lv (mI y :: mI j :: mR (some i) :: st) I = ((sk i = a ∧ al fl i = true) ∧ (0 ≤ j ∧ j < sn i) ∧ (a = 20 ∨ (a = 21 ∧ -128 ≤ y ∧ y < 128) ∨ (a = 22 ∧ (y = 0 ∨ y = 1))) ∧ mWp S J Q X fl ro r lv st (mSet I i j y)) := rfl
theorem wp_astL {i : Nat} {y j : Int} : mWp S J Q X fl ro ((pc, 27, x, a, b, c, ts) :: r) lv (mL y :: mI j :: mR (some i) :: st) I = ((sk i = a ∧ al fl i = true) ∧ (0 ≤ j ∧ j < sn i) ∧ a = 23 ∧ mWp S J Q X fl ro r lv st (mSet I i j y)) := rfl
theorem wp_len  : mWp S J Q X fl ro ((pc, 28, x, a, b, c, ts) :: r) lv st I = (w_len fl ro (mWp S J Q X fl ro r) lv st I) := rfl
theorem wp_dupI {y : Int} : mWp S J Q X fl ro ((pc, 29, x, a, b, c, ts) :: r) lv (mI y :: st) I = (w_dup (mWp S J Q X fl ro r) lv (mI y :: st) I) := rfl
theorem wp_dupR {y : Option Nat} : mWp S J Q X fl ro ((pc, 29, x, a, b, c, ts) :: r) lv (mR y :: st) I = (w_dup (mWp S J Q X fl ro r) lv (mR y :: st) I) := rfl
theorem wp_dup2  : mWp S J Q X fl ro ((pc, 30, x, a, b, c, ts) :: r) lv st I = (w_dup2 (mWp S J Q X fl ro r) lv st I) := rfl
theorem wp_pop  : mWp S J Q X fl ro ((pc, 31, x, a, b, c, ts) :: r) lv st I = (w_pop (mWp S J Q X fl ro r) lv st I) := rfl
theorem wp_callV1_0 {i : Nat} {q : Nat} : mWp S J Q X fl ro ((pc, 32, 0, a, 1, c, q :: ts) :: r) lv (mR (some i) :: st) I = (1 ≤ (mR (some i) :: st).length ∧ mCat st ≤ 8 ∧ (sk i = q + 1 ∧ al fl i = true) ∧ S a fl [mR (some i)] I (fun o I' => match o with | .inl (some v) => mWp S J Q X fl ro r lv (v :: st) I' | .inl none => mWp S J Q X fl ro r lv st I' | .inr E => X E lv I')) := rfl
theorem wp_callV1_2 {i : Nat} {q : Nat} : mWp S J Q X fl ro ((pc, 32, 2, a, 1, c, q :: ts) :: r) lv (mR (some i) :: st) I = (1 ≤ (mR (some i) :: st).length ∧ mCat st ≤ 8 ∧ (sk i = q + 1 ∧ al fl i = true) ∧ S a fl [mR (some i)] I (fun o I' => match o with | .inl (some v) => mWp S J Q X fl ro r lv (v :: st) I' | .inl none => mWp S J Q X fl ro r lv st I' | .inr E => X E lv I')) := rfl
theorem wp_callV2_0 {i : Nat} {v1 : mV} {q : Nat} : mWp S J Q X fl ro ((pc, 32, 0, a, 2, c, q :: ts) :: r) lv (v1 :: mR (some i) :: st) I = (2 ≤ (v1 :: mR (some i) :: st).length ∧ mCat st ≤ 8 ∧ (sk i = q + 1 ∧ al fl i = true) ∧ S a fl [mR (some i), v1] I (fun o I' => match o with | .inl (some v) => mWp S J Q X fl ro r lv (v :: st) I' | .inl none => mWp S J Q X fl ro r lv st I' | .inr E => X E lv I')) := rfl
theorem wp_callV2_2 {i : Nat} {v1 : mV} {q : Nat} : mWp S J Q X fl ro ((pc, 32, 2, a, 2, c, q :: ts) :: r) lv (v1 :: mR (some i) :: st) I = (2 ≤ (v1 :: mR (some i) :: st).length ∧ mCat st ≤ 8 ∧ (sk i = q + 1 ∧ al fl i = true) ∧ S a fl [mR (some i), v1] I (fun o I' => match o with | .inl (some v) => mWp S J Q X fl ro r lv (v :: st) I' | .inl none => mWp S J Q X fl ro r lv st I' | .inr E => X E lv I')) := rfl
theorem wp_callV3_0 {i : Nat} {v1 v2 : mV} {q : Nat} : mWp S J Q X fl ro ((pc, 32, 0, a, 3, c, q :: ts) :: r) lv (v2 :: v1 :: mR (some i) :: st) I = (3 ≤ (v2 :: v1 :: mR (some i) :: st).length ∧ mCat st ≤ 8 ∧ (sk i = q + 1 ∧ al fl i = true) ∧ S a fl [mR (some i), v1, v2] I (fun o I' => match o with | .inl (some v) => mWp S J Q X fl ro r lv (v :: st) I' | .inl none => mWp S J Q X fl ro r lv st I' | .inr E => X E lv I')) := rfl
theorem wp_callV3_2 {i : Nat} {v1 v2 : mV} {q : Nat} : mWp S J Q X fl ro ((pc, 32, 2, a, 3, c, q :: ts) :: r) lv (v2 :: v1 :: mR (some i) :: st) I = (3 ≤ (v2 :: v1 :: mR (some i) :: st).length ∧ mCat st ≤ 8 ∧ (sk i = q + 1 ∧ al fl i = true) ∧ S a fl [mR (some i), v1, v2] I (fun o I' => match o with | .inl (some v) => mWp S J Q X fl ro r lv (v :: st) I' | .inl none => mWp S J Q X fl ro r lv st I' | .inr E => X E lv I')) := rfl
theorem wp_callV4_0 {i : Nat} {v1 v2 v3 : mV} {q : Nat} : mWp S J Q X fl ro ((pc, 32, 0, a, 4, c, q :: ts) :: r) lv (v3 :: v2 :: v1 :: mR (some i) :: st) I = (4 ≤ (v3 :: v2 :: v1 :: mR (some i) :: st).length ∧ mCat st ≤ 8 ∧ (sk i = q + 1 ∧ al fl i = true) ∧ S a fl [mR (some i), v1, v2, v3] I (fun o I' => match o with | .inl (some v) => mWp S J Q X fl ro r lv (v :: st) I' | .inl none => mWp S J Q X fl ro r lv st I' | .inr E => X E lv I')) := rfl
theorem wp_callV4_2 {i : Nat} {v1 v2 v3 : mV} {q : Nat} : mWp S J Q X fl ro ((pc, 32, 2, a, 4, c, q :: ts) :: r) lv (v3 :: v2 :: v1 :: mR (some i) :: st) I = (4 ≤ (v3 :: v2 :: v1 :: mR (some i) :: st).length ∧ mCat st ≤ 8 ∧ (sk i = q + 1 ∧ al fl i = true) ∧ S a fl [mR (some i), v1, v2, v3] I (fun o I' => match o with | .inl (some v) => mWp S J Q X fl ro r lv (v :: st) I' | .inl none => mWp S J Q X fl ro r lv st I' | .inr E => X E lv I')) := rfl
theorem wp_callV5_0 {i : Nat} {v1 v2 v3 v4 : mV} {q : Nat} : mWp S J Q X fl ro ((pc, 32, 0, a, 5, c, q :: ts) :: r) lv (v4 :: v3 :: v2 :: v1 :: mR (some i) :: st) I = (5 ≤ (v4 :: v3 :: v2 :: v1 :: mR (some i) :: st).length ∧ mCat st ≤ 8 ∧ (sk i = q + 1 ∧ al fl i = true) ∧ S a fl [mR (some i), v1, v2, v3, v4] I (fun o I' => match o with | .inl (some v) => mWp S J Q X fl ro r lv (v :: st) I' | .inl none => mWp S J Q X fl ro r lv st I' | .inr E => X E lv I')) := rfl
theorem wp_callV5_2 {i : Nat} {v1 v2 v3 v4 : mV} {q : Nat} : mWp S J Q X fl ro ((pc, 32, 2, a, 5, c, q :: ts) :: r) lv (v4 :: v3 :: v2 :: v1 :: mR (some i) :: st) I = (5 ≤ (v4 :: v3 :: v2 :: v1 :: mR (some i) :: st).length ∧ mCat st ≤ 8 ∧ (sk i = q + 1 ∧ al fl i = true) ∧ S a fl [mR (some i), v1, v2, v3, v4] I (fun o I' => match o with | .inl (some v) => mWp S J Q X fl ro r lv (v :: st) I' | .inl none => mWp S J Q X fl ro r lv st I' | .inr E => X E lv I')) := rfl
theorem wp_callV6_0 {i : Nat} {v1 v2 v3 v4 v5 : mV} {q : Nat} : mWp S J Q X fl ro ((pc, 32, 0, a, 6, c, q :: ts) :: r) lv (v5 :: v4 :: v3 :: v2 :: v1 :: mR (some i) :: st) I = (6 ≤ (v5 :: v4 :: v3 :: v2 :: v1 :: mR (some i) :: st).length ∧ mCat st ≤ 8 ∧ (sk i = q + 1 ∧ al fl i = true) ∧ S a fl [mR (some i), v1, v2, v3, v4, v5] I (fun o I' => match o with | .inl (some v) => mWp S J Q X fl ro r lv (v :: st) I' | .inl none => mWp S J Q X fl ro r lv st I' | .inr E => X E lv I')) := rfl
theorem wp_callV6_2 {i : Nat} {v1 v2 v3 v4 v5 : mV} {q : Nat} : mWp S J Q X fl ro ((pc, 32, 2, a, 6, c, q :: ts) :: r) lv (v5 :: v4 :: v3 :: v2 :: v1 :: mR (some i) :: st) I = (6 ≤ (v5 :: v4 :: v3 :: v2 :: v1 :: mR (some i) :: st).length ∧ mCat st ≤ 8 ∧ (sk i = q + 1 ∧ al fl i = true) ∧ S a fl [mR (some i), v1, v2, v3, v4, v5] I (fun o I' => match o with | .inl (some v) => mWp S J Q X fl ro r lv (v :: st) I' | .inl none => mWp S J Q X fl ro r lv st I' | .inr E => X E lv I')) := rfl
theorem wp_callV7_0 {i : Nat} {v1 v2 v3 v4 v5 v6 : mV} {q : Nat} : mWp S J Q X fl ro ((pc, 32, 0, a, 7, c, q :: ts) :: r) lv (v6 :: v5 :: v4 :: v3 :: v2 :: v1 :: mR (some i) :: st) I = (7 ≤ (v6 :: v5 :: v4 :: v3 :: v2 :: v1 :: mR (some i) :: st).length ∧ mCat st ≤ 8 ∧ (sk i = q + 1 ∧ al fl i = true) ∧ S a fl [mR (some i), v1, v2, v3, v4, v5, v6] I (fun o I' => match o with | .inl (some v) => mWp S J Q X fl ro r lv (v :: st) I' | .inl none => mWp S J Q X fl ro r lv st I' | .inr E => X E lv I')) := rfl
theorem wp_callV7_2 {i : Nat} {v1 v2 v3 v4 v5 v6 : mV} {q : Nat} : mWp S J Q X fl ro ((pc, 32, 2, a, 7, c, q :: ts) :: r) lv (v6 :: v5 :: v4 :: v3 :: v2 :: v1 :: mR (some i) :: st) I = (7 ≤ (v6 :: v5 :: v4 :: v3 :: v2 :: v1 :: mR (some i) :: st).length ∧ mCat st ≤ 8 ∧ (sk i = q + 1 ∧ al fl i = true) ∧ S a fl [mR (some i), v1, v2, v3, v4, v5, v6] I (fun o I' => match o with | .inl (some v) => mWp S J Q X fl ro r lv (v :: st) I' | .inl none => mWp S J Q X fl ro r lv st I' | .inr E => X E lv I')) := rfl
theorem wp_callS0_1  : mWp S J Q X fl ro ((pc, 32, 1, a, 0, c, ts) :: r) lv st I = (0 ≤ st.length ∧ mCat st ≤ 8 ∧ True ∧ S a fl [] I (fun o I' => match o with | .inl (some v) => mWp S J Q X fl ro r lv (v :: st) I' | .inl none => mWp S J Q X fl ro r lv st I' | .inr E => X E lv I')) := rfl
theorem wp_callS0_3  : mWp S J Q X fl ro ((pc, 32, 3, a, 0, c, ts) :: r) lv st I = (0 ≤ st.length ∧ mCat st ≤ 8 ∧ True ∧ S a fl [] I (fun o I' => match o with | .inl (some v) => mWp S J Q X fl ro r lv (v :: st) I' | .inl none => mWp S J Q X fl ro r lv st I' | .inr E => X E lv I')) := rfl
theorem wp_callS1_1 {v0 : mV} : mWp S J Q X fl ro ((pc, 32, 1, a, 1, c, ts) :: r) lv (v0 :: st) I = (1 ≤ (v0 :: st).length ∧ mCat st ≤ 8 ∧ True ∧ S a fl [v0] I (fun o I' => match o with | .inl (some v) => mWp S J Q X fl ro r lv (v :: st) I' | .inl none => mWp S J Q X fl ro r lv st I' | .inr E => X E lv I')) := rfl
theorem wp_callS1_3 {v0 : mV} : mWp S J Q X fl ro ((pc, 32, 3, a, 1, c, ts) :: r) lv (v0 :: st) I = (1 ≤ (v0 :: st).length ∧ mCat st ≤ 8 ∧ True ∧ S a fl [v0] I (fun o I' => match o with | .inl (some v) => mWp S J Q X fl ro r lv (v :: st) I' | .inl none => mWp S J Q X fl ro r lv st I' | .inr E => X E lv I')) := rfl
theorem wp_callS2_1 {v0 v1 : mV} : mWp S J Q X fl ro ((pc, 32, 1, a, 2, c, ts) :: r) lv (v1 :: v0 :: st) I = (2 ≤ (v1 :: v0 :: st).length ∧ mCat st ≤ 8 ∧ True ∧ S a fl [v0, v1] I (fun o I' => match o with | .inl (some v) => mWp S J Q X fl ro r lv (v :: st) I' | .inl none => mWp S J Q X fl ro r lv st I' | .inr E => X E lv I')) := rfl
theorem wp_callS2_3 {v0 v1 : mV} : mWp S J Q X fl ro ((pc, 32, 3, a, 2, c, ts) :: r) lv (v1 :: v0 :: st) I = (2 ≤ (v1 :: v0 :: st).length ∧ mCat st ≤ 8 ∧ True ∧ S a fl [v0, v1] I (fun o I' => match o with | .inl (some v) => mWp S J Q X fl ro r lv (v :: st) I' | .inl none => mWp S J Q X fl ro r lv st I' | .inr E => X E lv I')) := rfl
theorem wp_callS3_1 {v0 v1 v2 : mV} : mWp S J Q X fl ro ((pc, 32, 1, a, 3, c, ts) :: r) lv (v2 :: v1 :: v0 :: st) I = (3 ≤ (v2 :: v1 :: v0 :: st).length ∧ mCat st ≤ 8 ∧ True ∧ S a fl [v0, v1, v2] I (fun o I' => match o with | .inl (some v) => mWp S J Q X fl ro r lv (v :: st) I' | .inl none => mWp S J Q X fl ro r lv st I' | .inr E => X E lv I')) := rfl
theorem wp_callS3_3 {v0 v1 v2 : mV} : mWp S J Q X fl ro ((pc, 32, 3, a, 3, c, ts) :: r) lv (v2 :: v1 :: v0 :: st) I = (3 ≤ (v2 :: v1 :: v0 :: st).length ∧ mCat st ≤ 8 ∧ True ∧ S a fl [v0, v1, v2] I (fun o I' => match o with | .inl (some v) => mWp S J Q X fl ro r lv (v :: st) I' | .inl none => mWp S J Q X fl ro r lv st I' | .inr E => X E lv I')) := rfl
theorem wp_callS4_1 {v0 v1 v2 v3 : mV} : mWp S J Q X fl ro ((pc, 32, 1, a, 4, c, ts) :: r) lv (v3 :: v2 :: v1 :: v0 :: st) I = (4 ≤ (v3 :: v2 :: v1 :: v0 :: st).length ∧ mCat st ≤ 8 ∧ True ∧ S a fl [v0, v1, v2, v3] I (fun o I' => match o with | .inl (some v) => mWp S J Q X fl ro r lv (v :: st) I' | .inl none => mWp S J Q X fl ro r lv st I' | .inr E => X E lv I')) := rfl
theorem wp_callS4_3 {v0 v1 v2 v3 : mV} : mWp S J Q X fl ro ((pc, 32, 3, a, 4, c, ts) :: r) lv (v3 :: v2 :: v1 :: v0 :: st) I = (4 ≤ (v3 :: v2 :: v1 :: v0 :: st).length ∧ mCat st ≤ 8 ∧ True ∧ S a fl [v0, v1, v2, v3] I (fun o I' => match o with | .inl (some v) => mWp S J Q X fl ro r lv (v :: st) I' | .inl none => mWp S J Q X fl ro r lv st I' | .inr E => X E lv I')) := rfl
theorem wp_callS5_1 {v0 v1 v2 v3 v4 : mV} : mWp S J Q X fl ro ((pc, 32, 1, a, 5, c, ts) :: r) lv (v4 :: v3 :: v2 :: v1 :: v0 :: st) I = (5 ≤ (v4 :: v3 :: v2 :: v1 :: v0 :: st).length ∧ mCat st ≤ 8 ∧ True ∧ S a fl [v0, v1, v2, v3, v4] I (fun o I' => match o with | .inl (some v) => mWp S J Q X fl ro r lv (v :: st) I' | .inl none => mWp S J Q X fl ro r lv st I' | .inr E => X E lv I')) := rfl
theorem wp_callS5_3 {v0 v1 v2 v3 v4 : mV} : mWp S J Q X fl ro ((pc, 32, 3, a, 5, c, ts) :: r) lv (v4 :: v3 :: v2 :: v1 :: v0 :: st) I = (5 ≤ (v4 :: v3 :: v2 :: v1 :: v0 :: st).length ∧ mCat st ≤ 8 ∧ True ∧ S a fl [v0, v1, v2, v3, v4] I (fun o I' => match o with | .inl (some v) => mWp S J Q X fl ro r lv (v :: st) I' | .inl none => mWp S J Q X fl ro r lv st I' | .inr E => X E lv I')) := rfl
theorem wp_callS6_1 {v0 v1 v2 v3 v4 v5 : mV} : mWp S J Q X fl ro ((pc, 32, 1, a, 6, c, ts) :: r) lv (v5 :: v4 :: v3 :: v2 :: v1 :: v0 :: st) I = (6 ≤ (v5 :: v4 :: v3 :: v2 :: v1 :: v0 :: st).length ∧ mCat st ≤ 8 ∧ True ∧ S a fl [v0, v1, v2, v3, v4, v5] I (fun o I' => match o with | .inl (some v) => mWp S J Q X fl ro r lv (v :: st) I' | .inl none => mWp S J Q X fl ro r lv st I' | .inr E => X E lv I')) := rfl
theorem wp_callS6_3 {v0 v1 v2 v3 v4 v5 : mV} : mWp S J Q X fl ro ((pc, 32, 3, a, 6, c, ts) :: r) lv (v5 :: v4 :: v3 :: v2 :: v1 :: v0 :: st) I = (6 ≤ (v5 :: v4 :: v3 :: v2 :: v1 :: v0 :: st).length ∧ mCat st ≤ 8 ∧ True ∧ S a fl [v0, v1, v2, v3, v4, v5] I (fun o I' => match o with | .inl (some v) => mWp S J Q X fl ro r lv (v :: st) I' | .inl none => mWp S J Q X fl ro r lv st I' | .inr E => X E lv I')) := rfl
theorem wp_callS7_1 {v0 v1 v2 v3 v4 v5 v6 : mV} : mWp S J Q X fl ro ((pc, 32, 1, a, 7, c, ts) :: r) lv (v6 :: v5 :: v4 :: v3 :: v2 :: v1 :: v0 :: st) I = (7 ≤ (v6 :: v5 :: v4 :: v3 :: v2 :: v1 :: v0 :: st).length ∧ mCat st ≤ 8 ∧ True ∧ S a fl [v0, v1, v2, v3, v4, v5, v6] I (fun o I' => match o with | .inl (some v) => mWp S J Q X fl ro r lv (v :: st) I' | .inl none => mWp S J Q X fl ro r lv st I' | .inr E => X E lv I')) := rfl
theorem wp_callS7_3 {v0 v1 v2 v3 v4 v5 v6 : mV} : mWp S J Q X fl ro ((pc, 32, 3, a, 7, c, ts) :: r) lv (v6 :: v5 :: v4 :: v3 :: v2 :: v1 :: v0 :: st) I = (7 ≤ (v6 :: v5 :: v4 :: v3 :: v2 :: v1 :: v0 :: st).length ∧ mCat st ≤ 8 ∧ True ∧ S a fl [v0, v1, v2, v3, v4, v5, v6] I (fun o I' => match o with | .inl (some v) => mWp S J Q X fl ro r lv (v :: st) I' | .inl none => mWp S J Q X fl ro r lv st I' | .inr E => X E lv I')) := rfl
theorem wp_ret0  : mWp S J Q X fl ro ((pc, 33, x, 0, b, c, ts) :: r) lv [] I = (([] : mSt) = [] ∧ Q (.inl none) I) := rfl
theorem wp_ret1 {y : Int} : mWp S J Q X fl ro ((pc, 33, x, 1, b, c, ts) :: r) lv [mI y] I = Q (.inl (some (mI y))) I := rfl
theorem wp_ret2 {y : Int} : mWp S J Q X fl ro ((pc, 33, x, 2, b, c, ts) :: r) lv [mL y] I = Q (.inl (some (mL y))) I := rfl
theorem wp_ret3 {y : Option Nat} : mWp S J Q X fl ro ((pc, 33, x, 3, b, c, ts) :: r) lv [mR y] I = Q (.inl (some (mR y))) I := rfl
theorem wp_ret4 {y : Int} : mWp S J Q X fl ro ((pc, 33, x, 4, b, c, ts) :: r) lv [mI y] I = ((y = 0 ∨ y = 1) ∧ Q (.inl (some (mI y))) I) := rfl
theorem wp_sw {y : Int} : mWp S J Q X fl ro ((pc, 34, x, a, b, c, ts) :: r) lv (mI y :: st) I = (mrg y ∧ mSw J lv st I y b x ts) := rfl
theorem wp_thr  : mWp S J Q X fl ro ((pc, 35, x, a, b, c, ts) :: r) lv [] I = (([] : mSt) = [] ∧ X (mEx a) lv I) := rfl
theorem wp_gs  : mWp S J Q X fl ro ((pc, 36, x, a, b, c, ts) :: r) lv st I = mWp S J Q X fl ro r lv (mR (some (240 + a)) :: st) I := rfl
theorem wp_tx  : mWp S J Q X fl ro ((pc, 37, x, a, b, c, ts) :: r) lv st I = mWp S J Q X fl ro r lv (mR (some (250 + a)) :: st) I := rfl
theorem wp_txl {i : Nat} : mWp S J Q X fl ro ((pc, 38, x, a, b, c, ts) :: r) lv (mR (some i) :: st) I = ((250 ≤ i ∧ i < 250 + mTx.length) ∧ mCat st ≤ 8 ∧ mWp S J Q X fl ro r lv (mI (mTxLen (i - 250)) :: st) I) := rfl
theorem wp_txc {i : Nat} {j : Int} : mWp S J Q X fl ro ((pc, 39, x, a, b, c, ts) :: r) lv (mI j :: mR (some i) :: st) I = ((250 ≤ i ∧ i < 250 + mTx.length) ∧ (0 ≤ j ∧ j < mTxLen (i - 250)) ∧ mCat st ≤ 8 ∧ mWp S J Q X fl ro r lv (mI (mTxCh (i - 250) j) :: st) I) := rfl
theorem wp_max {y z : Int} : mWp S J Q X fl ro ((pc, 40, x, 0, b, c, ts) :: r) lv (mI y :: mI z :: st) I = ((mrg z ∧ mrg y) ∧ mCat st ≤ 8 ∧ mWp S J Q X fl ro r lv (mI (max z y) :: st) I) := rfl
theorem wp_min {y z : Int} : mWp S J Q X fl ro ((pc, 40, x, 1, b, c, ts) :: r) lv (mI y :: mI z :: st) I = ((mrg z ∧ mrg y) ∧ mCat st ≤ 8 ∧ mWp S J Q X fl ro r lv (mI (min z y) :: st) I) := rfl
theorem wp_abs {z : Int} : mWp S J Q X fl ro ((pc, 40, x, 2, b, c, ts) :: r) lv (mI z :: st) I = ((mrg z ∧ z ≠ -2147483648) ∧ mCat st ≤ 8 ∧ mWp S J Q X fl ro r lv (mI (if 0 ≤ z then z else -z) :: st) I) := rfl
theorem wp_lmax {y z : Int} : mWp S J Q X fl ro ((pc, 40, x, 3, b, c, ts) :: r) lv (mL y :: mL z :: st) I = ((mrl z ∧ mrl y) ∧ mCat st ≤ 8 ∧ mWp S J Q X fl ro r lv (mL (max z y) :: st) I) := rfl
theorem wp_cpy {i j : Nat} {n sp dp : Int} : mWp S J Q X fl ro ((pc, 41, x, a, b, c, ts) :: r) lv (mI n :: mI dp :: mR (some j) :: mI sp :: mR (some i) :: st) I = ((sk i = 20 ∧ al fl i = true) ∧ (sk j = 20 ∧ al fl j = true) ∧ (0 ≤ sp ∧ 0 ≤ dp ∧ 0 ≤ n ∧ sp + n ≤ sn i ∧ dp + n ≤ sn j) ∧ mCat st ≤ 8 ∧ mWp S J Q X fl ro r lv st (mCpy I i j sp dp n)) := rfl
theorem wp_cut  : mWp S J Q X fl ro ((pc, 43, x, a, b, c, ts) :: r) lv st I = J b lv st I := rfl
theorem wp_null  : mWp S J Q X fl ro ((pc, 42, x, a, b, c, ts) :: r) lv st I = mWp S J Q X fl ro r lv (mR none :: st) I := rfl
end MEQ
theorem sk_0 : sk 0 = 11 := rfl
theorem al_0 {fl : Nat → Bool} : al fl 0 = true := rfl
theorem sk_1 : sk 1 = 24 := rfl
theorem sn_1 : sn 1 = 3 := rfl
theorem al_1 {fl : Nat → Bool} : al fl 1 = true := rfl
theorem sk_2 : sk 2 = 25 := rfl
theorem sn_2 : sn 2 = 4 := rfl
theorem al_2 {fl : Nat → Bool} : al fl 2 = true := rfl
theorem sk_3 : sk 3 = 20 := rfl
theorem sn_3 : sn 3 = 9 := rfl
theorem al_3 {fl : Nat → Bool} : al fl 3 = true := rfl
theorem sk_4 : sk 4 = 20 := rfl
theorem sn_4 : sn 4 = 6 := rfl
theorem al_4 {fl : Nat → Bool} : al fl 4 = true := rfl
theorem sk_5 : sk 5 = 20 := rfl
theorem sn_5 : sn 5 = 9 := rfl
theorem al_5 {fl : Nat → Bool} : al fl 5 = true := rfl
theorem sk_6 : sk 6 = 20 := rfl
theorem sn_6 : sn 6 = 9 := rfl
theorem al_6 {fl : Nat → Bool} : al fl 6 = true := rfl
theorem sk_7 : sk 7 = 20 := rfl
theorem sn_7 : sn 7 = 512 := rfl
theorem al_7 {fl : Nat → Bool} : al fl 7 = true := rfl
theorem sk_10 : sk 10 = 8 := rfl
theorem al_10 {fl : Nat → Bool} : al fl 10 = true := rfl
theorem sk_11 : sk 11 = 4 := rfl
theorem al_11 {fl : Nat → Bool} : al fl 11 = true := rfl
theorem sk_12 : sk 12 = 7 := rfl
theorem al_12 {fl : Nat → Bool} : al fl 12 = true := rfl
theorem sk_13 : sk 13 = 2 := rfl
theorem al_13 {fl : Nat → Bool} : al fl 13 = true := rfl
theorem sk_14 : sk 14 = 20 := rfl
theorem sn_14 : sn 14 = 289 := rfl
theorem al_14 {fl : Nat → Bool} : al fl 14 = true := rfl
theorem sk_15 : sk 15 = 20 := rfl
theorem sn_15 : sn 15 = 6 := rfl
theorem al_15 {fl : Nat → Bool} : al fl 15 = true := rfl
theorem sk_16 : sk 16 = 20 := rfl
theorem sn_16 : sn 16 = 48 := rfl
theorem al_16 {fl : Nat → Bool} : al fl 16 = true := rfl
theorem sk_17 : sk 17 = 20 := rfl
theorem sn_17 : sn 17 = 48 := rfl
theorem al_17 {fl : Nat → Bool} : al fl 17 = true := rfl
theorem sk_18 : sk 18 = 20 := rfl
theorem sn_18 : sn 18 = 48 := rfl
theorem al_18 {fl : Nat → Bool} : al fl 18 = true := rfl
theorem sk_19 : sk 19 = 20 := rfl
theorem sn_19 : sn 19 = 48 := rfl
theorem al_19 {fl : Nat → Bool} : al fl 19 = true := rfl
theorem sk_20 : sk 20 = 20 := rfl
theorem sn_20 : sn 20 = 9 := rfl
theorem al_20 {fl : Nat → Bool} : al fl 20 = true := rfl
theorem sk_21 : sk 21 = 20 := rfl
theorem sn_21 : sn 21 = 9 := rfl
theorem al_21 {fl : Nat → Bool} : al fl 21 = true := rfl
theorem sk_22 : sk 22 = 20 := rfl
theorem sn_22 : sn 22 = 9 := rfl
theorem al_22 {fl : Nat → Bool} : al fl 22 = true := rfl
theorem sk_23 : sk 23 = 20 := rfl
theorem sn_23 : sn 23 = 9 := rfl
theorem al_23 {fl : Nat → Bool} : al fl 23 = true := rfl
theorem sk_24 : sk 24 = 20 := rfl
theorem sn_24 : sn 24 = 9 := rfl
theorem al_24 {fl : Nat → Bool} : al fl 24 = true := rfl
theorem sk_25 : sk 25 = 20 := rfl
theorem sn_25 : sn 25 = 36 := rfl
theorem al_25 {fl : Nat → Bool} : al fl 25 = true := rfl
theorem sk_26 : sk 26 = 20 := rfl
theorem sn_26 : sn 26 = 48 := rfl
theorem al_26 {fl : Nat → Bool} : al fl 26 = true := rfl
theorem sk_27 : sk 27 = 20 := rfl
theorem sn_27 : sn 27 = 4 := rfl
theorem al_27 {fl : Nat → Bool} : al fl 27 = true := rfl
theorem sk_30 : sk 30 = 8 := rfl
theorem al_30 {fl : Nat → Bool} : al fl 30 = fl 0 := rfl
theorem sk_31 : sk 31 = 4 := rfl
theorem al_31 {fl : Nat → Bool} : al fl 31 = fl 0 := rfl
theorem sk_32 : sk 32 = 7 := rfl
theorem al_32 {fl : Nat → Bool} : al fl 32 = fl 0 := rfl
theorem sk_33 : sk 33 = 2 := rfl
theorem al_33 {fl : Nat → Bool} : al fl 33 = fl 0 := rfl
theorem sk_34 : sk 34 = 20 := rfl
theorem sn_34 : sn 34 = 289 := rfl
theorem al_34 {fl : Nat → Bool} : al fl 34 = fl 0 := rfl
theorem sk_35 : sk 35 = 20 := rfl
theorem sn_35 : sn 35 = 6 := rfl
theorem al_35 {fl : Nat → Bool} : al fl 35 = fl 0 := rfl
theorem sk_36 : sk 36 = 20 := rfl
theorem sn_36 : sn 36 = 48 := rfl
theorem al_36 {fl : Nat → Bool} : al fl 36 = fl 0 := rfl
theorem sk_37 : sk 37 = 20 := rfl
theorem sn_37 : sn 37 = 48 := rfl
theorem al_37 {fl : Nat → Bool} : al fl 37 = fl 0 := rfl
theorem sk_38 : sk 38 = 20 := rfl
theorem sn_38 : sn 38 = 48 := rfl
theorem al_38 {fl : Nat → Bool} : al fl 38 = fl 0 := rfl
theorem sk_39 : sk 39 = 20 := rfl
theorem sn_39 : sn 39 = 48 := rfl
theorem al_39 {fl : Nat → Bool} : al fl 39 = fl 0 := rfl
theorem sk_40 : sk 40 = 20 := rfl
theorem sn_40 : sn 40 = 9 := rfl
theorem al_40 {fl : Nat → Bool} : al fl 40 = fl 0 := rfl
theorem sk_41 : sk 41 = 20 := rfl
theorem sn_41 : sn 41 = 9 := rfl
theorem al_41 {fl : Nat → Bool} : al fl 41 = fl 0 := rfl
theorem sk_42 : sk 42 = 20 := rfl
theorem sn_42 : sn 42 = 9 := rfl
theorem al_42 {fl : Nat → Bool} : al fl 42 = fl 0 := rfl
theorem sk_43 : sk 43 = 20 := rfl
theorem sn_43 : sn 43 = 9 := rfl
theorem al_43 {fl : Nat → Bool} : al fl 43 = fl 0 := rfl
theorem sk_44 : sk 44 = 20 := rfl
theorem sn_44 : sn 44 = 9 := rfl
theorem al_44 {fl : Nat → Bool} : al fl 44 = fl 0 := rfl
theorem sk_45 : sk 45 = 20 := rfl
theorem sn_45 : sn 45 = 36 := rfl
theorem al_45 {fl : Nat → Bool} : al fl 45 = fl 0 := rfl
theorem sk_46 : sk 46 = 20 := rfl
theorem sn_46 : sn 46 = 48 := rfl
theorem al_46 {fl : Nat → Bool} : al fl 46 = fl 0 := rfl
theorem sk_47 : sk 47 = 20 := rfl
theorem sn_47 : sn 47 = 4 := rfl
theorem al_47 {fl : Nat → Bool} : al fl 47 = fl 0 := rfl
theorem sk_50 : sk 50 = 8 := rfl
theorem al_50 {fl : Nat → Bool} : al fl 50 = fl 1 := rfl
theorem sk_51 : sk 51 = 4 := rfl
theorem al_51 {fl : Nat → Bool} : al fl 51 = fl 1 := rfl
theorem sk_52 : sk 52 = 7 := rfl
theorem al_52 {fl : Nat → Bool} : al fl 52 = fl 1 := rfl
theorem sk_53 : sk 53 = 2 := rfl
theorem al_53 {fl : Nat → Bool} : al fl 53 = fl 1 := rfl
theorem sk_54 : sk 54 = 20 := rfl
theorem sn_54 : sn 54 = 289 := rfl
theorem al_54 {fl : Nat → Bool} : al fl 54 = fl 1 := rfl
theorem sk_55 : sk 55 = 20 := rfl
theorem sn_55 : sn 55 = 6 := rfl
theorem al_55 {fl : Nat → Bool} : al fl 55 = fl 1 := rfl
theorem sk_56 : sk 56 = 20 := rfl
theorem sn_56 : sn 56 = 48 := rfl
theorem al_56 {fl : Nat → Bool} : al fl 56 = fl 1 := rfl
theorem sk_57 : sk 57 = 20 := rfl
theorem sn_57 : sn 57 = 48 := rfl
theorem al_57 {fl : Nat → Bool} : al fl 57 = fl 1 := rfl
theorem sk_58 : sk 58 = 20 := rfl
theorem sn_58 : sn 58 = 48 := rfl
theorem al_58 {fl : Nat → Bool} : al fl 58 = fl 1 := rfl
theorem sk_59 : sk 59 = 20 := rfl
theorem sn_59 : sn 59 = 48 := rfl
theorem al_59 {fl : Nat → Bool} : al fl 59 = fl 1 := rfl
theorem sk_60 : sk 60 = 20 := rfl
theorem sn_60 : sn 60 = 9 := rfl
theorem al_60 {fl : Nat → Bool} : al fl 60 = fl 1 := rfl
theorem sk_61 : sk 61 = 20 := rfl
theorem sn_61 : sn 61 = 9 := rfl
theorem al_61 {fl : Nat → Bool} : al fl 61 = fl 1 := rfl
theorem sk_62 : sk 62 = 20 := rfl
theorem sn_62 : sn 62 = 9 := rfl
theorem al_62 {fl : Nat → Bool} : al fl 62 = fl 1 := rfl
theorem sk_63 : sk 63 = 20 := rfl
theorem sn_63 : sn 63 = 9 := rfl
theorem al_63 {fl : Nat → Bool} : al fl 63 = fl 1 := rfl
theorem sk_64 : sk 64 = 20 := rfl
theorem sn_64 : sn 64 = 9 := rfl
theorem al_64 {fl : Nat → Bool} : al fl 64 = fl 1 := rfl
theorem sk_65 : sk 65 = 20 := rfl
theorem sn_65 : sn 65 = 36 := rfl
theorem al_65 {fl : Nat → Bool} : al fl 65 = fl 1 := rfl
theorem sk_66 : sk 66 = 20 := rfl
theorem sn_66 : sn 66 = 48 := rfl
theorem al_66 {fl : Nat → Bool} : al fl 66 = fl 1 := rfl
theorem sk_67 : sk 67 = 20 := rfl
theorem sn_67 : sn 67 = 4 := rfl
theorem al_67 {fl : Nat → Bool} : al fl 67 = fl 1 := rfl
theorem sk_70 : sk 70 = 8 := rfl
theorem al_70 {fl : Nat → Bool} : al fl 70 = fl 2 := rfl
theorem sk_71 : sk 71 = 4 := rfl
theorem al_71 {fl : Nat → Bool} : al fl 71 = fl 2 := rfl
theorem sk_72 : sk 72 = 7 := rfl
theorem al_72 {fl : Nat → Bool} : al fl 72 = fl 2 := rfl
theorem sk_73 : sk 73 = 2 := rfl
theorem al_73 {fl : Nat → Bool} : al fl 73 = fl 2 := rfl
theorem sk_74 : sk 74 = 20 := rfl
theorem sn_74 : sn 74 = 289 := rfl
theorem al_74 {fl : Nat → Bool} : al fl 74 = fl 2 := rfl
theorem sk_75 : sk 75 = 20 := rfl
theorem sn_75 : sn 75 = 6 := rfl
theorem al_75 {fl : Nat → Bool} : al fl 75 = fl 2 := rfl
theorem sk_76 : sk 76 = 20 := rfl
theorem sn_76 : sn 76 = 48 := rfl
theorem al_76 {fl : Nat → Bool} : al fl 76 = fl 2 := rfl
theorem sk_77 : sk 77 = 20 := rfl
theorem sn_77 : sn 77 = 48 := rfl
theorem al_77 {fl : Nat → Bool} : al fl 77 = fl 2 := rfl
theorem sk_78 : sk 78 = 20 := rfl
theorem sn_78 : sn 78 = 48 := rfl
theorem al_78 {fl : Nat → Bool} : al fl 78 = fl 2 := rfl
theorem sk_79 : sk 79 = 20 := rfl
theorem sn_79 : sn 79 = 48 := rfl
theorem al_79 {fl : Nat → Bool} : al fl 79 = fl 2 := rfl
theorem sk_80 : sk 80 = 20 := rfl
theorem sn_80 : sn 80 = 9 := rfl
theorem al_80 {fl : Nat → Bool} : al fl 80 = fl 2 := rfl
theorem sk_81 : sk 81 = 20 := rfl
theorem sn_81 : sn 81 = 9 := rfl
theorem al_81 {fl : Nat → Bool} : al fl 81 = fl 2 := rfl
theorem sk_82 : sk 82 = 20 := rfl
theorem sn_82 : sn 82 = 9 := rfl
theorem al_82 {fl : Nat → Bool} : al fl 82 = fl 2 := rfl
theorem sk_83 : sk 83 = 20 := rfl
theorem sn_83 : sn 83 = 9 := rfl
theorem al_83 {fl : Nat → Bool} : al fl 83 = fl 2 := rfl
theorem sk_84 : sk 84 = 20 := rfl
theorem sn_84 : sn 84 = 9 := rfl
theorem al_84 {fl : Nat → Bool} : al fl 84 = fl 2 := rfl
theorem sk_85 : sk 85 = 20 := rfl
theorem sn_85 : sn 85 = 36 := rfl
theorem al_85 {fl : Nat → Bool} : al fl 85 = fl 2 := rfl
theorem sk_86 : sk 86 = 20 := rfl
theorem sn_86 : sn 86 = 48 := rfl
theorem al_86 {fl : Nat → Bool} : al fl 86 = fl 2 := rfl
theorem sk_87 : sk 87 = 20 := rfl
theorem sn_87 : sn 87 = 4 := rfl
theorem al_87 {fl : Nat → Bool} : al fl 87 = fl 2 := rfl
theorem sk_100 : sk 100 = 6 := rfl
theorem al_100 {fl : Nat → Bool} : al fl 100 = true := rfl
theorem sk_101 : sk 101 = 21 := rfl
theorem sn_101 : sn 101 = 800 := rfl
theorem al_101 {fl : Nat → Bool} : al fl 101 = true := rfl
theorem sk_102 : sk 102 = 4 := rfl
theorem al_102 {fl : Nat → Bool} : al fl 102 = true := rfl
theorem sk_105 : sk 105 = 20 := rfl
theorem sn_105 : sn 105 = 289 := rfl
theorem al_105 {fl : Nat → Bool} : al fl 105 = true := rfl
theorem sk_106 : sk 106 = 20 := rfl
theorem sn_106 : sn 106 = 6 := rfl
theorem al_106 {fl : Nat → Bool} : al fl 106 = true := rfl
theorem sk_107 : sk 107 = 20 := rfl
theorem sn_107 : sn 107 = 48 := rfl
theorem al_107 {fl : Nat → Bool} : al fl 107 = true := rfl
theorem sk_108 : sk 108 = 20 := rfl
theorem sn_108 : sn 108 = 48 := rfl
theorem al_108 {fl : Nat → Bool} : al fl 108 = true := rfl
theorem sk_109 : sk 109 = 20 := rfl
theorem sn_109 : sn 109 = 48 := rfl
theorem al_109 {fl : Nat → Bool} : al fl 109 = true := rfl
theorem sk_110 : sk 110 = 20 := rfl
theorem sn_110 : sn 110 = 48 := rfl
theorem al_110 {fl : Nat → Bool} : al fl 110 = true := rfl
theorem sk_120 : sk 120 = 1 := rfl
theorem al_120 {fl : Nat → Bool} : al fl 120 = true := rfl
theorem sk_121 : sk 121 = 20 := rfl
theorem sn_121 : sn 121 = 8 := rfl
theorem al_121 {fl : Nat → Bool} : al fl 121 = true := rfl
theorem sk_122 : sk 122 = 20 := rfl
theorem sn_122 : sn 122 = 8 := rfl
theorem al_122 {fl : Nat → Bool} : al fl 122 = true := rfl
theorem sk_123 : sk 123 = 20 := rfl
theorem sn_123 : sn 123 = 8 := rfl
theorem al_123 {fl : Nat → Bool} : al fl 123 = true := rfl
theorem sk_124 : sk 124 = 20 := rfl
theorem sn_124 : sn 124 = 8 := rfl
theorem al_124 {fl : Nat → Bool} : al fl 124 = true := rfl
theorem sk_125 : sk 125 = 20 := rfl
theorem sn_125 : sn 125 = 8 := rfl
theorem al_125 {fl : Nat → Bool} : al fl 125 = true := rfl
theorem sk_126 : sk 126 = 20 := rfl
theorem sn_126 : sn 126 = 64 := rfl
theorem al_126 {fl : Nat → Bool} : al fl 126 = true := rfl
theorem sk_127 : sk 127 = 20 := rfl
theorem sn_127 : sn 127 = 64 := rfl
theorem al_127 {fl : Nat → Bool} : al fl 127 = true := rfl
theorem sk_130 : sk 130 = 10 := rfl
theorem al_130 {fl : Nat → Bool} : al fl 130 = true := rfl
theorem sk_140 : sk 140 = 3 := rfl
theorem al_140 {fl : Nat → Bool} : al fl 140 = true := rfl
theorem sk_141 : sk 141 = 20 := rfl
theorem sn_141 : sn 141 = 9 := rfl
theorem al_141 {fl : Nat → Bool} : al fl 141 = true := rfl
theorem sk_142 : sk 142 = 20 := rfl
theorem sn_142 : sn 142 = 8 := rfl
theorem al_142 {fl : Nat → Bool} : al fl 142 = true := rfl
theorem sk_143 : sk 143 = 20 := rfl
theorem sn_143 : sn 143 = 8 := rfl
theorem al_143 {fl : Nat → Bool} : al fl 143 = true := rfl
theorem sk_144 : sk 144 = 20 := rfl
theorem sn_144 : sn 144 = 8 := rfl
theorem al_144 {fl : Nat → Bool} : al fl 144 = true := rfl
theorem sk_145 : sk 145 = 20 := rfl
theorem sn_145 : sn 145 = 8 := rfl
theorem al_145 {fl : Nat → Bool} : al fl 145 = true := rfl
theorem sk_146 : sk 146 = 20 := rfl
theorem sn_146 : sn 146 = 8 := rfl
theorem al_146 {fl : Nat → Bool} : al fl 146 = true := rfl
theorem sk_147 : sk 147 = 20 := rfl
theorem sn_147 : sn 147 = 8 := rfl
theorem al_147 {fl : Nat → Bool} : al fl 147 = true := rfl
theorem sk_148 : sk 148 = 20 := rfl
theorem sn_148 : sn 148 = 8 := rfl
theorem al_148 {fl : Nat → Bool} : al fl 148 = true := rfl
theorem sk_149 : sk 149 = 20 := rfl
theorem sn_149 : sn 149 = 8 := rfl
theorem al_149 {fl : Nat → Bool} : al fl 149 = true := rfl
theorem sk_150 : sk 150 = 20 := rfl
theorem sn_150 : sn 150 = 9 := rfl
theorem al_150 {fl : Nat → Bool} : al fl 150 = true := rfl
theorem sk_160 : sk 160 = 5 := rfl
theorem al_160 {fl : Nat → Bool} : al fl 160 = true := rfl
theorem sk_161 : sk 161 = 20 := rfl
theorem sn_161 : sn 161 = 8 := rfl
theorem al_161 {fl : Nat → Bool} : al fl 161 = true := rfl
theorem sk_162 : sk 162 = 20 := rfl
theorem sn_162 : sn 162 = 8 := rfl
theorem al_162 {fl : Nat → Bool} : al fl 162 = true := rfl
theorem sk_170 : sk 170 = 9 := rfl
theorem al_170 {fl : Nat → Bool} : al fl 170 = fl 3 := rfl
theorem sk_171 : sk 171 = 23 := rfl
theorem sn_171 : sn 171 = 40 := rfl
theorem al_171 {fl : Nat → Bool} : al fl 171 = fl 3 := rfl
theorem sk_172 : sk 172 = 9 := rfl
theorem al_172 {fl : Nat → Bool} : al fl 172 = fl 4 := rfl
theorem sk_173 : sk 173 = 23 := rfl
theorem sn_173 : sn 173 = 40 := rfl
theorem al_173 {fl : Nat → Bool} : al fl 173 = fl 4 := rfl
theorem sk_174 : sk 174 = 9 := rfl
theorem al_174 {fl : Nat → Bool} : al fl 174 = fl 5 := rfl
theorem sk_175 : sk 175 = 23 := rfl
theorem sn_175 : sn 175 = 40 := rfl
theorem al_175 {fl : Nat → Bool} : al fl 175 = fl 5 := rfl
theorem sk_176 : sk 176 = 9 := rfl
theorem al_176 {fl : Nat → Bool} : al fl 176 = fl 6 := rfl
theorem sk_177 : sk 177 = 23 := rfl
theorem sn_177 : sn 177 = 40 := rfl
theorem al_177 {fl : Nat → Bool} : al fl 177 = fl 6 := rfl
theorem sk_200 : sk 200 = 12 := rfl
theorem al_200 {fl : Nat → Bool} : al fl 200 = true := rfl
theorem sk_201 : sk 201 = 20 := rfl
theorem sn_201 : sn 201 = 635 := rfl
theorem al_201 {fl : Nat → Bool} : al fl 201 = true := rfl
theorem sk_202 : sk 202 = 20 := rfl
theorem sn_202 : sn 202 = 1905 := rfl
theorem al_202 {fl : Nat → Bool} : al fl 202 = true := rfl
theorem sk_203 : sk 203 = 22 := rfl
theorem sn_203 : sn 203 = 3 := rfl
theorem al_203 {fl : Nat → Bool} : al fl 203 = true := rfl
theorem sk_204 : sk 204 = 20 := rfl
theorem sn_204 : sn 204 = 800 := rfl
theorem al_204 {fl : Nat → Bool} : al fl 204 = true := rfl
theorem sk_205 : sk 205 = 20 := rfl
theorem sn_205 : sn 205 = 550 := rfl
theorem al_205 {fl : Nat → Bool} : al fl 205 = true := rfl
theorem sk_206 : sk 206 = 20 := rfl
theorem sn_206 : sn 206 = 2 := rfl
theorem al_206 {fl : Nat → Bool} : al fl 206 = true := rfl
theorem sk_207 : sk 207 = 20 := rfl
theorem sn_207 : sn 207 = 9 := rfl
theorem al_207 {fl : Nat → Bool} : al fl 207 = true := rfl
theorem sk_208 : sk 208 = 20 := rfl
theorem sn_208 : sn 208 = 9 := rfl
theorem al_208 {fl : Nat → Bool} : al fl 208 = true := rfl
theorem sk_209 : sk 209 = 23 := rfl
theorem sn_209 : sn 209 = 8 := rfl
theorem al_209 {fl : Nat → Bool} : al fl 209 = true := rfl
theorem sk_210 : sk 210 = 23 := rfl
theorem sn_210 : sn 210 = 8 := rfl
theorem al_210 {fl : Nat → Bool} : al fl 210 = true := rfl
theorem sk_211 : sk 211 = 20 := rfl
theorem sn_211 : sn 211 = 9 := rfl
theorem al_211 {fl : Nat → Bool} : al fl 211 = true := rfl
theorem sk_212 : sk 212 = 20 := rfl
theorem sn_212 : sn 212 = 9 := rfl
theorem al_212 {fl : Nat → Bool} : al fl 212 = true := rfl
theorem sk_213 : sk 213 = 20 := rfl
theorem sn_213 : sn 213 = 512 := rfl
theorem al_213 {fl : Nat → Bool} : al fl 213 = true := rfl
theorem sk_214 : sk 214 = 20 := rfl
theorem sn_214 : sn 214 = 6 := rfl
theorem al_214 {fl : Nat → Bool} : al fl 214 = true := rfl
theorem sk_215 : sk 215 = 20 := rfl
theorem sn_215 : sn 215 = 6 := rfl
theorem al_215 {fl : Nat → Bool} : al fl 215 = true := rfl
theorem sk_216 : sk 216 = 20 := rfl
theorem sn_216 : sn 216 = 4 := rfl
theorem al_216 {fl : Nat → Bool} : al fl 216 = true := rfl
theorem sk_217 : sk 217 = 20 := rfl
theorem sn_217 : sn 217 = 4 := rfl
theorem al_217 {fl : Nat → Bool} : al fl 217 = true := rfl
theorem sk_218 : sk 218 = 23 := rfl
theorem sn_218 : sn 218 = 160 := rfl
theorem al_218 {fl : Nat → Bool} : al fl 218 = true := rfl
theorem sk_230 : sk 230 = 23 := rfl
theorem sn_230 : sn 230 = 1 := rfl
theorem al_230 {fl : Nat → Bool} : al fl 230 = true := rfl
theorem rf_0_0 {fl : Nat → Bool} : RF fl 0 0 = some 10 := rfl
theorem rf_0_1 {fl : Nat → Bool} : RF fl 0 1 = some 1 := rfl
theorem rf_0_2 {fl : Nat → Bool} : RF fl 0 2 = some 2 := rfl
theorem rf_0_3 {fl : Nat → Bool} : RF fl 0 3 = some 100 := rfl
theorem rf_0_4 {fl : Nat → Bool} : RF fl 0 4 = some 120 := rfl
theorem rf_0_5 {fl : Nat → Bool} : RF fl 0 5 = some 130 := rfl
theorem rf_0_6 {fl : Nat → Bool} : RF fl 0 6 = some 140 := rfl
theorem rf_0_7 {fl : Nat → Bool} : RF fl 0 7 = some 160 := rfl
theorem rf_0_8 {fl : Nat → Bool} : RF fl 0 8 = some 3 := rfl
theorem rf_0_9 {fl : Nat → Bool} : RF fl 0 9 = some 4 := rfl
theorem rf_0_10 {fl : Nat → Bool} : RF fl 0 10 = some 5 := rfl
theorem rf_0_11 {fl : Nat → Bool} : RF fl 0 11 = some 6 := rfl
theorem rf_0_12 {fl : Nat → Bool} : RF fl 0 12 = some 7 := rfl
theorem rf_10_0 {fl : Nat → Bool} : RF fl 10 0 = some 11 := rfl
theorem rf_10_1 {fl : Nat → Bool} : RF fl 10 1 = some 12 := rfl
theorem rf_10_2 {fl : Nat → Bool} : RF fl 10 2 = some 13 := rfl
theorem rf_11_6 {fl : Nat → Bool} : RF fl 11 6 = some 14 := rfl
theorem rf_11_7 {fl : Nat → Bool} : RF fl 11 7 = some 15 := rfl
theorem rf_11_8 {fl : Nat → Bool} : RF fl 11 8 = some 16 := rfl
theorem rf_11_9 {fl : Nat → Bool} : RF fl 11 9 = some 17 := rfl
theorem rf_11_10 {fl : Nat → Bool} : RF fl 11 10 = some 18 := rfl
theorem rf_11_11 {fl : Nat → Bool} : RF fl 11 11 = some 19 := rfl
theorem rf_12_0 {fl : Nat → Bool} : RF fl 12 0 = some 20 := rfl
theorem rf_12_1 {fl : Nat → Bool} : RF fl 12 1 = some 21 := rfl
theorem rf_12_2 {fl : Nat → Bool} : RF fl 12 2 = some 22 := rfl
theorem rf_12_3 {fl : Nat → Bool} : RF fl 12 3 = some 23 := rfl
theorem rf_12_4 {fl : Nat → Bool} : RF fl 12 4 = some 24 := rfl
theorem rf_12_5 {fl : Nat → Bool} : RF fl 12 5 = some 25 := rfl
theorem rf_13_3 {fl : Nat → Bool} : RF fl 13 3 = some 26 := rfl
theorem rf_13_4 {fl : Nat → Bool} : RF fl 13 4 = some 27 := rfl
theorem rf_30_0 {fl : Nat → Bool} : RF fl 30 0 = some 31 := rfl
theorem rf_30_1 {fl : Nat → Bool} : RF fl 30 1 = some 32 := rfl
theorem rf_30_2 {fl : Nat → Bool} : RF fl 30 2 = some 33 := rfl
theorem rf_31_6 {fl : Nat → Bool} : RF fl 31 6 = some 34 := rfl
theorem rf_31_7 {fl : Nat → Bool} : RF fl 31 7 = some 35 := rfl
theorem rf_31_8 {fl : Nat → Bool} : RF fl 31 8 = some 36 := rfl
theorem rf_31_9 {fl : Nat → Bool} : RF fl 31 9 = some 37 := rfl
theorem rf_31_10 {fl : Nat → Bool} : RF fl 31 10 = some 38 := rfl
theorem rf_31_11 {fl : Nat → Bool} : RF fl 31 11 = some 39 := rfl
theorem rf_32_0 {fl : Nat → Bool} : RF fl 32 0 = some 40 := rfl
theorem rf_32_1 {fl : Nat → Bool} : RF fl 32 1 = some 41 := rfl
theorem rf_32_2 {fl : Nat → Bool} : RF fl 32 2 = some 42 := rfl
theorem rf_32_3 {fl : Nat → Bool} : RF fl 32 3 = some 43 := rfl
theorem rf_32_4 {fl : Nat → Bool} : RF fl 32 4 = some 44 := rfl
theorem rf_32_5 {fl : Nat → Bool} : RF fl 32 5 = some 45 := rfl
theorem rf_33_3 {fl : Nat → Bool} : RF fl 33 3 = some 46 := rfl
theorem rf_33_4 {fl : Nat → Bool} : RF fl 33 4 = some 47 := rfl
theorem rf_50_0 {fl : Nat → Bool} : RF fl 50 0 = some 51 := rfl
theorem rf_50_1 {fl : Nat → Bool} : RF fl 50 1 = some 52 := rfl
theorem rf_50_2 {fl : Nat → Bool} : RF fl 50 2 = some 53 := rfl
theorem rf_51_6 {fl : Nat → Bool} : RF fl 51 6 = some 54 := rfl
theorem rf_51_7 {fl : Nat → Bool} : RF fl 51 7 = some 55 := rfl
theorem rf_51_8 {fl : Nat → Bool} : RF fl 51 8 = some 56 := rfl
theorem rf_51_9 {fl : Nat → Bool} : RF fl 51 9 = some 57 := rfl
theorem rf_51_10 {fl : Nat → Bool} : RF fl 51 10 = some 58 := rfl
theorem rf_51_11 {fl : Nat → Bool} : RF fl 51 11 = some 59 := rfl
theorem rf_52_0 {fl : Nat → Bool} : RF fl 52 0 = some 60 := rfl
theorem rf_52_1 {fl : Nat → Bool} : RF fl 52 1 = some 61 := rfl
theorem rf_52_2 {fl : Nat → Bool} : RF fl 52 2 = some 62 := rfl
theorem rf_52_3 {fl : Nat → Bool} : RF fl 52 3 = some 63 := rfl
theorem rf_52_4 {fl : Nat → Bool} : RF fl 52 4 = some 64 := rfl
theorem rf_52_5 {fl : Nat → Bool} : RF fl 52 5 = some 65 := rfl
theorem rf_53_3 {fl : Nat → Bool} : RF fl 53 3 = some 66 := rfl
theorem rf_53_4 {fl : Nat → Bool} : RF fl 53 4 = some 67 := rfl
theorem rf_70_0 {fl : Nat → Bool} : RF fl 70 0 = some 71 := rfl
theorem rf_70_1 {fl : Nat → Bool} : RF fl 70 1 = some 72 := rfl
theorem rf_70_2 {fl : Nat → Bool} : RF fl 70 2 = some 73 := rfl
theorem rf_71_6 {fl : Nat → Bool} : RF fl 71 6 = some 74 := rfl
theorem rf_71_7 {fl : Nat → Bool} : RF fl 71 7 = some 75 := rfl
theorem rf_71_8 {fl : Nat → Bool} : RF fl 71 8 = some 76 := rfl
theorem rf_71_9 {fl : Nat → Bool} : RF fl 71 9 = some 77 := rfl
theorem rf_71_10 {fl : Nat → Bool} : RF fl 71 10 = some 78 := rfl
theorem rf_71_11 {fl : Nat → Bool} : RF fl 71 11 = some 79 := rfl
theorem rf_72_0 {fl : Nat → Bool} : RF fl 72 0 = some 80 := rfl
theorem rf_72_1 {fl : Nat → Bool} : RF fl 72 1 = some 81 := rfl
theorem rf_72_2 {fl : Nat → Bool} : RF fl 72 2 = some 82 := rfl
theorem rf_72_3 {fl : Nat → Bool} : RF fl 72 3 = some 83 := rfl
theorem rf_72_4 {fl : Nat → Bool} : RF fl 72 4 = some 84 := rfl
theorem rf_72_5 {fl : Nat → Bool} : RF fl 72 5 = some 85 := rfl
theorem rf_73_3 {fl : Nat → Bool} : RF fl 73 3 = some 86 := rfl
theorem rf_73_4 {fl : Nat → Bool} : RF fl 73 4 = some 87 := rfl
theorem rf_100_0 {fl : Nat → Bool} : RF fl 100 0 = some 101 := rfl
theorem rf_100_2 {fl : Nat → Bool} : RF fl 100 2 = some 102 := rfl
theorem rf_102_6 {fl : Nat → Bool} : RF fl 102 6 = some 105 := rfl
theorem rf_102_7 {fl : Nat → Bool} : RF fl 102 7 = some 106 := rfl
theorem rf_102_8 {fl : Nat → Bool} : RF fl 102 8 = some 107 := rfl
theorem rf_102_9 {fl : Nat → Bool} : RF fl 102 9 = some 108 := rfl
theorem rf_102_10 {fl : Nat → Bool} : RF fl 102 10 = some 109 := rfl
theorem rf_102_11 {fl : Nat → Bool} : RF fl 102 11 = some 110 := rfl
theorem rf_120_3 {fl : Nat → Bool} : RF fl 120 3 = some 121 := rfl
theorem rf_120_4 {fl : Nat → Bool} : RF fl 120 4 = some 122 := rfl
theorem rf_120_5 {fl : Nat → Bool} : RF fl 120 5 = some 123 := rfl
theorem rf_120_6 {fl : Nat → Bool} : RF fl 120 6 = some 124 := rfl
theorem rf_120_7 {fl : Nat → Bool} : RF fl 120 7 = some 125 := rfl
theorem rf_120_8 {fl : Nat → Bool} : RF fl 120 8 = some 126 := rfl
theorem rf_120_9 {fl : Nat → Bool} : RF fl 120 9 = some 127 := rfl
theorem rf_130_0 {fl : Nat → Bool} : RF fl 130 0 = some 11 := rfl
theorem rf_130_1 {fl : Nat → Bool} : RF fl 130 1 = some 12 := rfl
theorem rf_130_2 {fl : Nat → Bool} : RF fl 130 2 = some 120 := rfl
theorem rf_140_0 {fl : Nat → Bool} : RF fl 140 0 = some 11 := rfl
theorem rf_140_1 {fl : Nat → Bool} : RF fl 140 1 = some 12 := rfl
theorem rf_140_2 {fl : Nat → Bool} : RF fl 140 2 = some 120 := rfl
theorem rf_140_3 {fl : Nat → Bool} : RF fl 140 3 = some 130 := rfl
theorem rf_140_4 {fl : Nat → Bool} : RF fl 140 4 = some 141 := rfl
theorem rf_140_5 {fl : Nat → Bool} : RF fl 140 5 = some 142 := rfl
theorem rf_140_6 {fl : Nat → Bool} : RF fl 140 6 = some 143 := rfl
theorem rf_140_7 {fl : Nat → Bool} : RF fl 140 7 = some 144 := rfl
theorem rf_140_8 {fl : Nat → Bool} : RF fl 140 8 = some 145 := rfl
theorem rf_140_9 {fl : Nat → Bool} : RF fl 140 9 = some 146 := rfl
theorem rf_140_10 {fl : Nat → Bool} : RF fl 140 10 = some 147 := rfl
theorem rf_140_11 {fl : Nat → Bool} : RF fl 140 11 = some 148 := rfl
theorem rf_140_12 {fl : Nat → Bool} : RF fl 140 12 = some 149 := rfl
theorem rf_140_13 {fl : Nat → Bool} : RF fl 140 13 = some 150 := rfl
theorem rf_160_0 {fl : Nat → Bool} : RF fl 160 0 = some 161 := rfl
theorem rf_160_1 {fl : Nat → Bool} : RF fl 160 1 = some 162 := rfl
theorem rf_170_2 {fl : Nat → Bool} : RF fl 170 2 = some 171 := rfl
theorem rf_172_2 {fl : Nat → Bool} : RF fl 172 2 = some 173 := rfl
theorem rf_174_2 {fl : Nat → Bool} : RF fl 174 2 = some 175 := rfl
theorem rf_176_2 {fl : Nat → Bool} : RF fl 176 2 = some 177 := rfl
theorem rf_200_0 {fl : Nat → Bool} : RF fl 200 0 = some 201 := rfl
theorem rf_200_1 {fl : Nat → Bool} : RF fl 200 1 = some 202 := rfl
theorem rf_200_2 {fl : Nat → Bool} : RF fl 200 2 = some 203 := rfl
theorem rf_200_4 {fl : Nat → Bool} : RF fl 200 4 = some 204 := rfl
theorem rf_200_5 {fl : Nat → Bool} : RF fl 200 5 = some 205 := rfl
theorem rf_200_19 {fl : Nat → Bool} : RF fl 200 19 = some 206 := rfl
theorem rf_200_20 {fl : Nat → Bool} : RF fl 200 20 = some 207 := rfl
theorem rf_200_21 {fl : Nat → Bool} : RF fl 200 21 = some 208 := rfl
theorem rf_200_22 {fl : Nat → Bool} : RF fl 200 22 = some 209 := rfl
theorem rf_200_23 {fl : Nat → Bool} : RF fl 200 23 = some 210 := rfl
theorem rf_200_27 {fl : Nat → Bool} : RF fl 200 27 = some 211 := rfl
theorem rf_200_28 {fl : Nat → Bool} : RF fl 200 28 = some 212 := rfl
theorem rf_200_29 {fl : Nat → Bool} : RF fl 200 29 = some 213 := rfl
theorem rf_200_30 {fl : Nat → Bool} : RF fl 200 30 = some 214 := rfl
theorem rf_200_31 {fl : Nat → Bool} : RF fl 200 31 = some 215 := rfl
theorem rf_200_33 {fl : Nat → Bool} : RF fl 200 33 = some 216 := rfl
theorem rf_200_34 {fl : Nat → Bool} : RF fl 200 34 = some 217 := rfl
theorem rf_200_35 {fl : Nat → Bool} : RF fl 200 35 = some 218 := rfl
theorem fk_0_0 : fk 0 0 = 0 := rfl
theorem fk_0_1 : fk 0 1 = 0 := rfl
theorem fk_0_2 : fk 0 2 = 0 := rfl
theorem fk_0_3 : fk 0 3 = 2 := rfl
theorem fk_0_4 : fk 0 4 = 2 := rfl
theorem fk_0_5 : fk 0 5 = 2 := rfl
theorem fk_0_6 : fk 0 6 = 2 := rfl
theorem fk_0_7 : fk 0 7 = 2 := rfl
theorem fk_0_8 : fk 0 8 = 2 := rfl
theorem fk_0_9 : fk 0 9 = 2 := rfl
theorem fk_1_0 : fk 1 0 = 0 := rfl
theorem fk_1_1 : fk 1 1 = 0 := rfl
theorem fk_1_2 : fk 1 2 = 3 := rfl
theorem fk_1_3 : fk 1 3 = 2 := rfl
theorem fk_1_4 : fk 1 4 = 2 := rfl
theorem fk_2_0 : fk 2 0 = 2 := rfl
theorem fk_2_1 : fk 2 1 = 2 := rfl
theorem fk_2_2 : fk 2 2 = 2 := rfl
theorem fk_2_3 : fk 2 3 = 2 := rfl
theorem fk_2_4 : fk 2 4 = 2 := rfl
theorem fk_2_5 : fk 2 5 = 2 := rfl
theorem fk_2_6 : fk 2 6 = 2 := rfl
theorem fk_2_7 : fk 2 7 = 2 := rfl
theorem fk_2_8 : fk 2 8 = 2 := rfl
theorem fk_2_9 : fk 2 9 = 2 := rfl
theorem fk_2_10 : fk 2 10 = 2 := rfl
theorem fk_2_11 : fk 2 11 = 2 := rfl
theorem fk_2_12 : fk 2 12 = 2 := rfl
theorem fk_2_13 : fk 2 13 = 2 := rfl
theorem fk_2_14 : fk 2 14 = 0 := rfl
theorem fk_2_15 : fk 2 15 = 1 := rfl
theorem fk_3_0 : fk 3 0 = 0 := rfl
theorem fk_3_1 : fk 3 1 = 0 := rfl
theorem fk_3_2 : fk 3 2 = 0 := rfl
theorem fk_3_3 : fk 3 3 = 0 := rfl
theorem fk_3_4 : fk 3 4 = 0 := rfl
theorem fk_3_5 : fk 3 5 = 0 := rfl
theorem fk_3_6 : fk 3 6 = 2 := rfl
theorem fk_3_7 : fk 3 7 = 2 := rfl
theorem fk_3_8 : fk 3 8 = 2 := rfl
theorem fk_3_9 : fk 3 9 = 2 := rfl
theorem fk_3_10 : fk 3 10 = 2 := rfl
theorem fk_3_11 : fk 3 11 = 2 := rfl
theorem fk_4_0 : fk 4 0 = 2 := rfl
theorem fk_4_1 : fk 4 1 = 2 := rfl
theorem fk_4_2 : fk 4 2 = 0 := rfl
theorem fk_4_3 : fk 4 3 = 1 := rfl
theorem fk_4_4 : fk 4 4 = 1 := rfl
theorem fk_4_5 : fk 4 5 = 1 := rfl
theorem fk_5_0 : fk 5 0 = 2 := rfl
theorem fk_5_1 : fk 5 1 = 0 := rfl
theorem fk_5_2 : fk 5 2 = 2 := rfl
theorem fk_5_3 : fk 5 3 = 0 := rfl
theorem fk_5_4 : fk 5 4 = 0 := rfl
theorem fk_5_5 : fk 5 5 = 0 := rfl
theorem fk_5_6 : fk 5 6 = 0 := rfl
theorem fk_5_7 : fk 5 7 = 0 := rfl
theorem fk_5_8 : fk 5 8 = 0 := rfl
theorem fk_5_9 : fk 5 9 = 0 := rfl
theorem fk_5_10 : fk 5 10 = 0 := rfl
theorem fk_6_0 : fk 6 0 = 2 := rfl
theorem fk_6_1 : fk 6 1 = 2 := rfl
theorem fk_6_2 : fk 6 2 = 2 := rfl
theorem fk_6_3 : fk 6 3 = 2 := rfl
theorem fk_6_4 : fk 6 4 = 2 := rfl
theorem fk_6_5 : fk 6 5 = 2 := rfl
theorem fk_6_6 : fk 6 6 = 0 := rfl
theorem fk_7_0 : fk 7 0 = 2 := rfl
theorem fk_7_1 : fk 7 1 = 2 := rfl
theorem fk_7_2 : fk 7 2 = 2 := rfl
theorem fk_8_0 : fk 8 0 = 0 := rfl
theorem fk_8_1 : fk 8 1 = 0 := rfl
theorem fk_8_2 : fk 8 2 = 2 := rfl
theorem fk_9_0 : fk 9 0 = 2 := rfl
theorem fk_9_1 : fk 9 1 = 2 := rfl
theorem fk_9_2 : fk 9 2 = 2 := rfl
theorem fk_9_3 : fk 9 3 = 0 := rfl
theorem fk_9_4 : fk 9 4 = 0 := rfl
theorem fk_9_5 : fk 9 5 = 0 := rfl
theorem fk_9_6 : fk 9 6 = 0 := rfl
theorem fk_9_7 : fk 9 7 = 0 := rfl
theorem fk_9_8 : fk 9 8 = 0 := rfl
theorem fk_10_0 : fk 10 0 = 2 := rfl
theorem fk_10_1 : fk 10 1 = 2 := rfl
theorem fk_10_2 : fk 10 2 = 2 := rfl
theorem fk_10_3 : fk 10 3 = 2 := rfl
theorem fk_10_4 : fk 10 4 = 2 := rfl
theorem fk_10_5 : fk 10 5 = 2 := rfl
theorem fk_10_6 : fk 10 6 = 2 := rfl
theorem fk_10_7 : fk 10 7 = 2 := rfl
theorem fk_10_8 : fk 10 8 = 2 := rfl
theorem fk_10_9 : fk 10 9 = 2 := rfl
theorem fk_10_10 : fk 10 10 = 2 := rfl
theorem fk_10_11 : fk 10 11 = 2 := rfl
theorem fk_10_12 : fk 10 12 = 2 := rfl
theorem fk_10_13 : fk 10 13 = 1 := rfl
theorem fk_10_14 : fk 10 14 = 1 := rfl
theorem fk_10_15 : fk 10 15 = 0 := rfl
theorem fk_11_0 : fk 11 0 = 2 := rfl
theorem fk_11_1 : fk 11 1 = 2 := rfl
theorem fk_11_2 : fk 11 2 = 2 := rfl
theorem fk_11_3 : fk 11 3 = 0 := rfl
theorem fk_11_4 : fk 11 4 = 2 := rfl
theorem fk_11_5 : fk 11 5 = 2 := rfl
theorem fk_11_6 : fk 11 6 = 0 := rfl
theorem fk_11_7 : fk 11 7 = 0 := rfl
theorem fk_11_8 : fk 11 8 = 0 := rfl
theorem fk_11_9 : fk 11 9 = 0 := rfl
theorem fk_11_10 : fk 11 10 = 0 := rfl
theorem fk_11_11 : fk 11 11 = 0 := rfl
theorem fk_11_12 : fk 11 12 = 0 := rfl
theorem fk_11_13 : fk 11 13 = 0 := rfl
theorem fk_11_14 : fk 11 14 = 0 := rfl
theorem fk_11_15 : fk 11 15 = 0 := rfl
theorem fk_11_16 : fk 11 16 = 1 := rfl
theorem fk_11_17 : fk 11 17 = 1 := rfl
theorem fk_11_18 : fk 11 18 = 1 := rfl
theorem fk_11_19 : fk 11 19 = 2 := rfl
theorem fk_11_20 : fk 11 20 = 2 := rfl
theorem fk_11_21 : fk 11 21 = 2 := rfl
theorem fk_11_22 : fk 11 22 = 2 := rfl
theorem fk_11_23 : fk 11 23 = 2 := rfl
theorem fk_11_24 : fk 11 24 = 1 := rfl
theorem fk_11_25 : fk 11 25 = 1 := rfl
theorem fk_11_26 : fk 11 26 = 1 := rfl
theorem fk_11_27 : fk 11 27 = 2 := rfl
theorem fk_11_28 : fk 11 28 = 2 := rfl
theorem fk_11_29 : fk 11 29 = 2 := rfl
theorem fk_11_30 : fk 11 30 = 2 := rfl
theorem fk_11_31 : fk 11 31 = 2 := rfl
theorem fk_11_32 : fk 11 32 = 0 := rfl
theorem fk_11_33 : fk 11 33 = 2 := rfl
theorem fk_11_34 : fk 11 34 = 2 := rfl
theorem fk_11_35 : fk 11 35 = 2 := rfl
theorem mGet_0 {fl : Nat → Bool} {I : mM} {i b : Nat} : mGet fl I i b 0 = mI (I i b) := rfl
theorem mGet_1 {fl : Nat → Bool} {I : mM} {i b : Nat} : mGet fl I i b 1 = mL (I i b) := rfl
theorem mGet_2 {fl : Nat → Bool} {I : mM} {i b : Nat} : mGet fl I i b 2 = mR (RF fl i b) := rfl
theorem mGet_3 {fl : Nat → Bool} {I : mM} {i b : Nat} : mGet fl I i b 3 = mI (I i b) := rfl
