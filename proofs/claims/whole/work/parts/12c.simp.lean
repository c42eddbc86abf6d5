section MSIMP
variable {S : Nat → mSp} {J : Nat → mK} {Q : mO → mM → Prop} {X : String → mLv → mM → Prop} {fl : Nat → Bool} {ro : mRo} {r : mLv} {st : mSt} {I : mM} {k : mK}
theorem ldI0 {y : Int} : w_ld 0 0 k (some (mI y) :: r) st I = k (some (mI y) :: r) (mI y :: st) I := propext ⟨fun h => h.2, fun h => ⟨rfl, h⟩⟩
theorem stI0 {z0 : Option mV} {y : Int} : w_st 0 0 k (z0 :: r) (mI y :: st) I = k (mPut (z0 :: r) 0 (mI y)) st I := propext ⟨fun h => h.2.2, fun h => ⟨rfl, (by simp [List.length_cons] <;> omega), h⟩⟩
theorem ldL0 {y : Int} : w_ld 0 1 k (some (mL y) :: r) st I = k (some (mL y) :: r) (mL y :: st) I := propext ⟨fun h => h.2, fun h => ⟨rfl, h⟩⟩
theorem stL0 {z0 z1 : Option mV} {y : Int} : w_st 0 1 k (z0 :: z1 :: r) (mL y :: st) I = k (mPut (z0 :: z1 :: r) 0 (mL y)) st I := propext ⟨fun h => h.2.2, fun h => ⟨rfl, (by simp [List.length_cons] <;> omega), h⟩⟩
theorem ldR0 {y : Option Nat} : w_ld 0 2 k (some (mR y) :: r) st I = k (some (mR y) :: r) (mR y :: st) I := propext ⟨fun h => h.2, fun h => ⟨rfl, h⟩⟩
theorem stR0 {z0 : Option mV} {y : Option Nat} : w_st 0 2 k (z0 :: r) (mR y :: st) I = k (mPut (z0 :: r) 0 (mR y)) st I := propext ⟨fun h => h.2.2, fun h => ⟨rfl, (by simp [List.length_cons] <;> omega), h⟩⟩
theorem inc0 {y x : Int} : w_iinc 0 x k (some (mI y) :: r) st I = k (mPut (some (mI y) :: r) 0 (mI (y + x))) st I := rfl
theorem ldI1 {x0 : Option mV} {y : Int} : w_ld 1 0 k (x0 :: some (mI y) :: r) st I = k (x0 :: some (mI y) :: r) (mI y :: st) I := propext ⟨fun h => h.2, fun h => ⟨rfl, h⟩⟩
theorem stI1 {x0 : Option mV} {z0 : Option mV} {y : Int} : w_st 1 0 k (x0 :: z0 :: r) (mI y :: st) I = k (mPut (x0 :: z0 :: r) 1 (mI y)) st I := propext ⟨fun h => h.2.2, fun h => ⟨rfl, (by simp [List.length_cons] <;> omega), h⟩⟩
theorem ldL1 {x0 : Option mV} {y : Int} : w_ld 1 1 k (x0 :: some (mL y) :: r) st I = k (x0 :: some (mL y) :: r) (mL y :: st) I := propext ⟨fun h => h.2, fun h => ⟨rfl, h⟩⟩
theorem stL1 {x0 : Option mV} {z0 z1 : Option mV} {y : Int} : w_st 1 1 k (x0 :: z0 :: z1 :: r) (mL y :: st) I = k (mPut (x0 :: z0 :: z1 :: r) 1 (mL y)) st I := propext ⟨fun h => h.2.2, fun h => ⟨rfl, (by simp [List.length_cons] <;> omega), h⟩⟩
theorem ldR1 {x0 : Option mV} {y : Option Nat} : w_ld 1 2 k (x0 :: some (mR y) :: r) st I = k (x0 :: some (mR y) :: r) (mR y :: st) I := propext ⟨fun h => h.2, fun h => ⟨rfl, h⟩⟩
theorem stR1 {x0 : Option mV} {z0 : Option mV} {y : Option Nat} : w_st 1 2 k (x0 :: z0 :: r) (mR y :: st) I = k (mPut (x0 :: z0 :: r) 1 (mR y)) st I := propext ⟨fun h => h.2.2, fun h => ⟨rfl, (by simp [List.length_cons] <;> omega), h⟩⟩
theorem inc1 {x0 : Option mV} {y x : Int} : w_iinc 1 x k (x0 :: some (mI y) :: r) st I = k (mPut (x0 :: some (mI y) :: r) 1 (mI (y + x))) st I := rfl
theorem ldI2 {x0 x1 : Option mV} {y : Int} : w_ld 2 0 k (x0 :: x1 :: some (mI y) :: r) st I = k (x0 :: x1 :: some (mI y) :: r) (mI y :: st) I := propext ⟨fun h => h.2, fun h => ⟨rfl, h⟩⟩
theorem stI2 {x0 x1 : Option mV} {z0 : Option mV} {y : Int} : w_st 2 0 k (x0 :: x1 :: z0 :: r) (mI y :: st) I = k (mPut (x0 :: x1 :: z0 :: r) 2 (mI y)) st I := propext ⟨fun h => h.2.2, fun h => ⟨rfl, (by simp [List.length_cons] <;> omega), h⟩⟩
theorem ldL2 {x0 x1 : Option mV} {y : Int} : w_ld 2 1 k (x0 :: x1 :: some (mL y) :: r) st I = k (x0 :: x1 :: some (mL y) :: r) (mL y :: st) I := propext ⟨fun h => h.2, fun h => ⟨rfl, h⟩⟩
theorem stL2 {x0 x1 : Option mV} {z0 z1 : Option mV} {y : Int} : w_st 2 1 k (x0 :: x1 :: z0 :: z1 :: r) (mL y :: st) I = k (mPut (x0 :: x1 :: z0 :: z1 :: r) 2 (mL y)) st I := propext ⟨fun h => h.2.2, fun h => ⟨rfl, (by simp [List.length_cons] <;> omega), h⟩⟩
theorem ldR2 {x0 x1 : Option mV} {y : Option Nat} : w_ld 2 2 k (x0 :: x1 :: some (mR y) :: r) st I = k (x0 :: x1 :: some (mR y) :: r) (mR y :: st) I := propext ⟨fun h => h.2, fun h => ⟨rfl, h⟩⟩
theorem stR2 {x0 x1 : Option mV} {z0 : Option mV} {y : Option Nat} : w_st 2 2 k (x0 :: x1 :: z0 :: r) (mR y :: st) I = k (mPut (x0 :: x1 :: z0 :: r) 2 (mR y)) st I := propext ⟨fun h => h.2.2, fun h => ⟨rfl, (by simp [List.length_cons] <;> omega), h⟩⟩
theorem inc2 {x0 x1 : Option mV} {y x : Int} : w_iinc 2 x k (x0 :: x1 :: some (mI y) :: r) st I = k (mPut (x0 :: x1 :: some (mI y) :: r) 2 (mI (y + x))) st I := rfl
theorem ldI3 {x0 x1 x2 : Option mV} {y : Int} : w_ld 3 0 k (x0 :: x1 :: x2 :: some (mI y) :: r) st I = k (x0 :: x1 :: x2 :: some (mI y) :: r) (mI y :: st) I := propext ⟨fun h => h.2, fun h => ⟨rfl, h⟩⟩
theorem stI3 {x0 x1 x2 : Option mV} {z0 : Option mV} {y : Int} : w_st 3 0 k (x0 :: x1 :: x2 :: z0 :: r) (mI y :: st) I = k (mPut (x0 :: x1 :: x2 :: z0 :: r) 3 (mI y)) st I := propext ⟨fun h => h.2.2, fun h => ⟨rfl, (by simp [List.length_cons] <;> omega), h⟩⟩
theorem ldL3 {x0 x1 x2 : Option mV} {y : Int} : w_ld 3 1 k (x0 :: x1 :: x2 :: some (mL y) :: r) st I = k (x0 :: x1 :: x2 :: some (mL y) :: r) (mL y :: st) I := propext ⟨fun h => h.2, fun h => ⟨rfl, h⟩⟩
theorem stL3 {x0 x1 x2 : Option mV} {z0 z1 : Option mV} {y : Int} : w_st 3 1 k (x0 :: x1 :: x2 :: z0 :: z1 :: r) (mL y :: st) I = k (mPut (x0 :: x1 :: x2 :: z0 :: z1 :: r) 3 (mL y)) st I := propext ⟨fun h => h.2.2, fun h => ⟨rfl, (by simp [List.length_cons] <;> omega), h⟩⟩
theorem ldR3 {x0 x1 x2 : Option mV} {y : Option Nat} : w_ld 3 2 k (x0 :: x1 :: x2 :: some (mR y) :: r) st I = k (x0 :: x1 :: x2 :: some (mR y) :: r) (mR y :: st) I := propext ⟨fun h => h.2, fun h => ⟨rfl, h⟩⟩
theorem stR3 {x0 x1 x2 : Option mV} {z0 : Option mV} {y : Option Nat} : w_st 3 2 k (x0 :: x1 :: x2 :: z0 :: r) (mR y :: st) I = k (mPut (x0 :: x1 :: x2 :: z0 :: r) 3 (mR y)) st I := propext ⟨fun h => h.2.2, fun h => ⟨rfl, (by simp [List.length_cons] <;> omega), h⟩⟩
theorem inc3 {x0 x1 x2 : Option mV} {y x : Int} : w_iinc 3 x k (x0 :: x1 :: x2 :: some (mI y) :: r) st I = k (mPut (x0 :: x1 :: x2 :: some (mI y) :: r) 3 (mI (y + x))) st I := rfl
theorem ldI4 {x0 x1 x2 x3 : Option mV} {y : Int} : w_ld 4 0 k (x0 :: x1 :: x2 :: x3 :: some (mI y) :: r) st I = k (x0 :: x1 :: x2 :: x3 :: some (mI y) :: r) (mI y :: st) I := propext ⟨fun h => h.2, fun h => ⟨rfl, h⟩⟩
theorem stI4 {x0 x1 x2 x3 : Option mV} {z0 : Option mV} {y : Int} : w_st 4 0 k (x0 :: x1 :: x2 :: x3 :: z0 :: r) (mI y :: st) I = k (mPut (x0 :: x1 :: x2 :: x3 :: z0 :: r) 4 (mI y)) st I := propext ⟨fun h => h.2.2, fun h => ⟨rfl, (by simp [List.length_cons] <;> omega), h⟩⟩
theorem ldL4 {x0 x1 x2 x3 : Option mV} {y : Int} : w_ld 4 1 k (x0 :: x1 :: x2 :: x3 :: some (mL y) :: r) st I = k (x0 :: x1 :: x2 :: x3 :: some (mL y) :: r) (mL y :: st) I := propext ⟨fun h => h.2, fun h => ⟨rfl, h⟩⟩
theorem stL4 {x0 x1 x2 x3 : Option mV} {z0 z1 : Option mV} {y : Int} : w_st 4 1 k (x0 :: x1 :: x2 :: x3 :: z0 :: z1 :: r) (mL y :: st) I = k (mPut (x0 :: x1 :: x2 :: x3 :: z0 :: z1 :: r) 4 (mL y)) st I := propext ⟨fun h => h.2.2, fun h => ⟨rfl, (by simp [List.length_cons] <;> omega), h⟩⟩
theorem ldR4 {x0 x1 x2 x3 : Option mV} {y : Option Nat} : w_ld 4 2 k (x0 :: x1 :: x2 :: x3 :: some (mR y) :: r) st I = k (x0 :: x1 :: x2 :: x3 :: some (mR y) :: r) (mR y :: st) I := propext ⟨fun h => h.2, fun h => ⟨rfl, h⟩⟩
theorem stR4 {x0 x1 x2 x3 : Option mV} {z0 : Option mV} {y : Option Nat} : w_st 4 2 k (x0 :: x1 :: x2 :: x3 :: z0 :: r) (mR y :: st) I = k (mPut (x0 :: x1 :: x2 :: x3 :: z0 :: r) 4 (mR y)) st I := propext ⟨fun h => h.2.2, fun h => ⟨rfl, (by simp [List.length_cons] <;> omega), h⟩⟩
theorem inc4 {x0 x1 x2 x3 : Option mV} {y x : Int} : w_iinc 4 x k (x0 :: x1 :: x2 :: x3 :: some (mI y) :: r) st I = k (mPut (x0 :: x1 :: x2 :: x3 :: some (mI y) :: r) 4 (mI (y + x))) st I := rfl
theorem ldI5 {x0 x1 x2 x3 x4 : Option mV} {y : Int} : w_ld 5 0 k (x0 :: x1 :: x2 :: x3 :: x4 :: some (mI y) :: r) st I = k (x0 :: x1 :: x2 :: x3 :: x4 :: some (mI y) :: r) (mI y :: st) I := propext ⟨fun h => h.2, fun h => ⟨rfl, h⟩⟩
theorem stI5 {x0 x1 x2 x3 x4 : Option mV} {z0 : Option mV} {y : Int} : w_st 5 0 k (x0 :: x1 :: x2 :: x3 :: x4 :: z0 :: r) (mI y :: st) I = k (mPut (x0 :: x1 :: x2 :: x3 :: x4 :: z0 :: r) 5 (mI y)) st I := propext ⟨fun h => h.2.2, fun h => ⟨rfl, (by simp [List.length_cons] <;> omega), h⟩⟩
theorem ldL5 {x0 x1 x2 x3 x4 : Option mV} {y : Int} : w_ld 5 1 k (x0 :: x1 :: x2 :: x3 :: x4 :: some (mL y) :: r) st I = k (x0 :: x1 :: x2 :: x3 :: x4 :: some (mL y) :: r) (mL y :: st) I := propext ⟨fun h => h.2, fun h => ⟨rfl, h⟩⟩
theorem stL5 {x0 x1 x2 x3 x4 : Option mV} {z0 z1 : Option mV} {y : Int} : w_st 5 1 k (x0 :: x1 :: x2 :: x3 :: x4 :: z0 :: z1 :: r) (mL y :: st) I = k (mPut (x0 :: x1 :: x2 :: x3 :: x4 :: z0 :: z1 :: r) 5 (mL y)) st I := propext ⟨fun h => h.2.2, fun h => ⟨rfl, (by simp [List.length_cons] <;> omega), h⟩⟩
theorem ldR5 {x0 x1 x2 x3 x4 : Option mV} {y : Option Nat} : w_ld 5 2 k (x0 :: x1 :: x2 :: x3 :: x4 :: some (mR y) :: r) st I = k (x0 :: x1 :: x2 :: x3 :: x4 :: some (mR y) :: r) (mR y :: st) I := propext ⟨fun h => h.2, fun h => ⟨rfl, h⟩⟩
theorem stR5 {x0 x1 x2 x3 x4 : Option mV} {z0 : Option mV} {y : Option Nat} : w_st 5 2 k (x0 :: x1 :: x2 :: x3 :: x4 :: z0 :: r) (mR y :: st) I = k (mPut (x0 :: x1 :: x2 :: x3 :: x4 :: z0 :: r) 5 (mR y)) st I := propext ⟨fun h => h.2.2, fun h => ⟨rfl, (by simp [List.length_cons] <;> omega), h⟩⟩
theorem inc5 {x0 x1 x2 x3 x4 : Option mV} {y x : Int} : w_iinc 5 x k (x0 :: x1 :: x2 :: x3 :: x4 :: some (mI y) :: r) st I = k (mPut (x0 :: x1 :: x2 :: x3 :: x4 :: some (mI y) :: r) 5 (mI (y + x))) st I := rfl
theorem ldI6 {x0 x1 x2 x3 x4 x5 : Option mV} {y : Int} : w_ld 6 0 k (x0 :: x1 :: x2 :: x3 :: x4 :: x5 :: some (mI y) :: r) st I = k (x0 :: x1 :: x2 :: x3 :: x4 :: x5 :: some (mI y) :: r) (mI y :: st) I := propext ⟨fun h => h.2, fun h => ⟨rfl, h⟩⟩
theorem stI6 {x0 x1 x2 x3 x4 x5 : Option mV} {z0 : Option mV} {y : Int} : w_st 6 0 k (x0 :: x1 :: x2 :: x3 :: x4 :: x5 :: z0 :: r) (mI y :: st) I = k (mPut (x0 :: x1 :: x2 :: x3 :: x4 :: x5 :: z0 :: r) 6 (mI y)) st I := propext ⟨fun h => h.2.2, fun h => ⟨rfl, (by simp [List.length_cons] <;> omega), h⟩⟩
theorem ldL6 {x0 x1 x2 x3 x4 x5 : Option mV} {y : Int} : w_ld 6 1 k (x0 :: x1 :: x2 :: x3 :: x4 :: x5 :: some (mL y) :: r) st I = k (x0 :: x1 :: x2 :: x3 :: x4 :: x5 :: some (mL y) :: r) (mL y :: st) I := propext ⟨fun h => h.2, fun h => ⟨rfl, h⟩⟩
theorem stL6 {x0 x1 x2 x3 x4 x5 : Option mV} {z0 z1 : Option mV} {y : Int} : w_st 6 1 k (x0 :: x1 :: x2 :: x3 :: x4 :: x5 :: z0 :: z1 :: r) (mL y :: st) I = k (mPut (x0 :: x1 :: x2 :: x3 :: x4 :: x5 :: z0 :: z1 :: r) 6 (mL y)) st I := propext ⟨fun h => h.2.2, fun h => ⟨rfl, (by simp [List.length_cons] <;> omega), h⟩⟩
theorem ldR6 {x0 x1 x2 x3 x4 x5 : Option mV} {y : Option Nat} : w_ld 6 2 k (x0 :: x1 :: x2 :: x3 :: x4 :: x5 :: some (mR y) :: r) st I = k (x0 :: x1 :: x2 :: x3 :: x4 :: x5 :: some (mR y) :: r) (mR y :: st) I := propext ⟨fun h => h.2, fun h => ⟨rfl, h⟩⟩
theorem stR6 {x0 x1 x2 x3 x4 x5 : Option mV} {z0 : Option mV} {y : Option Nat} : w_st 6 2 k (x0 :: x1 :: x2 :: x3 :: x4 :: x5 :: z0 :: r) (mR y :: st) I = k (mPut (x0 :: x1 :: x2 :: x3 :: x4 :: x5 :: z0 :: r) 6 (mR y)) st I := propext ⟨fun h => h.2.2, fun h => ⟨rfl, (by simp [List.length_cons] <;> omega), h⟩⟩
theorem inc6 {x0 x1 x2 x3 x4 x5 : Option mV} {y x : Int} : w_iinc 6 x k (x0 :: x1 :: x2 :: x3 :: x4 :: x5 :: some (mI y) :: r) st I = k (mPut (x0 :: x1 :: x2 :: x3 :: x4 :: x5 :: some (mI y) :: r) 6 (mI (y + x))) st I := rfl
theorem ldI7 {x0 x1 x2 x3 x4 x5 x6 : Option mV} {y : Int} : w_ld 7 0 k (x0 :: x1 :: x2 :: x3 :: x4 :: x5 :: x6 :: some (mI y) :: r) st I = k (x0 :: x1 :: x2 :: x3 :: x4 :: x5 :: x6 :: some (mI y) :: r) (mI y :: st) I := propext ⟨fun h => h.2, fun h => ⟨rfl, h⟩⟩
theorem stI7 {x0 x1 x2 x3 x4 x5 x6 : Option mV} {z0 : Option mV} {y : Int} : w_st 7 0 k (x0 :: x1 :: x2 :: x3 :: x4 :: x5 :: x6 :: z0 :: r) (mI y :: st) I = k (mPut (x0 :: x1 :: x2 :: x3 :: x4 :: x5 :: x6 :: z0 :: r) 7 (mI y)) st I := propext ⟨fun h => h.2.2, fun h => ⟨rfl, (by simp [List.length_cons] <;> omega), h⟩⟩
theorem ldL7 {x0 x1 x2 x3 x4 x5 x6 : Option mV} {y : Int} : w_ld 7 1 k (x0 :: x1 :: x2 :: x3 :: x4 :: x5 :: x6 :: some (mL y) :: r) st I = k (x0 :: x1 :: x2 :: x3 :: x4 :: x5 :: x6 :: some (mL y) :: r) (mL y :: st) I := propext ⟨fun h => h.2, fun h => ⟨rfl, h⟩⟩
theorem stL7 {x0 x1 x2 x3 x4 x5 x6 : Option mV} {z0 z1 : Option mV} {y : Int} : w_st 7 1 k (x0 :: x1 :: x2 :: x3 :: x4 :: x5 :: x6 :: z0 :: z1 :: r) (mL y :: st) I = k (mPut (x0 :: x1 :: x2 :: x3 :: x4 :: x5 :: x6 :: z0 :: z1 :: r) 7 (mL y)) st I := propext ⟨fun h => h.2.2, fun h => ⟨rfl, (by simp [List.length_cons] <;> omega), h⟩⟩
theorem ldR7 {x0 x1 x2 x3 x4 x5 x6 : Option mV} {y : Option Nat} : w_ld 7 2 k (x0 :: x1 :: x2 :: x3 :: x4 :: x5 :: x6 :: some (mR y) :: r) st I = k (x0 :: x1 :: x2 :: x3 :: x4 :: x5 :: x6 :: some (mR y) :: r) (mR y :: st) I := propext ⟨fun h => h.2, fun h => ⟨rfl, h⟩⟩
theorem stR7 {x0 x1 x2 x3 x4 x5 x6 : Option mV} {z0 : Option mV} {y : Option Nat} : w_st 7 2 k (x0 :: x1 :: x2 :: x3 :: x4 :: x5 :: x6 :: z0 :: r) (mR y :: st) I = k (mPut (x0 :: x1 :: x2 :: x3 :: x4 :: x5 :: x6 :: z0 :: r) 7 (mR y)) st I := propext ⟨fun h => h.2.2, fun h => ⟨rfl, (by simp [List.length_cons] <;> omega), h⟩⟩
theorem inc7 {x0 x1 x2 x3 x4 x5 x6 : Option mV} {y x : Int} : w_iinc 7 x k (x0 :: x1 :: x2 :: x3 :: x4 :: x5 :: x6 :: some (mI y) :: r) st I = k (mPut (x0 :: x1 :: x2 :: x3 :: x4 :: x5 :: x6 :: some (mI y) :: r) 7 (mI (y + x))) st I := rfl
theorem ldI8 {x0 x1 x2 x3 x4 x5 x6 x7 : Option mV} {y : Int} : w_ld 8 0 k (x0 :: x1 :: x2 :: x3 :: x4 :: x5 :: x6 :: x7 :: some (mI y) :: r) st I = k (x0 :: x1 :: x2 :: x3 :: x4 :: x5 :: x6 :: x7 :: some (mI y) :: r) (mI y :: st) I := propext ⟨fun h => h.2, fun h => ⟨rfl, h⟩⟩
theorem stI8 {x0 x1 x2 x3 x4 x5 x6 x7 : Option mV} {z0 : Option mV} {y : Int} : w_st 8 0 k (x0 :: x1 :: x2 :: x3 :: x4 :: x5 :: x6 :: x7 :: z0 :: r) (mI y :: st) I = k (mPut (x0 :: x1 :: x2 :: x3 :: x4 :: x5 :: x6 :: x7 :: z0 :: r) 8 (mI y)) st I := propext ⟨fun h => h.2.2, fun h => ⟨rfl, (by simp [List.length_cons] <;> omega), h⟩⟩
theorem ldL8 {x0 x1 x2 x3 x4 x5 x6 x7 : Option mV} {y : Int} : w_ld 8 1 k (x0 :: x1 :: x2 :: x3 :: x4 :: x5 :: x6 :: x7 :: some (mL y) :: r) st I = k (x0 :: x1 :: x2 :: x3 :: x4 :: x5 :: x6 :: x7 :: some (mL y) :: r) (mL y :: st) I := propext ⟨fun h => h.2, fun h => ⟨rfl, h⟩⟩
theorem stL8 {x0 x1 x2 x3 x4 x5 x6 x7 : Option mV} {z0 z1 : Option mV} {y : Int} : w_st 8 1 k (x0 :: x1 :: x2 :: x3 :: x4 :: x5 :: x6 :: x7 :: z0 :: z1 :: r) (mL y :: st) I = k (mPut (x0 :: x1 :: x2 :: x3 :: x4 :: x5 :: x6 :: x7 :: z0 :: z1 :: r) 8 (mL y)) st I := propext ⟨fun h => h.2.2, fun h => ⟨rfl, (by simp [List.length_cons] <;> omega), h⟩⟩
theorem ldR8 {x0 x1 x2 x3 x4 x5 x6 x7 : Option mV} {y : Option Nat} : w_ld 8 2 k (x0 :: x1 :: x2 :: x3 :: x4 :: x5 :: x6 :: x7 :: some (mR y) :: r) st I = k (x0 :: x1 :: x2 :: x3 :: x4 :: x5 :: x6 :: x7 :: some (mR y) :: r) (mR y :: st) I := propext ⟨fun h => h.2, fun h => ⟨rfl, h⟩⟩
theorem stR8 {x0 x1 x2 x3 x4 x5 x6 x7 : Option mV} {z0 : Option mV} {y : Option Nat} : w_st 8 2 k (x0 :: x1 :: x2 :: x3 :: x4 :: x5 :: x6 :: x7 :: z0 :: r) (mR y :: st) I = k (mPut (x0 :: x1 :: x2 :: x3 :: x4 :: x5 :: x6 :: x7 :: z0 :: r) 8 (mR y)) st I := propext ⟨fun h => h.2.2, fun h => ⟨rfl, (by simp [List.length_cons] <;> omega), h⟩⟩
theorem inc8 {x0 x1 x2 x3 x4 x5 x6 x7 : Option mV} {y x : Int} : w_iinc 8 x k (x0 :: x1 :: x2 :: x3 :: x4 :: x5 :: x6 :: x7 :: some (mI y) :: r) st I = k (mPut (x0 :: x1 :: x2 :: x3 :: x4 :: x5 :: x6 :: x7 :: some (mI y) :: r) 8 (mI (y + x))) st I := rfl
theorem ldI9 {x0 x1 x2 x3 x4 x5 x6 x7 x8 : Option mV} {y : Int} : w_ld 9 0 k (x0 :: x1 :: x2 :: x3 :: x4 :: x5 :: x6 :: x7 :: x8 :: some (mI y) :: r) st I = k (x0 :: x1 :: x2 :: x3 :: x4 :: x5 :: x6 :: x7 :: x8 :: some (mI y) :: r) (mI y :: st) I := propext ⟨fun h => h.2, fun h => ⟨rfl, h⟩⟩
theorem stI9 {x0 x1 x2 x3 x4 x5 x6 x7 x8 : Option mV} {z0 : Option mV} {y : Int} : w_st 9 0 k (x0 :: x1 :: x2 :: x3 :: x4 :: x5 :: x6 :: x7 :: x8 :: z0 :: r) (mI y :: st) I = k (mPut (x0 :: x1 :: x2 :: x3 :: x4 :: x5 :: x6 :: x7 :: x8 :: z0 :: r) 9 (mI y)) st I := propext ⟨fun h => h.2.2, fun h => ⟨rfl, (by simp [List.length_cons] <;> omega), h⟩⟩
theorem ldL9 {x0 x1 x2 x3 x4 x5 x6 x7 x8 : Option mV} {y : Int} : w_ld 9 1 k (x0 :: x1 :: x2 :: x3 :: x4 :: x5 :: x6 :: x7 :: x8 :: some (mL y) :: r) st I = k (x0 :: x1 :: x2 :: x3 :: x4 :: x5 :: x6 :: x7 :: x8 :: some (mL y) :: r) (mL y :: st) I := propext ⟨fun h => h.2, fun h => ⟨rfl, h⟩⟩
theorem stL9 {x0 x1 x2 x3 x4 x5 x6 x7 x8 : Option mV} {z0 z1 : Option mV} {y : Int} : w_st 9 1 k (x0 :: x1 :: x2 :: x3 :: x4 :: x5 :: x6 :: x7 :: x8 :: z0 :: z1 :: r) (mL y :: st) I = k (mPut (x0 :: x1 :: x2 :: x3 :: x4 :: x5 :: x6 :: x7 :: x8 :: z0 :: z1 :: r) 9 (mL y)) st I := propext ⟨fun h => h.2.2, fun h => ⟨rfl, (by simp [List.length_cons] <;> omega), h⟩⟩
theorem ldR9 {x0 x1 x2 x3 x4 x5 x6 x7 x8 : Option mV} {y : Option Nat} : w_ld 9 2 k (x0 :: x1 :: x2 :: x3 :: x4 :: x5 :: x6 :: x7 :: x8 :: some (mR y) :: r) st I = k (x0 :: x1 :: x2 :: x3 :: x4 :: x5 :: x6 :: x7 :: x8 :: some (mR y) :: r) (mR y :: st) I := propext ⟨fun h => h.2, fun h => ⟨rfl, h⟩⟩
theorem stR9 {x0 x1 x2 x3 x4 x5 x6 x7 x8 : Option mV} {z0 : Option mV} {y : Option Nat} : w_st 9 2 k (x0 :: x1 :: x2 :: x3 :: x4 :: x5 :: x6 :: x7 :: x8 :: z0 :: r) (mR y :: st) I = k (mPut (x0 :: x1 :: x2 :: x3 :: x4 :: x5 :: x6 :: x7 :: x8 :: z0 :: r) 9 (mR y)) st I := propext ⟨fun h => h.2.2, fun h => ⟨rfl, (by simp [List.length_cons] <;> omega), h⟩⟩
theorem inc9 {x0 x1 x2 x3 x4 x5 x6 x7 x8 : Option mV} {y x : Int} : w_iinc 9 x k (x0 :: x1 :: x2 :: x3 :: x4 :: x5 :: x6 :: x7 :: x8 :: some (mI y) :: r) st I = k (mPut (x0 :: x1 :: x2 :: x3 :: x4 :: x5 :: x6 :: x7 :: x8 :: some (mI y) :: r) 9 (mI (y + x))) st I := rfl
theorem ldI10 {x0 x1 x2 x3 x4 x5 x6 x7 x8 x9 : Option mV} {y : Int} : w_ld 10 0 k (x0 :: x1 :: x2 :: x3 :: x4 :: x5 :: x6 :: x7 :: x8 :: x9 :: some (mI y) :: r) st I = k (x0 :: x1 :: x2 :: x3 :: x4 :: x5 :: x6 :: x7 :: x8 :: x9 :: some (mI y) :: r) (mI y :: st) I := propext ⟨fun h => h.2, fun h => ⟨rfl, h⟩⟩
theorem stI10 {x0 x1 x2 x3 x4 x5 x6 x7 x8 x9 : Option mV} {z0 : Option mV} {y : Int} : w_st 10 0 k (x0 :: x1 :: x2 :: x3 :: x4 :: x5 :: x6 :: x7 :: x8 :: x9 :: z0 :: r) (mI y :: st) I = k (mPut (x0 :: x1 :: x2 :: x3 :: x4 :: x5 :: x6 :: x7 :: x8 :: x9 :: z0 :: r) 10 (mI y)) st I := propext ⟨fun h => h.2.2, fun h => ⟨rfl, (by simp [List.length_cons] <;> omega), h⟩⟩
theorem ldL10 {x0 x1 x2 x3 x4 x5 x6 x7 x8 x9 : Option mV} {y : Int} : w_ld 10 1 k (x0 :: x1 :: x2 :: x3 :: x4 :: x5 :: x6 :: x7 :: x8 :: x9 :: some (mL y) :: r) st I = k (x0 :: x1 :: x2 :: x3 :: x4 :: x5 :: x6 :: x7 :: x8 :: x9 :: some (mL y) :: r) (mL y :: st) I := propext ⟨fun h => h.2, fun h => ⟨rfl, h⟩⟩
theorem stL10 {x0 x1 x2 x3 x4 x5 x6 x7 x8 x9 : Option mV} {z0 z1 : Option mV} {y : Int} : w_st 10 1 k (x0 :: x1 :: x2 :: x3 :: x4 :: x5 :: x6 :: x7 :: x8 :: x9 :: z0 :: z1 :: r) (mL y :: st) I = k (mPut (x0 :: x1 :: x2 :: x3 :: x4 :: x5 :: x6 :: x7 :: x8 :: x9 :: z0 :: z1 :: r) 10 (mL y)) st I := propext ⟨fun h => h.2.2, fun h => ⟨rfl, (by simp [List.length_cons] <;> omega), h⟩⟩
theorem ldR10 {x0 x1 x2 x3 x4 x5 x6 x7 x8 x9 : Option mV} {y : Option Nat} : w_ld 10 2 k (x0 :: x1 :: x2 :: x3 :: x4 :: x5 :: x6 :: x7 :: x8 :: x9 :: some (mR y) :: r) st I = k (x0 :: x1 :: x2 :: x3 :: x4 :: x5 :: x6 :: x7 :: x8 :: x9 :: some (mR y) :: r) (mR y :: st) I := propext ⟨fun h => h.2, fun h => ⟨rfl, h⟩⟩
theorem stR10 {x0 x1 x2 x3 x4 x5 x6 x7 x8 x9 : Option mV} {z0 : Option mV} {y : Option Nat} : w_st 10 2 k (x0 :: x1 :: x2 :: x3 :: x4 :: x5 :: x6 :: x7 :: x8 :: x9 :: z0 :: r) (mR y :: st) I = k (mPut (x0 :: x1 :: x2 :: x3 :: x4 :: x5 :: x6 :: x7 :: x8 :: x9 :: z0 :: r) 10 (mR y)) st I := propext ⟨fun h => h.2.2, fun h => ⟨rfl, (by simp [List.length_cons] <;> omega), h⟩⟩
theorem inc10 {x0 x1 x2 x3 x4 x5 x6 x7 x8 x9 : Option mV} {y x : Int} : w_iinc 10 x k (x0 :: x1 :: x2 :: x3 :: x4 :: x5 :: x6 :: x7 :: x8 :: x9 :: some (mI y) :: r) st I = k (mPut (x0 :: x1 :: x2 :: x3 :: x4 :: x5 :: x6 :: x7 :: x8 :: x9 :: some (mI y) :: r) 10 (mI (y + x))) st I := rfl
theorem ldI11 {x0 x1 x2 x3 x4 x5 x6 x7 x8 x9 x10 : Option mV} {y : Int} : w_ld 11 0 k (x0 :: x1 :: x2 :: x3 :: x4 :: x5 :: x6 :: x7 :: x8 :: x9 :: x10 :: some (mI y) :: r) st I = k (x0 :: x1 :: x2 :: x3 :: x4 :: x5 :: x6 :: x7 :: x8 :: x9 :: x10 :: some (mI y) :: r) (mI y :: st) I := propext ⟨fun h => h.2, fun h => ⟨rfl, h⟩⟩
theorem stI11 {x0 x1 x2 x3 x4 x5 x6 x7 x8 x9 x10 : Option mV} {z0 : Option mV} {y : Int} : w_st 11 0 k (x0 :: x1 :: x2 :: x3 :: x4 :: x5 :: x6 :: x7 :: x8 :: x9 :: x10 :: z0 :: r) (mI y :: st) I = k (mPut (x0 :: x1 :: x2 :: x3 :: x4 :: x5 :: x6 :: x7 :: x8 :: x9 :: x10 :: z0 :: r) 11 (mI y)) st I := propext ⟨fun h => h.2.2, fun h => ⟨rfl, (by simp [List.length_cons] <;> omega), h⟩⟩
theorem ldL11 {x0 x1 x2 x3 x4 x5 x6 x7 x8 x9 x10 : Option mV} {y : Int} : w_ld 11 1 k (x0 :: x1 :: x2 :: x3 :: x4 :: x5 :: x6 :: x7 :: x8 :: x9 :: x10 :: some (mL y) :: r) st I = k (x0 :: x1 :: x2 :: x3 :: x4 :: x5 :: x6 :: x7 :: x8 :: x9 :: x10 :: some (mL y) :: r) (mL y :: st) I := propext ⟨fun h => h.2, fun h => ⟨rfl, h⟩⟩
theorem stL11 {x0 x1 x2 x3 x4 x5 x6 x7 x8 x9 x10 : Option mV} {z0 z1 : Option mV} {y : Int} : w_st 11 1 k (x0 :: x1 :: x2 :: x3 :: x4 :: x5 :: x6 :: x7 :: x8 :: x9 :: x10 :: z0 :: z1 :: r) (mL y :: st) I = k (mPut (x0 :: x1 :: x2 :: x3 :: x4 :: x5 :: x6 :: x7 :: x8 :: x9 :: x10 :: z0 :: z1 :: r) 11 (mL y)) st I := propext ⟨fun h => h.2.2, fun h => ⟨rfl, (by simp [List.length_cons] <;> omega), h⟩⟩
theorem ldR11 {x0 x1 x2 x3 x4 x5 x6 x7 x8 x9 x10 : Option mV} {y : Option Nat} : w_ld 11 2 k (x0 :: x1 :: x2 :: x3 :: x4 :: x5 :: x6 :: x7 :: x8 :: x9 :: x10 :: some (mR y) :: r) st I = k (x0 :: x1 :: x2 :: x3 :: x4 :: x5 :: x6 :: x7 :: x8 :: x9 :: x10 :: some (mR y) :: r) (mR y :: st) I := propext ⟨fun h => h.2, fun h => ⟨rfl, h⟩⟩
theorem stR11 {x0 x1 x2 x3 x4 x5 x6 x7 x8 x9 x10 : Option mV} {z0 : Option mV} {y : Option Nat} : w_st 11 2 k (x0 :: x1 :: x2 :: x3 :: x4 :: x5 :: x6 :: x7 :: x8 :: x9 :: x10 :: z0 :: r) (mR y :: st) I = k (mPut (x0 :: x1 :: x2 :: x3 :: x4 :: x5 :: x6 :: x7 :: x8 :: x9 :: x10 :: z0 :: r) 11 (mR y)) st I := propext ⟨fun h => h.2.2, fun h => ⟨rfl, (by simp [List.length_cons] <;> omega), h⟩⟩
theorem inc11 {x0 x1 x2 x3 x4 x5 x6 x7 x8 x9 x10 : Option mV} {y x : Int} : w_iinc 11 x k (x0 :: x1 :: x2 :: x3 :: x4 :: x5 :: x6 :: x7 :: x8 :: x9 :: x10 :: some (mI y) :: r) st I = k (mPut (x0 :: x1 :: x2 :: x3 :: x4 :: x5 :: x6 :: x7 :: x8 :: x9 :: x10 :: some (mI y) :: r) 11 (mI (y + x))) st I := rfl
theorem ldI12 {x0 x1 x2 x3 x4 x5 x6 x7 x8 x9 x10 x11 : Option mV} {y : Int} : w_ld 12 0 k (x0 :: x1 :: x2 :: x3 :: x4 :: x5 :: x6 :: x7 :: x8 :: x9 :: x10 :: x11 :: some (mI y) :: r) st I = k (x0 :: x1 :: x2 :: x3 :: x4 :: x5 :: x6 :: x7 :: x8 :: x9 :: x10 :: x11 :: some (mI y) :: r) (mI y :: st) I := propext ⟨fun h => h.2, fun h => ⟨rfl, h⟩⟩
theorem stI12 {x0 x1 x2 x3 x4 x5 x6 x7 x8 x9 x10 x11 : Option mV} {z0 : Option mV} {y : Int} : w_st 12 0 k (x0 :: x1 :: x2 :: x3 :: x4 :: x5 :: x6 :: x7 :: x8 :: x9 :: x10 :: x11 :: z0 :: r) (mI y :: st) I = k (mPut (x0 :: x1 :: x2 :: x3 :: x4 :: x5 :: x6 :: x7 :: x8 :: x9 :: x10 :: x11 :: z0 :: r) 12 (mI y)) st I := propext ⟨fun h => h.2.2, fun h => ⟨rfl, (by simp [List.length_cons] <;> omega), h⟩⟩
theorem ldL12 {x0 x1 x2 x3 x4 x5 x6 x7 x8 x9 x10 x11 : Option mV} {y : Int} : w_ld 12 1 k (x0 :: x1 :: x2 :: x3 :: x4 :: x5 :: x6 :: x7 :: x8 :: x9 :: x10 :: x11 :: some (mL y) :: r) st I = k (x0 :: x1 :: x2 :: x3 :: x4 :: x5 :: x6 :: x7 :: x8 :: x9 :: x10 :: x11 :: some (mL y) :: r) (mL y :: st) I := propext ⟨fun h => h.2, fun h => ⟨rfl, h⟩⟩
theorem stL12 {x0 x1 x2 x3 x4 x5 x6 x7 x8 x9 x10 x11 : Option mV} {z0 z1 : Option mV} {y : Int} : w_st 12 1 k (x0 :: x1 :: x2 :: x3 :: x4 :: x5 :: x6 :: x7 :: x8 :: x9 :: x10 :: x11 :: z0 :: z1 :: r) (mL y :: st) I = k (mPut (x0 :: x1 :: x2 :: x3 :: x4 :: x5 :: x6 :: x7 :: x8 :: x9 :: x10 :: x11 :: z0 :: z1 :: r) 12 (mL y)) st I := propext ⟨fun h => h.2.2, fun h => ⟨rfl, (by simp [List.length_cons] <;> omega), h⟩⟩
theorem ldR12 {x0 x1 x2 x3 x4 x5 x6 x7 x8 x9 x10 x11 : Option mV} {y : Option Nat} : w_ld 12 2 k (x0 :: x1 :: x2 :: x3 :: x4 :: x5 :: x6 :: x7 :: x8 :: x9 :: x10 :: x11 :: some (mR y) :: r) st I = k (x0 :: x1 :: x2 :: x3 :: x4 :: x5 :: x6 :: x7 :: x8 :: x9 :: x10 :: x11 :: some (mR y) :: r) (mR y :: st) I := propext ⟨fun h => h.2, fun h => ⟨rfl, h⟩⟩
theorem stR12 {x0 x1 x2 x3 x4 x5 x6 x7 x8 x9 x10 x11 : Option mV} {z0 : Option mV} {y : Option Nat} : w_st 12 2 k (x0 :: x1 :: x2 :: x3 :: x4 :: x5 :: x6 :: x7 :: x8 :: x9 :: x10 :: x11 :: z0 :: r) (mR y :: st) I = k (mPut (x0 :: x1 :: x2 :: x3 :: x4 :: x5 :: x6 :: x7 :: x8 :: x9 :: x10 :: x11 :: z0 :: r) 12 (mR y)) st I := propext ⟨fun h => h.2.2, fun h => ⟨rfl, (by simp [List.length_cons] <;> omega), h⟩⟩
theorem inc12 {x0 x1 x2 x3 x4 x5 x6 x7 x8 x9 x10 x11 : Option mV} {y x : Int} : w_iinc 12 x k (x0 :: x1 :: x2 :: x3 :: x4 :: x5 :: x6 :: x7 :: x8 :: x9 :: x10 :: x11 :: some (mI y) :: r) st I = k (mPut (x0 :: x1 :: x2 :: x3 :: x4 :: x5 :: x6 :: x7 :: x8 :: x9 :: x10 :: x11 :: some (mI y) :: r) 12 (mI (y + x))) st I := rfl
theorem ldI13 {x0 x1 x2 x3 x4 x5 x6 x7 x8 x9 x10 x11 x12 : Option mV} {y : Int} : w_ld 13 0 k (x0 :: x1 :: x2 :: x3 :: x4 :: x5 :: x6 :: x7 :: x8 :: x9 :: x10 :: x11 :: x12 :: some (mI y) :: r) st I = k (x0 :: x1 :: x2 :: x3 :: x4 :: x5 :: x6 :: x7 :: x8 :: x9 :: x10 :: x11 :: x12 :: some (mI y) :: r) (mI y :: st) I := propext ⟨fun h => h.2, fun h => ⟨rfl, h⟩⟩
theorem stI13 {x0 x1 x2 x3 x4 x5 x6 x7 x8 x9 x10 x11 x12 : Option mV} {z0 : Option mV} {y : Int} : w_st 13 0 k (x0 :: x1 :: x2 :: x3 :: x4 :: x5 :: x6 :: x7 :: x8 :: x9 :: x10 :: x11 :: x12 :: z0 :: r) (mI y :: st) I = k (mPut (x0 :: x1 :: x2 :: x3 :: x4 :: x5 :: x6 :: x7 :: x8 :: x9 :: x10 :: x11 :: x12 :: z0 :: r) 13 (mI y)) st I := propext ⟨fun h => h.2.2, fun h => ⟨rfl, (by simp [List.length_cons] <;> omega), h⟩⟩
theorem ldL13 {x0 x1 x2 x3 x4 x5 x6 x7 x8 x9 x10 x11 x12 : Option mV} {y : Int} : w_ld 13 1 k (x0 :: x1 :: x2 :: x3 :: x4 :: x5 :: x6 :: x7 :: x8 :: x9 :: x10 :: x11 :: x12 :: some (mL y) :: r) st I = k (x0 :: x1 :: x2 :: x3 :: x4 :: x5 :: x6 :: x7 :: x8 :: x9 :: x10 :: x11 :: x12 :: some (mL y) :: r) (mL y :: st) I := propext ⟨fun h => h.2, fun h => ⟨rfl, h⟩⟩
theorem stL13 {x0 x1 x2 x3 x4 x5 x6 x7 x8 x9 x10 x11 x12 : Option mV} {z0 z1 : Option mV} {y : Int} : w_st 13 1 k (x0 :: x1 :: x2 :: x3 :: x4 :: x5 :: x6 :: x7 :: x8 :: x9 :: x10 :: x11 :: x12 :: z0 :: z1 :: r) (mL y :: st) I = k (mPut (x0 :: x1 :: x2 :: x3 :: x4 :: x5 :: x6 :: x7 :: x8 :: x9 :: x10 :: x11 :: x12 :: z0 :: z1 :: r) 13 (mL y)) st I := propext ⟨fun h => h.2.2, fun h => ⟨rfl, (by simp [List.length_cons] <;> omega), h⟩⟩
theorem ldR13 {x0 x1 x2 x3 x4 x5 x6 x7 x8 x9 x10 x11 x12 : Option mV} {y : Option Nat} : w_ld 13 2 k (x0 :: x1 :: x2 :: x3 :: x4 :: x5 :: x6 :: x7 :: x8 :: x9 :: x10 :: x11 :: x12 :: some (mR y) :: r) st I = k (x0 :: x1 :: x2 :: x3 :: x4 :: x5 :: x6 :: x7 :: x8 :: x9 :: x10 :: x11 :: x12 :: some (mR y) :: r) (mR y :: st) I := propext ⟨fun h => h.2, fun h => ⟨rfl, h⟩⟩
theorem stR13 {x0 x1 x2 x3 x4 x5 x6 x7 x8 x9 x10 x11 x12 : Option mV} {z0 : Option mV} {y : Option Nat} : w_st 13 2 k (x0 :: x1 :: x2 :: x3 :: x4 :: x5 :: x6 :: x7 :: x8 :: x9 :: x10 :: x11 :: x12 :: z0 :: r) (mR y :: st) I = k (mPut (x0 :: x1 :: x2 :: x3 :: x4 :: x5 :: x6 :: x7 :: x8 :: x9 :: x10 :: x11 :: x12 :: z0 :: r) 13 (mR y)) st I := propext ⟨fun h => h.2.2, fun h => ⟨rfl, (by simp [List.length_cons] <;> omega), h⟩⟩
theorem inc13 {x0 x1 x2 x3 x4 x5 x6 x7 x8 x9 x10 x11 x12 : Option mV} {y x : Int} : w_iinc 13 x k (x0 :: x1 :: x2 :: x3 :: x4 :: x5 :: x6 :: x7 :: x8 :: x9 :: x10 :: x11 :: x12 :: some (mI y) :: r) st I = k (mPut (x0 :: x1 :: x2 :: x3 :: x4 :: x5 :: x6 :: x7 :: x8 :: x9 :: x10 :: x11 :: x12 :: some (mI y) :: r) 13 (mI (y + x))) st I := rfl
theorem mPut_s (x : Option mV) (r : mLv) (n : Nat) (v : mV) : mPut (x :: r) (n + 2) v = x :: mPut r (n + 1) v := by
  unfold mPut
  simp only [Nat.add_sub_cancel, List.getD_cons_succ, show n + 2 - 1 = n + 1 by omega, show ¬ (n + 2 = 0) by omega, show ¬ (n + 1 = 0) by omega, if_false]
  split <;> split <;> rfl
theorem mPut_I0 (x : Option mV) (r : mLv) (y : Int) : mPut (x :: r) 0 (mI y) = some (mI y) :: r := rfl
theorem mPut_R0 (x : Option mV) (r : mLv) (y : Option Nat) : mPut (x :: r) 0 (mR y) = some (mR y) :: r := rfl
theorem mPut_L0 (x z : Option mV) (r : mLv) (y : Int) : mPut (x :: z :: r) 0 (mL y) = some (mL y) :: none :: r := rfl
theorem mPut_I1 (x z : Option mV) (r : mLv) (y : Int) : mPut (x :: z :: r) 1 (mI y) = (if mIsL x = true then none else x) :: some (mI y) :: r := by
  unfold mPut
  by_cases h : mIsL x = true <;> simp [h, mKd_I]
theorem mPut_R1 (x z : Option mV) (r : mLv) (y : Option Nat) : mPut (x :: z :: r) 1 (mR y) = (if mIsL x = true then none else x) :: some (mR y) :: r := by
  unfold mPut
  by_cases h : mIsL x = true <;> simp [h, mKd_R]
theorem mPut_L1 (x z w : Option mV) (r : mLv) (y : Int) : mPut (x :: z :: w :: r) 1 (mL y) = (if mIsL x = true then none else x) :: some (mL y) :: none :: r := by
  unfold mPut
  by_cases h : mIsL x = true <;> simp [h, mKd_L]
theorem mMask_t (bs : List Bool) (v : Option mV) (vs : mLv) : mMask (true :: bs) (v :: vs) = v :: mMask bs vs := rfl
theorem mMask_f (bs : List Bool) (v : Option mV) (vs : mLv) : mMask (false :: bs) (v :: vs) = none :: mMask bs vs := rfl
theorem mMask_n : mMask [] [] = [] := rfl
theorem sw_n {lv : mLv} {s : mSt} {y x : Int} {d : Nat} : mSw J lv s I y d x [] = J d lv s I := rfl
theorem sw_c {lv : mLv} {s : mSt} {y x : Int} {d t : Nat} {ts : List Nat} : mSw J lv s I y d x (t :: ts) = ((y = x → J t lv s I) ∧ (¬ y = x → mSw J lv s I y d (x + 1) ts)) := rfl
theorem dup_I {lv : mLv} {y : Int} : w_dup k lv (mI y :: st) I = k lv (mI y :: mI y :: st) I := propext ⟨fun h => h.2, fun h => ⟨Or.inl rfl, h⟩⟩
theorem dup_R {lv : mLv} {y : Option Nat} : w_dup k lv (mR y :: st) I = k lv (mR y :: mR y :: st) I := propext ⟨fun h => h.2, fun h => ⟨Or.inr rfl, h⟩⟩
theorem dup2_IR {lv : mLv} {y : Int} {z : Option Nat} : w_dup2 k lv (mI y :: mR z :: st) I = k lv (mI y :: mR z :: mI y :: mR z :: st) I := propext ⟨fun h => h.2.2, fun h => ⟨Or.inl rfl, Or.inr rfl, h⟩⟩
theorem pop_I {lv : mLv} {y : Int} : w_pop k lv (mI y :: st) I = k lv st I := propext ⟨fun h => h.2, fun h => ⟨Or.inl rfl, h⟩⟩
theorem pop_R {lv : mLv} {y : Option Nat} : w_pop k lv (mR y :: st) I = k lv st I := propext ⟨fun h => h.2, fun h => ⟨Or.inr rfl, h⟩⟩
theorem ald_n {lv : mLv} {a i : Nat} {j : Int} (h : ro i = none) : w_ald fl ro a k lv (mI j :: mR (some i) :: st) I = ((sk i = a ∧ al fl i = true) ∧ (0 ≤ j ∧ j < sn i) ∧ k lv ((if a = 23 then mL (I i j) else if a < 23 then mI (I i j) else mR (RF fl i j.toNat)) :: st) I) := by
  show (match ro i with
    | some (n, f) => (a = 20 ∧ 0 ≤ j ∧ j < n) ∧ k lv (mI (f j) :: st) I
    | none => _) = _
  rw [h]
theorem ald_r {lv : mLv} {a i n : Nat} {f : Int → Int} {j : Int} (h : ro i = some (n, f)) : w_ald fl ro a k lv (mI j :: mR (some i) :: st) I = ((a = 20 ∧ 0 ≤ j ∧ j < n) ∧ k lv (mI (f j) :: st) I) := by
  show (match ro i with
    | some (n, f) => (a = 20 ∧ 0 ≤ j ∧ j < n) ∧ k lv (mI (f j) :: st) I
    | none => _) = _
  rw [h]
theorem len_n {lv : mLv} {i : Nat} (h : ro i = none) : w_len fl ro k lv (mR (some i) :: st) I = ((20 ≤ sk i ∧ sk i ≤ 25 ∧ al fl i = true) ∧ k lv (mI (sn i) :: st) I) := by
  show (match ro i with
    | some (n, _) => k lv (mI n :: st) I
    | none => _) = _
  rw [h]
theorem ro0_n {i : Nat} (h : i < 240) : mRo0 i = none := by
  unfold mRo0
  rw [if_neg (by omega), if_neg (by omega)]
theorem al_ro {fl : Nat → Bool} {i : Nat} (h : al fl i = true) : mRo0 i = none := ro0_n (al_lt h)
end MSIMP
theorem mrg_m10_ : mrg (-10) = True := eq_true (by unfold mrg; omega)
theorem mrg_m2_ : mrg (-2) = True := eq_true (by unfold mrg; omega)
theorem mrg_m1_ : mrg (-1) = True := eq_true (by unfold mrg; omega)
theorem mrg_0_ : mrg 0 = True := eq_true (by unfold mrg; omega)
theorem mrg_1_ : mrg 1 = True := eq_true (by unfold mrg; omega)
theorem mrg_2_ : mrg 2 = True := eq_true (by unfold mrg; omega)
theorem mrg_3_ : mrg 3 = True := eq_true (by unfold mrg; omega)
theorem mrg_4_ : mrg 4 = True := eq_true (by unfold mrg; omega)
theorem mrg_5_ : mrg 5 = True := eq_true (by unfold mrg; omega)
theorem mrg_6_ : mrg 6 = True := eq_true (by unfold mrg; omega)
theorem mrg_7_ : mrg 7 = True := eq_true (by unfold mrg; omega)
theorem mrg_8_ : mrg 8 = True := eq_true (by unfold mrg; omega)
theorem mrg_9_ : mrg 9 = True := eq_true (by unfold mrg; omega)
theorem mrg_10_ : mrg 10 = True := eq_true (by unfold mrg; omega)
theorem mrg_11_ : mrg 11 = True := eq_true (by unfold mrg; omega)
theorem mrg_12_ : mrg 12 = True := eq_true (by unfold mrg; omega)
theorem mrg_13_ : mrg 13 = True := eq_true (by unfold mrg; omega)
theorem mrg_14_ : mrg 14 = True := eq_true (by unfold mrg; omega)
theorem mrg_15_ : mrg 15 = True := eq_true (by unfold mrg; omega)
theorem mrg_16_ : mrg 16 = True := eq_true (by unfold mrg; omega)
theorem mrg_17_ : mrg 17 = True := eq_true (by unfold mrg; omega)
theorem mrg_18_ : mrg 18 = True := eq_true (by unfold mrg; omega)
theorem mrg_19_ : mrg 19 = True := eq_true (by unfold mrg; omega)
theorem mrg_20_ : mrg 20 = True := eq_true (by unfold mrg; omega)
theorem mrg_24_ : mrg 24 = True := eq_true (by unfold mrg; omega)
theorem mrg_30_ : mrg 30 = True := eq_true (by unfold mrg; omega)
theorem mrg_32_ : mrg 32 = True := eq_true (by unfold mrg; omega)
theorem mrg_40_ : mrg 40 = True := eq_true (by unfold mrg; omega)
theorem mrg_48_ : mrg 48 = True := eq_true (by unfold mrg; omega)
theorem mrg_50_ : mrg 50 = True := eq_true (by unfold mrg; omega)
theorem mrg_57_ : mrg 57 = True := eq_true (by unfold mrg; omega)
theorem mrg_59_ : mrg 59 = True := eq_true (by unfold mrg; omega)
theorem mrg_60_ : mrg 60 = True := eq_true (by unfold mrg; omega)
theorem mrg_63_ : mrg 63 = True := eq_true (by unfold mrg; omega)
theorem mrg_64_ : mrg 64 = True := eq_true (by unfold mrg; omega)
theorem mrg_97_ : mrg 97 = True := eq_true (by unfold mrg; omega)
theorem mrg_99_ : mrg 99 = True := eq_true (by unfold mrg; omega)
theorem mrg_100_ : mrg 100 = True := eq_true (by unfold mrg; omega)
theorem mrg_122_ : mrg 122 = True := eq_true (by unfold mrg; omega)
theorem mrg_144_ : mrg 144 = True := eq_true (by unfold mrg; omega)
theorem mrg_153_ : mrg 153 = True := eq_true (by unfold mrg; omega)
theorem mrg_200_ : mrg 200 = True := eq_true (by unfold mrg; omega)
theorem mrg_255_ : mrg 255 = True := eq_true (by unfold mrg; omega)
theorem mrg_288_ : mrg 288 = True := eq_true (by unfold mrg; omega)
theorem mrg_289_ : mrg 289 = True := eq_true (by unfold mrg; omega)
theorem mrg_300_ : mrg 300 = True := eq_true (by unfold mrg; omega)
theorem mrg_310_ : mrg 310 = True := eq_true (by unfold mrg; omega)
theorem mrg_389_ : mrg 389 = True := eq_true (by unfold mrg; omega)
theorem mrg_480_ : mrg 480 = True := eq_true (by unfold mrg; omega)
theorem mrg_512_ : mrg 512 = True := eq_true (by unfold mrg; omega)
theorem mrg_550_ : mrg 550 = True := eq_true (by unfold mrg; omega)
theorem mrg_595_ : mrg 595 = True := eq_true (by unfold mrg; omega)
theorem mrg_635_ : mrg 635 = True := eq_true (by unfold mrg; omega)
theorem mrg_720_ : mrg 720 = True := eq_true (by unfold mrg; omega)
theorem mrg_780_ : mrg 780 = True := eq_true (by unfold mrg; omega)
theorem mrg_800_ : mrg 800 = True := eq_true (by unfold mrg; omega)
theorem mrg_1100_ : mrg 1100 = True := eq_true (by unfold mrg; omega)
theorem mrg_9999_ : mrg 9999 = True := eq_true (by unfold mrg; omega)
theorem mrg_12345_ : mrg 12345 = True := eq_true (by unfold mrg; omega)
theorem mrg_1000000_ : mrg 1000000 = True := eq_true (by unfold mrg; omega)
theorem mrg_252645135_ : mrg 252645135 = True := eq_true (by unfold mrg; omega)
theorem mrg_858993459_ : mrg 858993459 = True := eq_true (by unfold mrg; omega)
theorem mrg_1103515245_ : mrg 1103515245 = True := eq_true (by unfold mrg; omega)
theorem mrg_1431655765_ : mrg 1431655765 = True := eq_true (by unfold mrg; omega)
theorem mrg_2147483647_ : mrg 2147483647 = True := eq_true (by unfold mrg; omega)
