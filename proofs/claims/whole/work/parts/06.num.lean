section MNUM
theorem mrg_to {x : Int} (h : mrg x) : (Int32.ofInt x).toInt = x := Int32.toInt_ofInt_of_le h.1 h.2
theorem mrl_to {x : Int} (h : mrl x) : (Int64.ofInt x).toInt = x := Int64.toInt_ofInt_of_le h.1 h.2
theorem mi_lt {x y : Int} (hx : mrg x) (hy : mrg y) : Int32.ofInt x < Int32.ofInt y ↔ x < y := by
  rw [Int32.lt_iff_toInt_lt, mrg_to hx, mrg_to hy]
theorem mi_le {x y : Int} (hx : mrg x) (hy : mrg y) : Int32.ofInt x ≤ Int32.ofInt y ↔ x ≤ y := by
  rw [Int32.le_iff_toInt_le, mrg_to hx, mrg_to hy]
theorem mi_eq {x y : Int} (hx : mrg x) (hy : mrg y) : Int32.ofInt x = Int32.ofInt y ↔ x = y := by
  rw [← Int32.toInt_inj, mrg_to hx, mrg_to hy]
theorem ml_lt {x y : Int} (hx : mrl x) (hy : mrl y) : Int64.ofInt x < Int64.ofInt y ↔ x < y := by
  rw [Int64.lt_iff_toInt_lt, mrl_to hx, mrl_to hy]
theorem ml_le {x y : Int} (hx : mrl x) (hy : mrl y) : Int64.ofInt x ≤ Int64.ofInt y ↔ x ≤ y := by
  rw [Int64.le_iff_toInt_le, mrl_to hx, mrl_to hy]
theorem ml_eq {x y : Int} (hx : mrl x) (hy : mrl y) : Int64.ofInt x = Int64.ofInt y ↔ x = y := by
  rw [← Int64.toInt_inj, mrl_to hx, mrl_to hy]
theorem mrg_0 : mrg 0 := ⟨by decide, by decide⟩
theorem mi_0 : Int32.ofInt 0 = 0 := rfl
theorem ml_0 : Int64.ofInt 0 = 0 := rfl
theorem mrl_0 : mrl 0 := ⟨by decide, by decide⟩
theorem mi_div {x y : Int} (hx : mrg x) (hy : mrg y) : Int32.ofInt x / Int32.ofInt y = Int32.ofInt (Int.tdiv x y) := by
  have h1 := hx.1; have h2 := hx.2; have h3 := hy.1; have h4 := hy.2
  exact (Int32.ofInt_tdiv (by show (-2147483648 : Int) ≤ x; omega) (by show x ≤ (2147483647 : Int); omega) (by show (-2147483648 : Int) ≤ y; omega) (by show y ≤ (2147483647 : Int); omega)).symm
theorem ml_div {x y : Int} (hx : mrl x) (hy : mrl y) : Int64.ofInt x / Int64.ofInt y = Int64.ofInt (Int.tdiv x y) := by
  have h1 := hx.1; have h2 := hx.2; have h3 := hy.1; have h4 := hy.2
  exact (Int64.ofInt_tdiv (by show (-9223372036854775808 : Int) ≤ x; omega) (by show x ≤ (9223372036854775807 : Int); omega) (by show (-9223372036854775808 : Int) ≤ y; omega) (by show y ≤ (9223372036854775807 : Int); omega)).symm
theorem mtmod (x y : Int) : Int.tmod x y = x - Int.tdiv x y * y := by
  have h := Int.mul_tdiv_add_tmod x y
  rw [Int.mul_comm] at h
  omega
theorem mi_rem {x y : Int} (hx : mrg x) (hy : mrg y) : Int32.ofInt x - Int32.ofInt x / Int32.ofInt y * Int32.ofInt y = Int32.ofInt (Int.tmod x y) := by
  rw [mtmod, Int32.ofInt_sub, Int32.ofInt_mul, mi_div hx hy]
theorem ml_rem {x y : Int} (hx : mrl x) (hy : mrl y) : Int64.ofInt x - Int64.ofInt x / Int64.ofInt y * Int64.ofInt y = Int64.ofInt (Int.tmod x y) := by
  rw [mtmod, Int64.ofInt_sub, Int64.ofInt_mul, ml_div hx hy]
theorem mi_l {x : Int} (hx : mrg x) : (Int32.ofInt x).toInt64 = Int64.ofInt x := by
  have h1 := hx.1; have h2 := hx.2
  exact Int32.toInt64_ofInt (by show (-2147483648 : Int) ≤ x; omega) (by show x ≤ (2147483647 : Int); omega)
theorem mi_in {j : Int} {n : Nat} (h0 : 0 ≤ j) (h1 : j < n) (hn : n < 2147483648) : vp_in (Int32.ofInt j) n ∧ (Int32.ofInt j).toNatClampNeg = j.toNat := by
  have hr : mrg j := ⟨by omega, by omega⟩
  refine ⟨vp_in_iff.mpr (by rw [mrg_to hr]; omega), ?_⟩
  show (Int32.ofInt j).toInt.toNat = j.toNat
  rw [mrg_to hr]
theorem mi_clamp {j : Int} (h0 : 0 ≤ j) (h1 : j < 2147483648) : (Int32.ofInt j).toNatClampNeg = j.toNat := by
  show (Int32.ofInt j).toInt.toNat = j.toNat
  rw [mrg_to ⟨by omega, h1⟩]
theorem mi_toN {j : Int} (h0 : 0 ≤ j) : ((j.toNat : Nat) : Int) = j := Int.toNat_of_nonneg h0
theorem ib_ofInt (a : Nat) (x y : Int) : Int32.ofInt (ib a x y) = (match a with
  | 0 => Int32.ofInt x + Int32.ofInt y
  | 1 => Int32.ofInt x - Int32.ofInt y
  | 2 => Int32.ofInt x * Int32.ofInt y
  | 3 => Int32.ofInt x &&& Int32.ofInt y
  | 4 => Int32.ofInt x ||| Int32.ofInt y
  | 5 => Int32.ofInt x ^^^ Int32.ofInt y
  | 6 => Int32.ofInt x <<< (Int32.ofInt y &&& 31)
  | 7 => Int32.ofInt x >>> (Int32.ofInt y &&& 31)
  | _ => ((Int32.ofInt x).toUInt32 >>> ((Int32.ofInt y).toUInt32 &&& Int32.toUInt32 31)).toInt32) := by
  match a with
  | 0 => exact Int32.ofInt_add _ _
  | 1 => exact Int32.ofInt_sub _ _
  | 2 => exact Int32.ofInt_mul _ _
  | 3 => exact Int32.ofInt_toInt _
  | 4 => exact Int32.ofInt_toInt _
  | 5 => exact Int32.ofInt_toInt _
  | 6 => exact Int32.ofInt_toInt _
  | 7 => exact Int32.ofInt_toInt _
  | _ + 8 => exact Int32.ofInt_toInt _
theorem lb_ofInt (a : Nat) (x y : Int) : Int64.ofInt (lb a x y) = (match a with
  | 0 => Int64.ofInt x + Int64.ofInt y
  | 1 => Int64.ofInt x - Int64.ofInt y
  | 2 => Int64.ofInt x * Int64.ofInt y
  | 3 => Int64.ofInt x &&& Int64.ofInt y
  | _ => Int64.ofInt x ||| Int64.ofInt y) := by
  match a with
  | 0 => exact Int64.ofInt_add _ _
  | 1 => exact Int64.ofInt_sub _ _
  | 2 => exact Int64.ofInt_mul _ _
  | 3 => exact Int64.ofInt_toInt _
  | _ + 4 => exact Int64.ofInt_toInt _
theorem mi_max {x y : Int} (hx : mrg x) (hy : mrg y) : (if Int32.ofInt x < Int32.ofInt y then Int32.ofInt y else Int32.ofInt x) = Int32.ofInt (max x y) := by
  by_cases h : x < y
  · rw [if_pos ((mi_lt hx hy).mpr h), Int.max_eq_right (by omega)]
  · rw [if_neg (fun z => h ((mi_lt hx hy).mp z)), Int.max_eq_left (by omega)]
theorem mi_u (x : Int) : (Int32.ofInt x).toUInt32.toUInt16.toUInt32.toInt32 = ((Int32.ofInt x).toUInt32 % 65536).toInt32 := by
  congr 1
theorem nar_bool {v : Int} (h : v = 0 ∨ v = 1) : vp_nar .boolean (Int32.ofInt v) = Int32.ofInt v := by
  rcases h with rfl | rfl <;> rfl
theorem mrg_small {v : Int} (h1 : -128 ≤ v) (h2 : v < 128) : (Int32.ofInt v).toInt8.toInt32 = Int32.ofInt v := by
  have hr : mrg v := ⟨by omega, by omega⟩
  have h : ∃ n : Nat, n < 256 ∧ v = (n : Int) - 128 := ⟨(v + 128).toNat, by omega, by omega⟩
  obtain ⟨n, hn, rfl⟩ := h
  have key : ∀ n : Nat, n < 256 → (Int32.ofInt ((n : Int) - 128)).toInt8.toInt32 = Int32.ofInt ((n : Int) - 128) := by decide +kernel
  exact key n hn
theorem nar_byte {v : Int} (h1 : -128 ≤ v) (h2 : v < 128) : vp_nar .byte (Int32.ofInt v) = Int32.ofInt v := by
  rw [vp_nar_byte]; exact mrg_small h1 h2
end MNUM
