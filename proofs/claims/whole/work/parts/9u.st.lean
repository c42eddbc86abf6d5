section LENV
def gvT : Jvm.Cond := Jvm.Cond.and given_1 narrow_1
def tmK (i : Nat) : Nat := ([77, 83, 85, 87, 89, 91, 93, 112, 120, 134, 141, 142] : List Nat).getD i 0
def tmS (i : Nat) : Term := .string "NineOnGrass$Reader" (tmK i)
set_option maxRecDepth 100000
def gvF (w : Cond) : Bool := decide (w ∈ flatC gvT)
theorem gvF_of {args : Array Value} {s : State} (h : gvT.before args s = true) {w : Cond} (hw : gvF w = true) : w.before args s = true := flat_of_before _ h _ (of_decide_eq_true hw)
theorem g_ex : ∀ i, i < 12 → gvF (.exactly (tmS i) "java/lang/String") = true := by decide +kernel
theorem g_co : ∀ i, i < 12 → gvF (.eq (.field (tmS i) "java/lang/String" "coder" "B") (.int 0)) = true := by decide +kernel
theorem g_ar : ∀ i, i < 12 → gvF (.arrayOf (.field (tmS i) "java/lang/String" "value" "[B") .byte) = true := by decide +kernel
theorem g_le : ∀ i, i < 12 → gvF (.eq (.length (.field (tmS i) "java/lang/String" "value" "[B")) (.int (Int32.ofNat (mTxL.getD i 0)))) = true := by decide +kernel
theorem g_el : ∀ i, i < 12 → ∀ j, j < mTxL.getD i 0 → gvF (.eq (.elem (.field (tmS i) "java/lang/String" "value" "[B") (.int (Int32.ofNat j))) (.int ((mTxB.getD i []).getD j 0))) = true := by decide +kernel
theorem s_dec : ∀ i, i < 12 → ∀ j, j < 12 → mTxL.getD i 0 = mTxL.getD j 0 → (∀ k, k < mTxL.getD i 0 → (mTxB.getD i []).getD k 0 = (mTxB.getD j []).getD k 0) → i = j := by decide +kernel
theorem s_len : ∀ i, i < 12 → ∀ j, j < 12 → Int32.ofNat (mTxL.getD i 0) = Int32.ofNat (mTxL.getD j 0) → mTxL.getD i 0 = mTxL.getD j 0 := by decide +kernel
theorem s_big : ∀ i, i < 12 → mTxL.getD i 0 < 2 ^ 31 := by decide +kernel
/-- the texts that are read -/
theorem sof {args : Array Value} {s : State} {A : Nat → Prop} (h : gvT.before args s = true) (hA : ∀ a : Nat, a < s.heap.size → ¬ A a) : ∃ adK adV : Nat → Nat, vk_S 12 mTxL mTxB adK adV A s s.heap ∧ ∀ i : Nat, i < 12 → (tmS i).eval args s none [] s = some (.ref (adK i)) := by
  have h0 : ∀ i : Nat, ∃ q : Nat × Nat, i < 12 → (tmS i).eval args s none [] s = some (.ref q.1) ∧ va_O "java/lang/String" q.1 A s s.heap ∧ va_OF "java/lang/String" "coder" "B" (.int 0) q.1 A s s.heap ∧ va_OF "java/lang/String" "value" "[B" (.ref q.2) q.1 A s s.heap ∧ va_T .byte q.2 (mTxL.getD i 0) (fun j => .int ((mTxB.getD i []).getD j 0)) A s s.heap := by
    intro i
    by_cases hi : i < 12
    · obtain ⟨a, c, cA, kA, q1, q2, q3, q4, q5, q6, -⟩ := Cond.exactly_spec (args := args) (first := s) (o := none) (s := s) (idx := []) (t := tmS i) (cls := "java/lang/String") (gvF_of h (g_ex i hi))
      obtain ⟨t, ht, hT⟩ := va_Tof (f := fun j => .int ((mTxB.getD i []).getD j 0)) (A := A) (s_big i hi) (gvF_of h (g_ar i hi)) (va_eqt (gvF_of h (g_le i hi))) (fun j hj => va_eqt (gvF_of h (g_el i hi j hj))) hA
      exact ⟨(a, t), fun _ => ⟨q1, ⟨cA, q3, q5, by rw [q6]; exact q2, hA a (Array.getElem?_eq_some_iff.mp q3).1⟩, vk_OFof q1 (va_eqt (gvF_of h (g_co i hi))) hA, vk_OFof q1 ht hA, hT⟩⟩
    · exact ⟨(0, 0), fun h => absurd h hi⟩
  obtain ⟨ad, had⟩ := Classical.axiomOfChoice h0
  refine ⟨fun i => (ad i).1, fun i => (ad i).2, ⟨fun i hi => (had i hi).2, fun i j hi hj e => ?_⟩, fun i hi => (had i hi).1⟩
  dsimp only at e
  obtain ⟨-, -, -, ⟨cf1, k1, i1, f1, c1, a1, a2, a3, a4, a5, a6⟩, T1⟩ := had i hi
  obtain ⟨-, -, -, ⟨cf2, k2, i2, f2, c2, b1, b2, b3, b4, b5, b6⟩, T2⟩ := had j hj
  rw [a1] at b1
  cases b1
  rw [e, b3] at a3
  cases a3
  rw [a5] at b5
  have ev : (ad i).2 = (ad j).2 := by injection (Option.some.inj b5)
  obtain ⟨d1, x1, x2, x3, x4, x5, x6, x7⟩ := T1
  obtain ⟨d2, y1, y2, y3, y4, y5, y6, y7⟩ := T2
  rw [ev, y1] at x1
  cases x1
  have hl := s_len i hi j hj (x5.symm.trans y5)
  refine s_dec i hi j hj hl (fun k hk => ?_)
  have z1 := x6 k hk
  rw [y6 k (by rw [← hl]; exact hk)] at z1
  injection (Option.some.inj z1) with z2
  exact z2.symm
theorem g_sx : gvF (.arrayOf (.static "NineOnGrass" "STEP_X" "[I") .int) = true ∧ gvF (.eq (.length (.static "NineOnGrass" "STEP_X" "[I")) (.int (Int32.ofNat 16))) = true ∧ (∀ j, j < 16 → gvF (.eq (.elem (.static "NineOnGrass" "STEP_X" "[I") (.int (Int32.ofNat j))) (.int (Int32.ofInt (stx j)))) = true) := by decide +kernel
theorem g_sy : gvF (.arrayOf (.static "NineOnGrass" "STEP_Y" "[I") .int) = true ∧ gvF (.eq (.length (.static "NineOnGrass" "STEP_Y" "[I")) (.int (Int32.ofNat 16))) = true ∧ (∀ j, j < 16 → gvF (.eq (.elem (.static "NineOnGrass" "STEP_Y" "[I") (.int (Int32.ofNat j))) (.int (Int32.ofInt (sty j)))) = true) := by decide +kernel
theorem g_bu : gvF (.isRef (.static Bundle.tN "UNASSIGNED_STACK" Bundle.steD)) = true ∧ gvF (.isRef (.static Bundle.tN "SUPPRESSED_SENTINEL" Bundle.listD)) = true ∧ gvF (.eq (.static "java/lang/String" "COMPACT_STRINGS" "Z") (.int 1)) = true ∧ gvF (.isRef (.static "jdk/internal/util/Preconditions" "SIOOBE_FORMATTER" "Ljava/util/function/BiFunction;")) = true := by decide +kernel
def inTb (w : Cond) : Bool := decide (w ∈ lw_tbl)
theorem t_st : inTb (.laysStatic "NineOnGrass" "STEP_X" "[I") = true ∧ inTb (.laysStatic "NineOnGrass" "STEP_Y" "[I") = true ∧ inTb (.initialized "NineOnGrass") = true ∧ inTb (.laysStatic Bundle.tN "UNASSIGNED_STACK" Bundle.steD) = true ∧ inTb (.laysStatic Bundle.tN "SUPPRESSED_SENTINEL" Bundle.listD) = true ∧ inTb (.initialized Bundle.tN) = true ∧ inTb (.laysStatic "java/lang/String" "COMPACT_STRINGS" "Z") = true ∧ inTb (.initialized "java/lang/String") = true ∧ inTb (.laysStatic "jdk/internal/util/Preconditions" "SIOOBE_FORMATTER" "Ljava/util/function/BiFunction;") = true ∧ inTb (.initialized "jdk/internal/util/Preconditions") = true := by decide +kernel
theorem t_ng : (mNG.all (fun w => inTb w && w.onTables)) = true := by decide +kernel
theorem t_sr : (mStr.all (fun q => inTb (.stringRef q.1 q.2.1 q.2.2.1))) = true := by decide +kernel
/-- of each text: whose it is -/
def strC (q : String × Nat × String × Nat) : Bool := if q.2.2.2 < 300 then (decide (q.1 = "NineOnGrass$Reader" ∧ q.2.1 = tmK (q.2.2.2 - 250)) || gvF (.eq (tmS (q.2.2.2 - 250)) (.string q.1 q.2.1))) && decide (250 ≤ q.2.2.2 ∧ q.2.2.2 - 250 < 12) else gvF (.exactly (.string q.1 q.2.1) "java/lang/String")
theorem g_str : mStr.all strC = true := by decide +kernel
theorem g_id : ∀ q ∈ mStr, ∀ q' ∈ mStr, 300 ≤ q.2.2.2 → q.2.2.2 = q'.2.2.2 → q.1 = q'.1 ∧ q.2.1 = q'.2.1 := by decide +kernel
/-- what the claim's start gives: addresses and facts -/
theorem envS {args : Array Value} {s : State} {A : Nat → Prop} (h : gvT.before args s = true) (hts : ∀ w ∈ lw_tbl, w.before args s = true) (hA : ∀ a : Nat, a < s.heap.size → ¬ A a) : ∃ ad : Nat → Nat, (∀ w ∈ mNG, va_Nw w s) ∧
    (va_Z "NineOnGrass" "STEP_X" "[I" (.ref (ad 240)) A s s.heap ∧ va_T .int (ad 240) 16 (fun j => .int (Int32.ofInt (stx j))) A s s.heap ∧ va_Z "NineOnGrass" "STEP_Y" "[I" (.ref (ad 241)) A s s.heap ∧ va_T .int (ad 241) 16 (fun j => .int (Int32.ofInt (sty j))) A s s.heap) ∧
    (vx_Zq Bundle.tN "UNASSIGNED_STACK" Bundle.steD A s s.heap ∧ vx_Zq Bundle.tN "SUPPRESSED_SENTINEL" Bundle.listD A s s.heap) ∧
    (∀ q ∈ mStr, vk_R q.1 q.2.1 q.2.2.1 (ad q.2.2.2) s) ∧
    vk_S 12 mTxL mTxB (fun i => ad (250 + i)) (fun i => ad (270 + i)) A s s.heap ∧
    (va_Z "java/lang/String" "COMPACT_STRINGS" "Z" (.int 1) A s s.heap ∧ va_Zq "jdk/internal/util/Preconditions" "SIOOBE_FORMATTER" "Ljava/util/function/BiFunction;" A s s.heap) := by
  have ht : ∀ {w : Cond}, inTb w = true → w.before args s = true := fun hw => hts _ (of_decide_eq_true hw)
  obtain ⟨sx, hsx, Tx⟩ := va_Tof (N := 16) (f := fun j => .int (Int32.ofInt (stx j))) (A := A) (by decide) (gvF_of h g_sx.1) (va_eqt (gvF_of h g_sx.2.1)) (fun j hj => va_eqt (gvF_of h (g_sx.2.2 j hj))) hA
  obtain ⟨sy, hsy, Ty⟩ := va_Tof (N := 16) (f := fun j => .int (Int32.ofInt (sty j))) (A := A) (by decide) (gvF_of h g_sy.1) (va_eqt (gvF_of h g_sy.2.1)) (fun j hj => va_eqt (gvF_of h (g_sy.2.2 j hj))) hA
  obtain ⟨adK, adV, hK, hKe⟩ := sof h hA
  obtain ⟨u1, u2, u3, u4, u5, u6, u7, u8, u9, u10⟩ := t_st
  have hm : ∀ q ∈ mStr, 300 ≤ q.2.2.2 → ∃ a, (Term.string q.1 q.2.1).eval args s none [] s = some (.ref a) := fun q hq h3 => by
    have h4 := List.all_eq_true.mp g_str q hq
    unfold strC at h4
    rw [if_neg (by omega)] at h4
    obtain ⟨a, c, cA, kA, q1, q2⟩ := Cond.exactly_spec (args := args) (first := s) (o := none) (s := s) (idx := []) (t := Term.string q.1 q.2.1) (cls := "java/lang/String") (gvF_of h h4)
    exact ⟨a, q1⟩
  have hz : ∀ i : Nat, ∃ a : Nat, ∀ q ∈ mStr, 300 ≤ q.2.2.2 → q.2.2.2 = i → (Term.string q.1 q.2.1).eval args s none [] s = some (.ref a) := fun i => by
    by_cases hi : ∃ q, q ∈ mStr ∧ 300 ≤ q.2.2.2 ∧ q.2.2.2 = i
    · obtain ⟨q, hq, h3, e⟩ := hi
      obtain ⟨a, ha⟩ := hm q hq h3
      refine ⟨a, fun q' hq' h3' e' => ?_⟩
      obtain ⟨z1, z2⟩ := g_id q' hq' q hq h3' (e'.trans e.symm)
      rw [z1, z2]; exact ha
    · exact ⟨0, fun q hq h3 e => absurd ⟨q, hq, h3, e⟩ hi⟩
  obtain ⟨am, ham⟩ := Classical.axiomOfChoice hz
  obtain ⟨ad, had⟩ : ∃ ad : Nat → Nat, ad = fun i => if i = 240 then sx else if i = 241 then sy else if i < 262 then adK (i - 250) else if i < 300 then adV (i - 270) else am i := ⟨_, rfl⟩
  have d0 : ad 240 = sx := by rw [had]; rfl
  have d1 : ad 241 = sy := by rw [had]; rfl
  have dK : ∀ i, i < 12 → ad (250 + i) = adK i := fun i hi => by
    rw [had]; dsimp only; rw [if_neg (by omega), if_neg (by omega), if_pos (by omega), Nat.add_sub_cancel_left]
  have dV : ∀ i, i < 12 → ad (270 + i) = adV i := fun i hi => by
    rw [had]; dsimp only; rw [if_neg (by omega), if_neg (by omega), if_neg (by omega), if_pos (by omega), Nat.add_sub_cancel_left]
  have dM : ∀ i, 300 ≤ i → ad i = am i := fun i hi => by
    rw [had]; dsimp only; rw [if_neg (by omega), if_neg (by omega), if_neg (by omega), if_neg (by omega)]
  refine ⟨ad, fun w hw => ?_, ⟨?_, ?_, ?_, ?_⟩, ⟨vx_Zqof (ht u4) (ht u6) (gvF_of h g_bu.1) hA, vx_Zqof (ht u5) (ht u6) (gvF_of h g_bu.2.1) hA⟩, fun q hq => ?_, ⟨fun i hi => ?_, fun i j hi hj e => ?_⟩, va_Zof (ht u7) (ht u8) (va_eqi (gvF_of h g_bu.2.2.1)) hA, va_Zqof (ht u9) (ht u10) (gvF_of h g_bu.2.2.2) hA⟩
  · have h9 := List.all_eq_true.mp t_ng w hw
    simp only [Bool.and_eq_true] at h9
    exact va_Nw.of h9.2 (ht h9.1)
  · rw [d0]; exact va_Zof (ht u1) (ht u3) hsx hA
  · rw [d0]; exact Tx
  · rw [d1]; exact va_Zof (ht u2) (ht u3) hsy hA
  · rw [d1]; exact Ty
  · refine vk_R.of (A := args) (ht (List.all_eq_true.mp t_sr q hq)) ?_
    rcases Nat.lt_or_ge q.2.2.2 300 with h3 | h3
    · have h4 := List.all_eq_true.mp g_str q hq
      unfold strC at h4
      rw [if_pos h3] at h4
      simp only [Bool.and_eq_true, Bool.or_eq_true, decide_eq_true_eq] at h4
      obtain ⟨h5, h6, h7⟩ := h4
      have e9 : ad q.2.2.2 = adK (q.2.2.2 - 250) := by
        have := dK (q.2.2.2 - 250) h7
        rwa [show 250 + (q.2.2.2 - 250) = q.2.2.2 by omega] at this
      rw [e9]
      rcases h5 with h5 | h5
      · rw [h5.1, h5.2]; exact hKe _ h7
      · exact va_eqR (gvF_of h h5) (hKe _ h7)
    · rw [dM _ h3]
      exact ham _ q hq h3 rfl
  · dsimp only
    rw [dK i hi, dV i hi]
    exact hK.1 i hi
  · dsimp only at e
    rw [dK i hi, dK j hj] at e
    exact hK.2 i j hi hj e
end LENV
section LSTART
def posS : List Nat := [0, 39, 40, 53, 54, 55, 56, 57, 0, 0, 1, 2, 9, 16, 3, 4, 5, 6, 7, 8, 10, 11, 12, 13, 14, 15, 17, 18, 0, 0, 0, 0, 0, 0, 0, 0, 0, 0, 0, 0, 0, 0, 0, 0, 0, 0, 0, 0, 0, 0, 0, 0, 0, 0, 0, 0, 0, 0, 0, 0, 0, 0, 0, 0, 0, 0, 0, 0, 0, 0, 0, 0, 0, 0, 0, 0, 0, 0, 0, 0, 0, 0, 0, 0, 0, 0, 0, 0, 0, 0, 0, 0, 0, 0, 0, 0, 0, 0, 0, 0, 41, 42, 43, 0, 0, 44, 45, 46, 47, 48, 49, 0, 0, 0, 0, 0, 0, 0, 0, 0, 19, 20, 21, 22, 23, 24, 25, 26, 0, 0, 27, 0, 0, 0, 0, 0, 0, 0, 0, 0, 28, 29, 30, 31, 32, 33, 34, 35, 36, 37, 38, 0, 0, 0, 0, 0, 0, 0, 0, 0, 50, 51, 52, 0, 0, 0, 0, 0, 0, 0, 0, 0, 0, 0, 0, 0, 0, 0, 0, 0, 0, 0, 0, 0, 0, 0, 0, 0, 0, 0, 0, 0, 0, 0, 0, 0, 0, 0, 0, 0, 58, 59, 60, 61, 62, 63, 64, 65, 66, 67, 68, 69, 70, 71, 72, 73, 74, 75, 76, 0, 0, 0, 0, 0, 0, 0, 0, 0, 0, 0, 77, 0, 0, 0, 0, 0, 0, 0, 0, 0]
def rhoL (h0 h1 h2 : Nat) (u v : Nat → Nat) : List Nat := [h0, u 38, u 39, u 52, u 53, u 54, u 55, u 56, 0, 0, u 0, u 1, u 8, u 15, u 2, u 3, u 4, u 5, u 6, u 7, u 9, u 10, u 11, u 12, u 13, u 14, u 16, u 17, 0, 0, 0, 0, 0, 0, 0, 0, 0, 0, 0, 0, 0, 0, 0, 0, 0, 0, 0, 0, 0, 0, 0, 0, 0, 0, 0, 0, 0, 0, 0, 0, 0, 0, 0, 0, 0, 0, 0, 0, 0, 0, 0, 0, 0, 0, 0, 0, 0, 0, 0, 0, 0, 0, 0, 0, 0, 0, 0, 0, 0, 0, 0, 0, 0, 0, 0, 0, 0, 0, 0, 0, u 40, u 41, u 42, 0, 0, u 43, u 44, u 45, u 46, u 47, u 48, 0, 0, 0, 0, 0, 0, 0, 0, 0, u 18, u 19, u 20, u 21, u 22, u 23, u 24, u 25, 0, 0, u 26, 0, 0, 0, 0, 0, 0, 0, 0, 0, u 27, u 28, u 29, u 30, u 31, u 32, u 33, u 34, u 35, u 36, u 37, 0, 0, 0, 0, 0, 0, 0, 0, 0, u 49, u 50, u 51, 0, 0, 0, 0, 0, 0, 0, 0, 0, 0, 0, 0, 0, 0, 0, 0, 0, 0, 0, 0, 0, 0, 0, 0, 0, 0, 0, 0, 0, 0, 0, 0, 0, 0, 0, 0, 0, h1, v 0, v 1, v 2, v 3, v 4, v 5, v 6, v 7, v 8, v 9, v 10, v 11, v 12, v 13, v 14, v 15, v 16, v 17, 0, 0, 0, 0, 0, 0, 0, 0, 0, 0, 0, h2, 0, 0, 0, 0, 0, 0, 0, 0, 0]
def rhoS (h0 h1 h2 : Nat) (u v ad : Nat → Nat) (b : Nat) : Nat → Nat := fun i => if i < 240 then (rhoL h0 h1 h2 u v).getD i 0 else if i = 242 then b else ad i
def I0S : mM := fun i k => match i with
  | 11 => if k = 1 then 8 else if k = 2 then 9 else if k = 3 then 20 else if k = 4 then 9 else if k = 5 then 1 else 0
  | 20 => (-1)
  | 21 => 3
  | 22 => 80
  | 23 => 10
  | 24 => 1
  | 100 => if k = 4 then (-1) else 0
  | 102 => if k = 1 then 8 else if k = 2 then 9 else if k = 3 then 20 else if k = 4 then 9 else if k = 5 then 1 else 0
  | 200 => if k = 15 then (-1) else 0
  | 201 => (tk53 k.toNat).toInt
  | 216 => (tk8 k.toNat).toInt
  | _ => 0
def flN : Nat → Bool := fun _ => false
def idsS : List Nat := [0, 1, 2, 3, 4, 5, 6, 7, 10, 11, 12, 13, 14, 15, 16, 17, 18, 19, 20, 21, 22, 23, 24, 25, 26, 27, 100, 101, 102, 105, 106, 107, 108, 109, 110, 120, 121, 122, 123, 124, 125, 126, 127, 130, 140, 141, 142, 143, 144, 145, 146, 147, 148, 149, 150, 160, 161, 162, 200, 201, 202, 203, 204, 205, 206, 207, 208, 209, 210, 211, 212, 213, 214, 215, 216, 217, 218, 230]
theorem al_S0 : ∀ i, i < 240 → al flN i = true → i ∈ idsS := by decide +kernel
theorem pos_inj : ∀ i, i < 240 → ∀ j, j < 240 → al flN i = true → al flN j = true → posS.getD i 0 = posS.getD j 0 → i = j := by decide +kernel
theorem i32f {f : Nat → Int32} : (fun j : Nat => Int32.ofInt (f ((j : Int).toNat)).toInt) = f := funext fun j => by
  rw [show ((j : Int)).toNat = j from Int.toNat_natCast j, Int32.ofInt_toInt]
theorem rfN1 {ρ : Nat → Nat} : (fun j : Nat => (RF flN 1 j).map ρ) = fun _ => none := funext fun j => by
  unfold RF
  rw [if_pos rfl, if_neg (fun h => absurd (show false = true from h.2) (by decide))]; rfl
theorem rfN2 {ρ : Nat → Nat} : (fun j : Nat => (RF flN 2 j).map ρ) = fun _ => none := funext fun j => by
  unfold RF
  rw [if_neg (by decide), if_pos rfl, if_neg (fun h => absurd (show false = true from h.2) (by decide))]; rfl
set_option maxRecDepth 100000 in
set_option maxHeartbeats 4000000 in
theorem pos_ok {cA : Nat → ClassId} {h0 h1 h2 b : Nat} {u v ad : Nat → Nat} : ∀ i ∈ idsS, ((mnW cA h0 u ++ mdW cA h1 v) ++ [(h2, .inl (cA 23, 1, .inr (.inl (fun _ => 0))))] : va_W)[posS.getD i 0]? = some (rhoS h0 h1 h2 u v ad b i, mE cA (rhoS h0 h1 h2 u v ad b) flN (I0S i) i) :=
  List.forall_mem_cons.mpr ⟨rfl, List.forall_mem_cons.mpr ⟨(congrArg (fun g => some (_, Sum.inl (cA 24, 3, Sum.inr (Sum.inr (Sum.inr (Sum.inr g)))))) (rfN1).symm), List.forall_mem_cons.mpr ⟨(congrArg (fun g => some (_, Sum.inl (cA 25, 4, Sum.inr (Sum.inr (Sum.inr (Sum.inr g)))))) (rfN2).symm), List.forall_mem_cons.mpr ⟨rfl, List.forall_mem_cons.mpr ⟨rfl, List.forall_mem_cons.mpr ⟨rfl, List.forall_mem_cons.mpr ⟨rfl, List.forall_mem_cons.mpr ⟨rfl, List.forall_mem_cons.mpr ⟨rfl, List.forall_mem_cons.mpr ⟨rfl, List.forall_mem_cons.mpr ⟨rfl, List.forall_mem_cons.mpr ⟨rfl, List.forall_mem_cons.mpr ⟨rfl, List.forall_mem_cons.mpr ⟨rfl, List.forall_mem_cons.mpr ⟨rfl, List.forall_mem_cons.mpr ⟨rfl, List.forall_mem_cons.mpr ⟨rfl, List.forall_mem_cons.mpr ⟨rfl, List.forall_mem_cons.mpr ⟨rfl, List.forall_mem_cons.mpr ⟨rfl, List.forall_mem_cons.mpr ⟨rfl, List.forall_mem_cons.mpr ⟨rfl, List.forall_mem_cons.mpr ⟨rfl, List.forall_mem_cons.mpr ⟨rfl, List.forall_mem_cons.mpr ⟨rfl, List.forall_mem_cons.mpr ⟨rfl, List.forall_mem_cons.mpr ⟨rfl, List.forall_mem_cons.mpr ⟨rfl, List.forall_mem_cons.mpr ⟨rfl, List.forall_mem_cons.mpr ⟨rfl, List.forall_mem_cons.mpr ⟨rfl, List.forall_mem_cons.mpr ⟨rfl, List.forall_mem_cons.mpr ⟨rfl, List.forall_mem_cons.mpr ⟨rfl, List.forall_mem_cons.mpr ⟨rfl, List.forall_mem_cons.mpr ⟨rfl, List.forall_mem_cons.mpr ⟨rfl, List.forall_mem_cons.mpr ⟨rfl, List.forall_mem_cons.mpr ⟨rfl, List.forall_mem_cons.mpr ⟨rfl, List.forall_mem_cons.mpr ⟨rfl, List.forall_mem_cons.mpr ⟨rfl, List.forall_mem_cons.mpr ⟨rfl, List.forall_mem_cons.mpr ⟨rfl, List.forall_mem_cons.mpr ⟨rfl, List.forall_mem_cons.mpr ⟨rfl, List.forall_mem_cons.mpr ⟨rfl, List.forall_mem_cons.mpr ⟨rfl, List.forall_mem_cons.mpr ⟨rfl, List.forall_mem_cons.mpr ⟨rfl, List.forall_mem_cons.mpr ⟨rfl, List.forall_mem_cons.mpr ⟨rfl, List.forall_mem_cons.mpr ⟨rfl, List.forall_mem_cons.mpr ⟨rfl, List.forall_mem_cons.mpr ⟨rfl, List.forall_mem_cons.mpr ⟨rfl, List.forall_mem_cons.mpr ⟨rfl, List.forall_mem_cons.mpr ⟨rfl, List.forall_mem_cons.mpr ⟨rfl, List.forall_mem_cons.mpr ⟨(congrArg (fun g => some (_, Sum.inl (cA 20, 635, Sum.inl g))) i32f.symm), List.forall_mem_cons.mpr ⟨rfl, List.forall_mem_cons.mpr ⟨rfl, List.forall_mem_cons.mpr ⟨rfl, List.forall_mem_cons.mpr ⟨rfl, List.forall_mem_cons.mpr ⟨rfl, List.forall_mem_cons.mpr ⟨rfl, List.forall_mem_cons.mpr ⟨rfl, List.forall_mem_cons.mpr ⟨rfl, List.forall_mem_cons.mpr ⟨rfl, List.forall_mem_cons.mpr ⟨rfl, List.forall_mem_cons.mpr ⟨rfl, List.forall_mem_cons.mpr ⟨rfl, List.forall_mem_cons.mpr ⟨rfl, List.forall_mem_cons.mpr ⟨rfl, List.forall_mem_cons.mpr ⟨(congrArg (fun g => some (_, Sum.inl (cA 20, 4, Sum.inl g))) i32f.symm), List.forall_mem_cons.mpr ⟨rfl, List.forall_mem_cons.mpr ⟨rfl, List.forall_mem_cons.mpr ⟨rfl, fun _ h => absurd h List.not_mem_nil⟩⟩⟩⟩⟩⟩⟩⟩⟩⟩⟩⟩⟩⟩⟩⟩⟩⟩⟩⟩⟩⟩⟩⟩⟩⟩⟩⟩⟩⟩⟩⟩⟩⟩⟩⟩⟩⟩⟩⟩⟩⟩⟩⟩⟩⟩⟩⟩⟩⟩⟩⟩⟩⟩⟩⟩⟩⟩⟩⟩⟩⟩⟩⟩⟩⟩⟩⟩⟩⟩⟩⟩⟩⟩⟩⟩⟩⟩
theorem mWs_S {D : va_G} {cA : Nat → ClassId} {A : Nat → Prop} {H : Heap} {h0 h1 h2 b : Nat} {u v ad : Nat → Nat} (hP : va_P D vwCl ((mnW cA h0 u ++ mdW cA h1 v) ++ [(h2, .inl (cA 23, 1, .inr (.inl (fun _ => 0))))]) H) (hD : va_D A ((mnW cA h0 u ++ mdW cA h1 v) ++ [(h2, .inl (cA 23, 1, .inr (.inl (fun _ => 0))))])) : va_P D vwCl (mWs cA (rhoS h0 h1 h2 u v ad b) flN I0S) H ∧ va_D (mA (rhoS h0 h1 h2 u v ad b) flN) (mWs cA (rhoS h0 h1 h2 u v ad b) flN I0S) ∧ ∀ i, al flN i = true → A (rhoS h0 h1 h2 u v ad b i) :=
  mWs_of (fun i => posS.getD i 0) (fun i hi => pos_ok i (al_S0 i (al_lt hi) hi)) (fun i j hi hj e => pos_inj i (al_lt hi) j (al_lt hj) hi hj e) hP hD
def beS (k : Int) : Int := if k < 550 then (if k = 1 then 8 else if k = 2 then 9 else if k = 3 then 20 else if k = 4 then 9 else if k = 5 then 1 else 0) else if k < 595 then (if (k - 550) % 5 = 0 then -1 else if (k - 550) % 5 = 1 then 3 else if (k - 550) % 5 = 2 then 80 else if (k - 550) % 5 = 3 then 10 else 1) else 0
theorem be_ok : ∀ k : Nat, k < 635 → (tk53 k).toInt = beS k := by decide +kernel
theorem be_S {k : Int} (k0 : 0 ≤ k) (k1 : k < 635) : I0S 201 k = beS k := by
  have h := be_ok k.toNat (by omega)
  rw [show ((k.toNat : Nat) : Int) = k by omega] at h
  exact h
theorem beS_0 {k : Int} (h0 : 6 ≤ k) (h1 : k < 550) : beS k = 0 := by
  unfold beS
  rw [if_pos h1, if_neg (by omega), if_neg (by omega), if_neg (by omega), if_neg (by omega), if_neg (by omega)]
theorem beS_9 {k : Int} (h0 : 595 ≤ k) : beS k = 0 := by
  unfold beS
  rw [if_neg (by omega), if_neg (by omega)]
theorem beS_f {f : Int} (f0 : 0 ≤ f) (f1 : f < 9) : beS (550 + 5 * f) = -1 ∧ beS (551 + 5 * f) = 3 ∧ beS (552 + 5 * f) = 80 ∧ beS (553 + 5 * f) = 10 ∧ beS (554 + 5 * f) = 1 := by
  have : f = 0 ∨ f = 1 ∨ f = 2 ∨ f = 3 ∨ f = 4 ∨ f = 5 ∨ f = 6 ∨ f = 7 ∨ f = 8 := by omega
  rcases this with rfl | rfl | rfl | rfl | rfl | rfl | rfl | rfl | rfl <;> decide
end LSTART
section LLI0
theorem WF0 : WFt (I0S 201) := by
  have e : ∀ k : Int, 0 ≤ k → k < 635 → I0S 201 k = beS k := fun k k0 k1 => be_S k0 k1
  refine ⟨?_, fun b b0 b1 => ?_, fun c c0 c1 => ?_, fun k k0 k1 => ?_, fun b h b0 b1 h0 h1 => ?_, fun f f0 f1 => ?_, fun i i0 i1 => ⟨?_, fun f f0 f1 => ?_⟩⟩
  · rw [e 0 (by decide) (by decide), e 1 (by decide) (by decide), e 2 (by decide) (by decide), e 3 (by decide) (by decide), e 4 (by decide) (by decide), e 5 (by decide) (by decide), e 6 (by decide) (by decide), e 7 (by decide) (by decide), e 8 (by decide) (by decide)]
    decide
  · rw [e _ (by omega) (by omega), beS_0 (by omega) (by omega)]; omega
  · rw [e _ (by omega) (by omega), beS_0 (by omega) (by omega)]; omega
  · rw [e _ (by omega) (by omega), e (311 + 5 * k) (by omega) (by omega), e (312 + 5 * k) (by omega) (by omega), e (313 + 5 * k) (by omega) (by omega), e (314 + 5 * k) (by omega) (by omega), beS_0 (by omega) (by omega), beS_0 (by omega) (by omega), beS_0 (by omega) (by omega), beS_0 (by omega) (by omega), beS_0 (by omega) (by omega)]; omega
  · rw [e _ (by omega) (by omega), beS_0 (by omega) (by omega)] at h1; omega
  · rw [e _ (by omega) (by omega), e (551 + 5 * f) (by omega) (by omega), e (552 + 5 * f) (by omega) (by omega), e (553 + 5 * f) (by omega) (by omega), e (554 + 5 * f) (by omega) (by omega), (beS_f f0 f1).1, (beS_f f0 f1).2.1, (beS_f f0 f1).2.2.1, (beS_f f0 f1).2.2.2.1, (beS_f f0 f1).2.2.2.2]; omega
  · rw [e _ (by omega) (by omega), beS_9 (by omega)]; omega
  · rw [e _ (by omega) (by omega), beS_9 (by omega)]; omega
set_option maxRecDepth 20000 in
theorem LI0 : LI flN I0S := by
  have e : ∀ k : Int, 0 ≤ k → k < 635 → I0S 201 k = beS k := fun k k0 k1 => be_S k0 k1
  refine ⟨⟨WF0, ⟨fun k k0 k1 => ?_, fun c c0 c1 => ?_, fun b b0 b1 => ?_, fun b h b0 b1 h0 h1 => ?_⟩, ⟨fun f f0 f1 => ?_, fun i i0 i1 hk => ?_, ?_⟩, ⟨?_, ?_, ?_, fun k k0 k1 => ?_, fun k k0 k1 => ?_⟩⟩, ⟨fun j j0 j1 => ⟨rfl, Int.le_refl _, (show (0 : Int) ≤ 255 by decide)⟩, ⟨fun k k0 k1 => ⟨?_, ⟨Int.le_refl 0, (show (0 : Int) ≤ 40 by decide)⟩⟩, fun q q0 q1 => (show mrl 0 from ⟨by decide, by decide⟩)⟩, fun k hk => ⟨⟨fun h => absurd (show false = true from h) (by decide), fun h => ?_⟩, fun h => absurd (show false = true from h) (by decide)⟩, fun k hk => ⟨Or.inl rfl, ⟨fun h => absurd (show false = true from h) (by decide), fun h => absurd (show (0 : Int) = 1 from h) (by decide)⟩, fun h => absurd (show false = true from h) (by decide)⟩⟩, ⟨rfl, by decide, by decide⟩, ⟨rfl, rfl⟩, (show mrg 0 from ⟨by decide, by decide⟩), rfl, rfl⟩
  · rw [e k k0 (by omega)]
    have : k = 0 ∨ k = 1 ∨ k = 2 ∨ k = 3 ∨ k = 4 ∨ k = 5 := by omega
    rcases this with rfl | rfl | rfl | rfl | rfl | rfl <;> rfl
  · rw [e _ (by omega) (by omega), beS_0 (by omega) (by omega)]; rfl
  · rw [e _ (by omega) (by omega), beS_0 (by omega) (by omega)]; rfl
  · rw [e _ (by omega) (by omega), beS_0 (by omega) (by omega)] at h1; omega
  · unfold stT pcT hdT prT amT
    rw [show 550 + 5 * f + 1 = 551 + 5 * f by omega, show 550 + 5 * f + 2 = 552 + 5 * f by omega, show 550 + 5 * f + 3 = 553 + 5 * f by omega, show 550 + 5 * f + 4 = 554 + 5 * f by omega, e _ (by omega) (by omega), e (551 + 5 * f) (by omega) (by omega), e (552 + 5 * f) (by omega) (by omega), e (553 + 5 * f) (by omega) (by omega), e (554 + 5 * f) (by omega) (by omega), (beS_f f0 f1).1, (beS_f f0 f1).2.1, (beS_f f0 f1).2.2.1, (beS_f f0 f1).2.2.2.1, (beS_f f0 f1).2.2.2.2]
    exact ⟨rfl, rfl, rfl, rfl, rfl⟩
  · unfold keptP at hk
    rw [e _ (by omega) (by omega), beS_9 (by omega)] at hk
    exact absurd hk (by decide)
  · rfl
  · rw [e 6 (by decide) (by decide)]; rfl
  · rw [e 7 (by decide) (by decide)]; rfl
  · rw [e 8 (by decide) (by decide)]; rfl
  · rw [e _ (by omega) (by omega), beS_0 (by omega) (by omega)]; rfl
  · rw [e _ (by omega) (by omega), beS_0 (by omega) (by omega)]; rfl
  · have : k = 0 ∨ k = 1 ∨ k = 2 ∨ k = 3 := by omega
    rcases this with rfl | rfl | rfl | rfl <;> decide
  · have : k = 0 ∨ k = 1 ∨ k = 2 ∨ k = 3 := by omega
    rcases this with rfl | rfl | rfl | rfl <;> exact absurd (show I0S 216 _ = -1 from by decide) h
end LLI0
