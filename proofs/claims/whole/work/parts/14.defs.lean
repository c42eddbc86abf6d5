section MDEFS
theorem mSet_ap {I : mM} {i a : Nat} {k v b : Int} : mSet I i k v a b = if a = i ∧ b = k then v else I a b := rfl
theorem ncast {n : Nat} : ((no_index (OfNat.ofNat n) : Nat) : Int) = OfNat.ofNat n := rfl
theorem sq_nn (x : Int) : 0 ≤ x * x := by
  rcases Int.le_total 0 x with h | h
  · exact Int.mul_nonneg h h
  · have h2 : 0 ≤ -x := by omega
    have h3 := Int.mul_nonneg h2 h2
    rw [Int.neg_mul_neg] at h3
    exact h3
theorem sq_le {x n : Int} (h1 : -n ≤ x) (h2 : x ≤ n) : x * x ≤ n * n := by
  rcases Int.le_total 0 x with h | h
  · exact Int.mul_le_mul h2 h2 h (by omega)
  · have h3 : 0 ≤ -x := by omega
    have h4 := Int.mul_le_mul (a := -x) (b := -x) (c := n) (d := n) (by omega) (by omega) h3 (by omega)
    rw [Int.neg_mul_neg] at h4
    exact h4
theorem sq_of {x n : Int} (hn : 0 ≤ n) (h : x * x ≤ n * n) : -n ≤ x ∧ x ≤ n := by
  constructor
  · rcases Int.lt_or_le x (-n) with q | q
    · have h4 := Int.mul_le_mul (a := n + 1) (b := n + 1) (c := -x) (d := -x) (by omega) (by omega) (by omega) (by omega)
      rw [Int.neg_mul_neg, Int.add_mul, Int.mul_add] at h4
      omega
    · exact q
  · rcases Int.lt_or_le n x with q | q
    · have h4 := Int.mul_le_mul (a := n + 1) (b := n + 1) (c := x) (d := x) (by omega) (by omega) (by omega) (by omega)
      rw [Int.add_mul, Int.mul_add] at h4
      omega
    · exact q
/-- what the reference's row holds, within bounds -/
def WFt (t : Int → Int) : Prop :=
  ((0 ≤ t 0 ∧ t 0 ≤ 30) ∧ (2 ≤ t 1 ∧ t 1 ≤ 8) ∧ (1 ≤ t 2 ∧ t 2 ≤ 60) ∧ (0 ≤ t 3 ∧ t 3 ≤ 99) ∧ (0 ≤ t 4 ∧ t 4 ≤ 9) ∧ (0 ≤ t 5 ∧ t 5 ≤ 8) ∧ (0 ≤ t 6 ∧ t 6 ≤ 4) ∧ (0 ≤ t 7 ∧ t 7 ≤ 100) ∧ (0 ≤ t 8 ∧ t 8 ≤ 1)) ∧
  (∀ b, 0 ≤ b → b < 6 → 0 ≤ t (13 + b) ∧ t (13 + b) ≤ 8) ∧
  (∀ c, 0 ≤ c → c < 289 → 0 ≤ t (20 + c) ∧ t (20 + c) ≤ 20) ∧
  (∀ k, 0 ≤ k → k < 48 → (0 ≤ t (310 + 5 * k) ∧ t (310 + 5 * k) ≤ 15) ∧ (0 ≤ t (311 + 5 * k) ∧ t (311 + 5 * k) ≤ 9) ∧ (0 ≤ t (312 + 5 * k) ∧ t (312 + 5 * k) ≤ 8) ∧ (0 ≤ t (313 + 5 * k) ∧ t (313 + 5 * k) ≤ 99) ∧ (0 ≤ t (314 + 5 * k) ∧ t (314 + 5 * k) ≤ 9999)) ∧
  (∀ b h, 0 ≤ b → b < 6 → 0 ≤ h → h < t (13 + b) → 1 ≤ t (313 + 5 * (8 * b + h))) ∧
  (∀ f, 0 ≤ f → f < 9 → (-1 ≤ t (550 + 5 * f) ∧ t (550 + 5 * f) ≤ 288) ∧ (1 ≤ t (551 + 5 * f) ∧ t (551 + 5 * f) ≤ 9) ∧ (0 ≤ t (552 + 5 * f) ∧ t (552 + 5 * f) ≤ 100) ∧ (0 ≤ t (553 + 5 * f) ∧ t (553 + 5 * f) ≤ 50) ∧ (0 ≤ t (554 + 5 * f) ∧ t (554 + 5 * f) ≤ 9)) ∧
  (∀ i, 0 ≤ i → i < 4 → (0 ≤ t (595 + 10 * i) ∧ t (595 + 10 * i) ≤ 1) ∧ ∀ f, 0 ≤ f → f < 9 → -1 ≤ t (596 + 10 * i + f) ∧ t (596 + 10 * i + f) ≤ 288)
/-- a number of a HIT, in the reference's row -/
def rawT (t : Int → Int) (b h w : Int) : Int := t (310 + 5 * (8 * b + h) + w)
def wayT (t : Int → Int) (b h : Int) : Int := if t 6 = 4 then (16 - rawT t b h 0) % 16 else rawT t b h 0
def airT (t : Int → Int) (b h : Int) : Int := if t 6 = 2 then 0 else if t 6 = 3 then max 3 (rawT t b h 2) else rawT t b h 2
def eastT (w : Int) : Int :=
  let v := if w > 8 then 16 - w else w
  let y := if v = 0 ∨ v = 8 then 0 else if v = 3 ∨ v = 5 then 2 else 1
  if w > 8 then -y else y
def southT (w : Int) : Int :=
  let v := if w > 8 then 16 - w else w
  if v = 0 ∨ v = 2 ∨ v = 3 then -1 else if v = 1 then -2 else if v = 4 then 0 else if v = 7 then 2 else 1
abbrev insT (t : Int → Int) (x y : Int) : Prop := (x - 8) * (x - 8) + (y - 8) * (y - 8) ≤ t 1 * t 1
abbrev inK (t : Int → Int) (b h k : Int) : Prop := insT t (8 + k * eastT (wayT t b h)) (8 + k * southT (wayT t b h))
def stepsGo (p : Int → Bool) : Nat → Int → Int
  | 0, k => k - 1
  | n + 1, k => if p k = true then stepsGo p n (k + 1) else k - 1
def stepsT (t : Int → Int) (b h : Int) : Int := stepsGo (fun k => decide (inK t b h k)) 9 1
def cellT (t : Int → Int) (b h k : Int) : Int := 17 * (8 + k * southT (wayT t b h)) + 8 + k * eastT (wayT t b h)
def tickN (t : Int → Int) (b h : Int) : Nat → Int
  | 0 => 0
  | n + 1 => tickN t b h n + (rawT t b h 1 + if airT t b h ≤ ((n + 1 : Nat) : Int) then t (20 + cellT t b h ((n + 1 : Nat) : Int)) else 0)
def tickT (t : Int → Int) (b h k : Int) : Int := tickN t b h k.toNat
def far (a b : Int) : Int := max (if a % 17 - b % 17 < 0 then b % 17 - a % 17 else a % 17 - b % 17) (if a / 17 - b / 17 < 0 then b / 17 - a / 17 else a / 17 - b / 17)
theorem far_bd {a b : Int} (ha : 0 ≤ a ∧ a < 289) (hb : 0 ≤ b ∧ b < 289) : 0 ≤ far a b ∧ far a b ≤ 16 := by unfold far; omega
theorem WFt.raw {t : Int → Int} (H : WFt t) {b h : Int} (hb : 0 ≤ b ∧ b < 6) (hh : 0 ≤ h ∧ h < 8) : (0 ≤ rawT t b h 0 ∧ rawT t b h 0 ≤ 15) ∧ (0 ≤ rawT t b h 1 ∧ rawT t b h 1 ≤ 9) ∧ (0 ≤ rawT t b h 2 ∧ rawT t b h 2 ≤ 8) ∧ (0 ≤ rawT t b h 3 ∧ rawT t b h 3 ≤ 99) ∧ (0 ≤ rawT t b h 4 ∧ rawT t b h 4 ≤ 9999) := by
  have h1 := H.2.2.2.1 (8 * b + h) (by omega) (by omega)
  unfold rawT
  rw [show 310 + 5 * (8 * b + h) + 0 = 310 + 5 * (8 * b + h) by omega, show 310 + 5 * (8 * b + h) + 1 = 311 + 5 * (8 * b + h) by omega, show 310 + 5 * (8 * b + h) + 2 = 312 + 5 * (8 * b + h) by omega, show 310 + 5 * (8 * b + h) + 3 = 313 + 5 * (8 * b + h) by omega, show 310 + 5 * (8 * b + h) + 4 = 314 + 5 * (8 * b + h) by omega]
  exact h1
theorem WFt.way {t : Int → Int} (H : WFt t) {b h : Int} (hb : 0 ≤ b ∧ b < 6) (hh : 0 ≤ h ∧ h < 8) : 0 ≤ wayT t b h ∧ wayT t b h ≤ 15 := by
  have h1 := (H.raw hb hh).1
  unfold wayT
  split <;> omega
theorem WFt.air {t : Int → Int} (H : WFt t) {b h : Int} (hb : 0 ≤ b ∧ b < 6) (hh : 0 ≤ h ∧ h < 8) : 0 ≤ airT t b h ∧ airT t b h ≤ 8 := by
  have h1 := (H.raw hb hh).2.2.1
  unfold airT
  split
  · omega
  · split <;> omega
theorem es_bd {w : Int} (h : 0 ≤ w ∧ w ≤ 15) : (-2 ≤ eastT w ∧ eastT w ≤ 2) ∧ (-2 ≤ southT w ∧ southT w ≤ 2) ∧ ((eastT w ≤ -1 ∨ 1 ≤ eastT w) ∨ (southT w ≤ -1 ∨ 1 ≤ southT w)) := by
  unfold eastT southT
  dsimp only
  repeat' split
  all_goals omega
theorem mul_cases {k e : Int} (h : -2 ≤ e ∧ e ≤ 2) : (e = -2 ∧ k * e = -(2 * k)) ∨ (e = -1 ∧ k * e = -k) ∨ (e = 0 ∧ k * e = 0) ∨ (e = 1 ∧ k * e = k) ∨ (e = 2 ∧ k * e = 2 * k) := by
  have h2 : e = -2 ∨ e = -1 ∨ e = 0 ∨ e = 1 ∨ e = 2 := by omega
  rcases h2 with rfl | rfl | rfl | rfl | rfl <;> omega
/-- a step that lies IN -/
theorem inK_bd {t : Int → Int} (H : WFt t) {b h k : Int} (hb : 0 ≤ b ∧ b < 6) (hh : 0 ≤ h ∧ h < 8) (hk : 0 ≤ k) (hi : inK t b h k) : k ≤ 8 ∧ (0 ≤ 8 + k * eastT (wayT t b h) ∧ 8 + k * eastT (wayT t b h) ≤ 16) ∧ (0 ≤ 8 + k * southT (wayT t b h) ∧ 8 + k * southT (wayT t b h) ≤ 16) ∧ (0 ≤ cellT t b h k ∧ cellT t b h k < 289) := by
  have hw := es_bd (H.way hb hh)
  unfold inK insT at hi
  unfold cellT
  generalize eastT (wayT t b h) = e at *
  generalize southT (wayT t b h) = s at *
  have he := H.1.2.1
  have hx := sq_nn (8 + k * e - 8)
  have hy := sq_nn (8 + k * s - 8)
  have h8 := sq_le (x := t 1) (n := 8) (by omega) (by omega)
  have bx := sq_of (x := 8 + k * e - 8) (n := 8) (by omega) (by omega)
  have by' := sq_of (x := 8 + k * s - 8) (n := 8) (by omega) (by omega)
  rcases mul_cases (k := k) hw.1 with ⟨a1, a2⟩ | ⟨a1, a2⟩ | ⟨a1, a2⟩ | ⟨a1, a2⟩ | ⟨a1, a2⟩ <;> rcases mul_cases (k := k) hw.2.1 with ⟨b1, b2⟩ | ⟨b1, b2⟩ | ⟨b1, b2⟩ | ⟨b1, b2⟩ | ⟨b1, b2⟩ <;> omega
theorem stepsGo_spec (p : Int → Bool) : ∀ (n : Nat) (k : Int), (∀ j, k ≤ j → j < k + n → p j = true → True) → (k - 1 ≤ stepsGo p n k ∧ stepsGo p n k ≤ k - 1 + n) ∧ (∀ j, k ≤ j → j ≤ stepsGo p n k → p j = true) ∧ (stepsGo p n k < k - 1 + n → ¬ p (stepsGo p n k + 1) = true)
  | 0, k, _ => ⟨by unfold stepsGo; omega, fun j h1 h2 => by unfold stepsGo at h2; omega, fun h => by unfold stepsGo at h; omega⟩
  | n + 1, k, _ => by
    unfold stepsGo
    by_cases h : p k = true
    · rw [if_pos h]
      obtain ⟨h1, h2, h3⟩ := stepsGo_spec p n (k + 1) (fun _ _ _ _ => trivial)
      refine ⟨by omega, fun j hj1 hj2 => ?_, fun hl => h3 (by omega)⟩
      rcases Int.lt_or_le k j with q | q
      · exact h2 j (by omega) hj2
      · have : j = k := by omega
        subst this
        exact h
    · rw [if_neg h]
      refine ⟨by omega, fun j h1 h2 => by omega, fun _ => ?_⟩
      rw [show k - 1 + 1 = k by omega]
      exact h
theorem steps_spec {t : Int → Int} (H : WFt t) {b h : Int} (hb : 0 ≤ b ∧ b < 6) (hh : 0 ≤ h ∧ h < 8) : (0 ≤ stepsT t b h ∧ stepsT t b h ≤ 8) ∧ (∀ k, 1 ≤ k → k ≤ stepsT t b h → inK t b h k) ∧ ¬ inK t b h (stepsT t b h + 1) := by
  obtain ⟨h1, h2, h3⟩ := stepsGo_spec (fun k => decide (inK t b h k)) 9 1 (fun _ _ _ _ => trivial)
  unfold stepsT
  have h9 : stepsGo (fun k => decide (inK t b h k)) 9 1 ≤ 8 := by
    rcases Int.lt_or_le 8 (stepsGo (fun k => decide (inK t b h k)) 9 1) with q | q
    · have := h2 9 (by omega) (by omega)
      have := inK_bd H hb hh (by omega) (of_decide_eq_true this)
      omega
    · exact q
  exact ⟨by omega, fun k k1 k2 => of_decide_eq_true (h2 k k1 k2), fun z => h3 (by omega) (decide_eq_true z)⟩
theorem tickN_bd {t : Int → Int} (H : WFt t) {b h : Int} (hb : 0 ≤ b ∧ b < 6) (hh : 0 ≤ h ∧ h < 8) : ∀ n : Nat, (n : Int) ≤ stepsT t b h → 0 ≤ tickN t b h n ∧ tickN t b h n ≤ 29 * n
  | 0, _ => ⟨by unfold tickN; omega, by unfold tickN; omega⟩
  | n + 1, hn => by
    have ih := tickN_bd H hb hh n (by omega)
    have hp := (H.raw hb hh).2.1
    have hc := (inK_bd H hb hh (k := ((n + 1 : Nat) : Int)) (by omega) ((steps_spec H hb hh).2.1 _ (by omega) hn)).2.2.2
    have hs := H.2.2.1 _ hc.1 hc.2
    unfold tickN
    split <;> omega
theorem tickT_bd {t : Int → Int} (H : WFt t) {b h k : Int} (hb : 0 ≤ b ∧ b < 6) (hh : 0 ≤ h ∧ h < 8) (h0 : 0 ≤ k) (hk : k ≤ stepsT t b h) : 0 ≤ tickT t b h k ∧ tickT t b h k ≤ 29 * k := by
  have h1 := tickN_bd H hb hh k.toNat (by omega)
  unfold tickT
  omega
end MDEFS
