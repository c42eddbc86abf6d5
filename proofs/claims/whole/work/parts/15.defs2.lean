section MDEFS2
/-- who comes first to a cell: of those who REACH it by tick, but for one, the least FAR times PACE, then the least number; n of them are looked at -/
def soonU (st pc : Int → Int) (c tk but : Int) : Nat → Int
  | 0 => -1
  | n + 1 =>
    let best := soonU st pc c tk but n
    if (n : Int) = but ∨ st n = -1 ∨ tk < far (st n) c * pc n then best
    else if best = -1 ∨ far (st n) c * pc n < far (st best) c * pc best then (n : Int) else best
theorem soonU_bd (st pc : Int → Int) (c tk but : Int) : ∀ n : Nat, -1 ≤ soonU st pc c tk but n ∧ soonU st pc c tk but n < n ∧ (soonU st pc c tk but n ≠ -1 → st (soonU st pc c tk but n) ≠ -1 ∧ soonU st pc c tk but n ≠ but ∧ far (st (soonU st pc c tk but n)) c * pc (soonU st pc c tk but n) ≤ tk)
  | 0 => ⟨by simp [soonU], by simp [soonU], fun h => absurd rfl h⟩
  | n + 1 => by
    obtain ⟨h1, h2, h3⟩ := soonU_bd st pc c tk but n
    simp only [soonU]
    split
    · exact ⟨h1, by omega, h3⟩
    · rename_i hc
      split
      · refine ⟨by omega, by omega, fun _ => ⟨fun z => hc (Or.inr (Or.inl z)), fun z => hc (Or.inl z), ?_⟩⟩
        exact Int.not_lt.mp fun z => hc (Or.inr (Or.inr z))
      · exact ⟨h1, by omega, h3⟩
def soonT (st pc : Int → Int) (c tk but : Int) : Int := soonU st pc c tk but 9
/-- the first step from k on, m of them, that anybody (but one) REACHES -/
def stopGo (st pc cell tick : Int → Int) (but : Int) : Nat → Int → Int
  | 0, _ => -1
  | m + 1, k => if soonT st pc (cell k) (tick k) but = -1 then stopGo st pc cell tick but m (k + 1) else k
def stopT (st pc cell tick : Int → Int) (a n but : Int) : Int := stopGo st pc cell tick but (n - a).toNat (a + 1)
def catcherT (st pc cell tick : Int → Int) (a n : Int) : Int := if 1 ≤ a ∧ a ≤ n then soonT st pc (cell a) (tick a) (-1) else -1
def handsT (hd pr st : Int → Int) (f c : Int) : Int := max 0 (hd f - pr f * far (st f) c)
def catchT (hd pr st pc cell tick : Int → Int) (a n : Int) : Int :=
  if catcherT st pc cell tick a n = -1 then 0 else handsT hd pr st (catcherT st pc cell tick a n) (cell a)
def runsByT (arm cell tick : Int → Int) (run f k : Int) : Int := min 3 ((tick k + arm f * far (cell k) 144) / run)
def runsButT (arm st pc cell tick : Int → Int) (run a n but : Int) : Int :=
  if stopT st pc cell tick a n but = -1 then (if a > n then 6 else 4)
  else runsByT arm cell tick run (soonT st pc (cell (stopT st pc cell tick a n but)) (tick (stopT st pc cell tick a n but)) but) (stopT st pc cell tick a n but)
def priceT (worth c r : Int) : Int := (100 - c) * r - worth * c
/-- the STANDS and numbers of FIELDERS in the reference's row -/
def stT (t : Int → Int) : Int → Int := fun f => t (550 + 5 * f)
def pcT (t : Int → Int) : Int → Int := fun f => t (550 + 5 * f + 1)
def hdT (t : Int → Int) : Int → Int := fun f => t (550 + 5 * f + 2)
def prT (t : Int → Int) : Int → Int := fun f => t (550 + 5 * f + 3)
def amT (t : Int → Int) : Int → Int := fun f => t (550 + 5 * f + 4)
def runsT (t : Int → Int) (b h : Int) : Int := runsButT (amT t) (stT t) (pcT t) (cellT t b h) (tickT t b h) (t 2) (airT t b h) (stepsT t b h) (catcherT (stT t) (pcT t) (cellT t b h) (tickT t b h) (airT t b h) (stepsT t b h))
def caughtT (t : Int → Int) (b h : Int) : Int := catchT (hdT t) (prT t) (stT t) (pcT t) (cellT t b h) (tickT t b h) (airT t b h) (stepsT t b h)
def costT (t : Int → Int) (b h : Int) : Int := priceT (t 3) (caughtT t b h) (runsT t b h)
def allN (t : Int → Int) (b : Int) : Nat → Int
  | 0 => 0
  | n + 1 => allN t b n + rawT t b n 3
def allT (t : Int → Int) (b : Int) : Int := allN t b (t (13 + b)).toNat
def sumN (t : Int → Int) (b : Int) : Nat → Int
  | 0 => 0
  | n + 1 => sumN t b n + rawT t b n 3 * costT t b n
def mostN (t : Int → Int) (b : Int) : Nat → Int
  | 0 => 0
  | n + 1 => if n = 0 ∨ costT t b n > mostN t b n then costT t b n else mostN t b n
def shareT (t : Int → Int) : Int := if t 6 = 1 then t 7 else 0
def meanT (t : Int → Int) (b : Int) : Int := (100 - shareT t) * sumN t b (t (13 + b)).toNat + shareT t * mostN t b (t (13 + b)).toNat * allT t b
theorem WFt.fld {t : Int → Int} (H : WFt t) {f : Int} (hf : 0 ≤ f ∧ f < 9) : (-1 ≤ stT t f ∧ stT t f ≤ 288) ∧ (1 ≤ pcT t f ∧ pcT t f ≤ 9) ∧ (0 ≤ hdT t f ∧ hdT t f ≤ 100) ∧ (0 ≤ prT t f ∧ prT t f ≤ 50) ∧ (0 ≤ amT t f ∧ amT t f ≤ 9) := by
  have h1 := H.2.2.2.2.2.1 f hf.1 hf.2
  unfold stT pcT hdT prT amT
  rw [show 550 + 5 * f + 1 = 551 + 5 * f by omega, show 550 + 5 * f + 2 = 552 + 5 * f by omega, show 550 + 5 * f + 3 = 553 + 5 * f by omega, show 550 + 5 * f + 4 = 554 + 5 * f by omega]
  exact h1
theorem prod_bd {x y a b : Int} (hx : 0 ≤ x ∧ x ≤ a) (hy : 0 ≤ y ∧ y ≤ b) : 0 ≤ x * y ∧ x * y ≤ a * b :=
  ⟨Int.mul_nonneg hx.1 hy.1, Int.mul_le_mul hx.2 hy.2 hy.1 (by omega)⟩
/-- step 0 is the BAT -/
theorem cell_in {t : Int → Int} (H : WFt t) {b h k : Int} (hb : 0 ≤ b ∧ b < 6) (hh : 0 ≤ h ∧ h < 8) (hk : 0 ≤ k ∧ k ≤ stepsT t b h) : 0 ≤ cellT t b h k ∧ cellT t b h k < 289 := by
  rcases Int.lt_or_le 0 k with q | q
  · exact (inK_bd H hb hh (by omega) ((steps_spec H hb hh).2.1 k (by omega) hk.2)).2.2.2
  · have : k = 0 := by omega
    subst this
    unfold cellT
    omega
theorem tick_succ (t : Int → Int) (b h : Int) {k : Int} (hk : 1 ≤ k) : tickT t b h k = tickT t b h (k - 1) + (rawT t b h 1 + if airT t b h ≤ k then t (20 + cellT t b h k) else 0) := by
  obtain ⟨n, rfl⟩ : ∃ n : Nat, k = ((n + 1 : Nat) : Int) := ⟨(k - 1).toNat, by omega⟩
  have e1 : (((n + 1 : Nat) : Int) - 1).toNat = n := by omega
  have e2 : ((n + 1 : Nat) : Int).toNat = n + 1 := by omega
  unfold tickT
  rw [e1, e2]
  rfl
end MDEFS2
