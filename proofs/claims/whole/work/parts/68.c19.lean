section SPC19
/-- only f is there, on c -/
theorem solo_soonU {pc : Int → Int} {f c cc tk : Int} (hf : 0 ≤ f) (hc : c ≠ -1) : ∀ n : Nat, soonU (updS (fun _ => -1) f c) pc cc tk (-1) n = if f < n ∧ far c cc * pc f ≤ tk then f else -1
  | 0 => by
    simp only [soonU]
    rw [if_neg (fun w => by omega)]
  | n + 1 => by
    have ih := solo_soonU (pc := pc) (cc := cc) (tk := tk) hf hc n
    simp only [soonU]
    rw [ih]
    by_cases q : (n : Int) = f
    · have e : updS (fun _ => -1) f c (n : Int) = c := by
        simp only [updS]
        rw [if_pos q]
      rw [e, q, if_neg (show ¬ (f < f ∧ far c cc * pc f ≤ tk) from fun w => by omega)]
      by_cases z : far c cc * pc f ≤ tk
      · rw [if_neg (fun w => by omega), if_pos (Or.inl rfl), if_pos ⟨by omega, z⟩]
      · rw [if_pos (by omega), if_neg (fun w => z w.2)]
    · have e : updS (fun _ => -1) f c (n : Int) = -1 := by
        simp only [updS]
        rw [if_neg q]
      rw [e, if_pos (Or.inr (Or.inl rfl))]
      by_cases z : f < n ∧ far c cc * pc f ≤ tk
      · rw [if_pos z, if_pos ⟨by omega, z.2⟩]
      · rw [if_neg z, if_neg (fun w => z ⟨by omega, w.2⟩)]
theorem solo_soonT {pc : Int → Int} {f c cc tk : Int} (hf : 0 ≤ f ∧ f < 9) (hc : c ≠ -1) : soonT (updS (fun _ => -1) f c) pc cc tk (-1) = if far c cc * pc f ≤ tk then f else -1 := by
  have h := solo_soonU (pc := pc) (cc := cc) (tk := tk) hf.1 hc 9
  have e : soonT (updS (fun _ => -1) f c) pc cc tk (-1) = soonU (updS (fun _ => -1) f c) pc cc tk (-1) 9 := rfl
  rw [e, h]
  by_cases z : far c cc * pc f ≤ tk
  · rw [if_pos ⟨by omega, z⟩, if_pos z]
  · rw [if_neg (fun w => z w.2), if_neg z]
/-- the value at the first place that P tells -/
def fstN (P : Int → Bool) (r : Int → Int) (u : Int) : Nat → Int → Int
  | 0, _ => u
  | m + 1, k => if P k = true then r k else fstN P r u m (k + 1)
theorem fstN_ge {P : Int → Bool} {r : Int → Int} {u v : Int} (hu : v ≤ u) : ∀ (m : Nat) (k : Int), (∀ j : Int, k ≤ j → j < k + m → v ≤ r j) → v ≤ fstN P r u m k
  | 0, _, _ => hu
  | m + 1, k, h => by
    have ih := fstN_ge (P := P) (r := r) hu m (k + 1) (fun j j0 j1 => h j (by omega) (by omega))
    simp only [fstN]
    split
    · exact h k (by omega) (by omega)
    · exact ih
theorem fstN_min {P P' : Int → Bool} {r : Int → Int} {u : Int} : ∀ (m : Nat) (k : Int), (∀ i j : Int, k ≤ i → i ≤ j → j < k + m → r i ≤ r j) → (∀ j : Int, k ≤ j → j < k + m → r j ≤ u) → min (fstN P r u m k) (fstN P' r u m k) = fstN (fun k => P k || P' k) r u m k
  | 0, _, _, _ => by simp [fstN]
  | m + 1, k, hr, hu => by
    have ih := fstN_min (P := P) (P' := P') (r := r) (u := u) m (k + 1) (fun i j i0 ij j1 => hr i j (by omega) ij (by omega)) (fun j j0 j1 => hu j (by omega) (by omega))
    have g1 := fstN_ge (P := P) (r := r) (u := u) (v := r k) (hu k (by omega) (by omega)) m (k + 1) (fun j j0 j1 => hr k j (by omega) (by omega) (by omega))
    have g2 := fstN_ge (P := P') (r := r) (u := u) (v := r k) (hu k (by omega) (by omega)) m (k + 1) (fun j j0 j1 => hr k j (by omega) (by omega) (by omega))
    simp only [fstN]
    by_cases h1 : P k = true
    · by_cases h2 : P' k = true
      · rw [if_pos h1, if_pos h2, if_pos (show (P k || P' k) = true by rw [h1]; rfl)]
        omega
      · rw [if_pos h1, if_neg h2, if_pos (show (P k || P' k) = true by rw [h1]; rfl)]
        omega
    · by_cases h2 : P' k = true
      · rw [if_neg h1, if_pos h2, if_pos (show (P k || P' k) = true by rw [h2, Bool.or_true])]
        omega
      · rw [if_neg h1, if_neg h2, if_neg (show ¬ (P k || P' k) = true by simp [h1, h2])]
        exact ih
theorem fstN_cong {P P' : Int → Bool} {r : Int → Int} {u : Int} : ∀ (m : Nat) (k : Int), (∀ j : Int, k ≤ j → j < k + m → P j = P' j) → fstN P r u m k = fstN P' r u m k
  | 0, _, _ => rfl
  | m + 1, k, h => by
    simp only [fstN]
    rw [h k (by omega) (by omega), fstN_cong m (k + 1) (fun j j0 j1 => h j (by omega) (by omega))]
def unT (t : Int → Int) (b h : Int) : Int := if stepsT t b h < airT t b h then 6 else 4
def ruT (t : Int → Int) (b h f : Int) : Int → Int := fun k => runsByT (amT t) (cellT t b h) (tickT t b h) (t 2) f k
theorem stop_fst {s pc cell tick : Int → Int} {f : Int} (r : Int → Int) (u : Int) (hf : f ≠ -1) (P : Int → Bool) : ∀ (m : Nat) (k : Int), 0 ≤ k → (∀ j : Int, k ≤ j → j < k + m → soonT s pc (cell j) (tick j) (-1) = if P j = true then f else -1) → (if stopGo s pc cell tick (-1) m k = -1 then u else r (stopGo s pc cell tick (-1) m k)) = fstN P r u m k
  | 0, _, _, _ => by
    show (if (-1 : Int) = -1 then u else r (-1)) = u
    exact if_pos rfl
  | m + 1, k, k0, h => by
    have ih := stop_fst (s := s) (pc := pc) (cell := cell) (tick := tick) r u hf P m (k + 1) (by omega) (fun j j0 j1 => h j (by omega) (by omega))
    have hk := h k (by omega) (by omega)
    by_cases z : P k = true
    · rw [if_pos z] at hk
      have e : stopGo s pc cell tick (-1) (m + 1) k = k := by
        simp only [stopGo]
        rw [if_neg (by rw [hk]; exact hf)]
      rw [e, if_neg (by omega)]
      simp only [fstN]
      rw [if_pos z]
    · rw [if_neg z] at hk
      have e : stopGo s pc cell tick (-1) (m + 1) k = stopGo s pc cell tick (-1) m (k + 1) := by
        simp only [stopGo]
        rw [if_pos hk]
      rw [e]
      simp only [fstN]
      rw [if_neg z]
      exact ih
theorem noCat_fst {t : Int → Int} (H : WFt t) {b h f c : Int} (hb : 0 ≤ b ∧ b < 6) (hh : 0 ≤ h ∧ h < 8) (hf : 0 ≤ f ∧ f < 9) (hc : c ≠ -1) : noCat (soloR t f c) b h = fstN (fun k => decide (far c (cellT t b h k) * pcT t f ≤ tickT t b h k)) (ruT t b h f) (unT t b h) (stepsT t b h - airT t b h).toNat (airT t b h + 1) := by
  have ha := H.air hb hh
  have e1 : noCat (soloR t f c) b h = rnS t (updS (fun _ => -1) f c) b h (-1) := rnS_eq H (updS (fun _ => -1) f c) (-1) hb hh
  rw [e1]
  have hs : ∀ j : Int, soonT (updS (fun _ => -1) f c) (pcT t) (cellT t b h j) (tickT t b h j) (-1) = if decide (far c (cellT t b h j) * pcT t f ≤ tickT t b h j) = true then f else -1 := fun j => by
    rw [solo_soonT hf hc]
    simp only [decide_eq_true_eq]
  have key := stop_fst (s := updS (fun _ => -1) f c) (pc := pcT t) (cell := cellT t b h) (tick := tickT t b h) (f := f) (ruT t b h f) (unT t b h) (by omega) (fun k => decide (far c (cellT t b h k) * pcT t f ≤ tickT t b h k)) (stepsT t b h - airT t b h).toNat (airT t b h + 1) (by omega) (fun j _ _ => hs j)
  rw [← key]
  have e2 : rnS t (updS (fun _ => -1) f c) b h (-1) = if spS t (updS (fun _ => -1) f c) b h (-1) = -1 then (if airT t b h > stepsT t b h then 6 else 4) else runsByT (amT t) (cellT t b h) (tickT t b h) (t 2) (soonT (updS (fun _ => -1) f c) (pcT t) (cellT t b h (spS t (updS (fun _ => -1) f c) b h (-1))) (tickT t b h (spS t (updS (fun _ => -1) f c) b h (-1))) (-1)) (spS t (updS (fun _ => -1) f c) b h (-1)) := rfl
  have e3 : spS t (updS (fun _ => -1) f c) b h (-1) = stopGo (updS (fun _ => -1) f c) (pcT t) (cellT t b h) (tickT t b h) (-1) (stepsT t b h - airT t b h).toNat (airT t b h + 1) := rfl
  have sp := spS_bd H (updS (fun _ => -1) f c) (-1) hb hh
  rw [e2, ← e3]
  by_cases z : spS t (updS (fun _ => -1) f c) b h (-1) = -1
  · rw [if_pos z, if_pos z]
    rfl
  · rw [if_neg z, if_neg z]
    have e4 := hs (spS t (updS (fun _ => -1) f c) b h (-1))
    have n4 := (sp.resolve_left z).2.2
    rw [e4] at n4 ⊢
    by_cases w : decide (far c (cellT t b h (spS t (updS (fun _ => -1) f c) b h (-1))) * pcT t f ≤ tickT t b h (spS t (updS (fun _ => -1) f c) b h (-1))) = true
    · rw [if_pos w]
      rfl
    · rw [if_neg w] at n4
      exact absurd rfl n4
/-- RUNS never fall from step to step -/
theorem far_bat {t : Int → Int} (H : WFt t) {b h k : Int} (hb : 0 ≤ b ∧ b < 6) (hh : 0 ≤ h ∧ h < 8) (hk : 1 ≤ k ∧ k + 1 ≤ stepsT t b h) : far (cellT t b h k) 144 ≤ far (cellT t b h (k + 1)) 144 := by
  have sp := steps_spec H hb hh
  have b1 := inK_bd H hb hh (by omega) (sp.2.1 k hk.1 (by omega))
  have b2 := inK_bd H hb hh (by omega) (sp.2.1 (k + 1) (by omega) hk.2)
  have es := es_bd (H.way hb hh)
  have m1 := mul_cases (k := k) es.1
  have m2 := mul_cases (k := k) es.2.1
  have m3 := mul_cases (k := k + 1) es.1
  have m4 := mul_cases (k := k + 1) es.2.1
  unfold far
  unfold cellT at *
  generalize k * eastT (wayT t b h) = x1 at *
  generalize k * southT (wayT t b h) = y1 at *
  generalize (k + 1) * eastT (wayT t b h) = x2 at *
  generalize (k + 1) * southT (wayT t b h) = y2 at *
  generalize eastT (wayT t b h) = e at *
  generalize southT (wayT t b h) = s at *
  have q1 : (17 * (8 + y1) + 8 + x1) % 17 = 8 + x1 := by omega
  have q2 : (17 * (8 + y1) + 8 + x1) / 17 = 8 + y1 := by omega
  have q3 : (17 * (8 + y2) + 8 + x2) % 17 = 8 + x2 := by omega
  have q4 : (17 * (8 + y2) + 8 + x2) / 17 = 8 + y2 := by omega
  rw [q1, q2, q3, q4]
  have ax : (e < 0 ∧ x2 ≤ x1 ∧ x1 ≤ 0) ∨ (0 ≤ e ∧ x1 ≤ x2 ∧ 0 ≤ x1) := by omega
  have ay : (s < 0 ∧ y2 ≤ y1 ∧ y1 ≤ 0) ∨ (0 ≤ s ∧ y1 ≤ y2 ∧ 0 ≤ y1) := by omega
  clear m1 m2 m3 m4 b1 b2 sp
  omega
theorem ruT_step {t : Int → Int} (H : WFt t) {b h f k : Int} (hb : 0 ≤ b ∧ b < 6) (hh : 0 ≤ h ∧ h < 8) (hf : 0 ≤ f ∧ f < 9) (hk : 1 ≤ k ∧ k + 1 ≤ stepsT t b h) : ruT t b h f k ≤ ruT t b h f (k + 1) := by
  have fb := far_bat H hb hh hk
  have fl1 := H.fld hf
  have ts := tick_succ t b h (k := k + 1) (by omega)
  rw [show k + 1 - 1 = k by omega] at ts
  have cl := cell_in H hb hh (k := k + 1) ⟨by omega, hk.2⟩
  have sl := H.2.2.1 _ cl.1 cl.2
  have rb := (H.raw hb hh).2.1
  have tk : tickT t b h k ≤ tickT t b h (k + 1) := by
    rw [ts]
    split <;> omega
  have p := Int.mul_le_mul_of_nonneg_left fb (show 0 ≤ amT t f by omega)
  have hr := H.1.2.2.1
  have d := Int.ediv_le_ediv (show 0 < t 2 by omega) (show tickT t b h k + amT t f * far (cellT t b h k) 144 ≤ tickT t b h (k + 1) + amT t f * far (cellT t b h (k + 1)) 144 by omega)
  unfold ruT runsByT
  omega
theorem ruT_mono {t : Int → Int} (H : WFt t) {b h f i : Int} (hb : 0 ≤ b ∧ b < 6) (hh : 0 ≤ h ∧ h < 8) (hf : 0 ≤ f ∧ f < 9) (hi : 1 ≤ i) : ∀ n : Nat, i + n ≤ stepsT t b h → ruT t b h f i ≤ ruT t b h f (i + n)
  | 0, _ => by
    rw [show i + ((0 : Nat) : Int) = i by omega]
    exact Int.le_refl _
  | n + 1, hn => by
    have ih := ruT_mono H (f := f) hb hh hf hi n (by omega)
    have st := ruT_step H (f := f) hb hh hf (k := i + n) ⟨by omega, by omega⟩
    rw [show i + ((n + 1 : Nat) : Int) = i + n + 1 by omega]
    omega
/-- CATCH by FAR alone -/
def gaT (t : Int → Int) (b h f L : Int) : Int := if (1 ≤ airT t b h ∧ airT t b h ≤ stepsT t b h) ∧ L ≠ -1 ∧ L * pcT t f ≤ tickT t b h (airT t b h) then max 0 (hdT t f - prT t f * L) else 0
theorem gaT_mono {t : Int → Int} (H : WFt t) {b h f d L : Int} (hf : 0 ≤ f ∧ f < 9) (hd : 0 ≤ d ∧ d ≤ L) : gaT t b h f L ≤ gaT t b h f d := by
  have fl1 := H.fld hf
  have p1 := Int.mul_le_mul_of_nonneg_right hd.2 (show 0 ≤ pcT t f by omega)
  have p2 := Int.mul_le_mul_of_nonneg_left hd.2 (show 0 ≤ prT t f by omega)
  unfold gaT
  by_cases z : (1 ≤ airT t b h ∧ airT t b h ≤ stepsT t b h) ∧ L ≠ -1 ∧ L * pcT t f ≤ tickT t b h (airT t b h)
  · rw [if_pos z, if_pos ⟨z.1, by omega, by omega⟩]
    omega
  · rw [if_neg z]
    split <;> omega
theorem caught_ga {t : Int → Int} (H : WFt t) {b h f c : Int} (hb : 0 ≤ b ∧ b < 6) (hh : 0 ≤ h ∧ h < 8) (hf : 0 ≤ f ∧ f < 9) (hc : 0 ≤ c ∧ c < 289) : caughtT (soloR t f c) b h = gaT t b h f (far c (cellT t b h (airT t b h))) := by
  have e1 : caughtT (soloR t f c) b h = chS t (updS (fun _ => -1) f c) b h := chS_eq H _ hb hh
  have e2 : chS t (updS (fun _ => -1) f c) b h = if ctS t (updS (fun _ => -1) f c) b h = -1 then 0 else handsT (hdT t) (prT t) (updS (fun _ => -1) f c) (ctS t (updS (fun _ => -1) f c) b h) (cellT t b h (airT t b h)) := rfl
  rw [e1, e2]
  unfold gaT
  by_cases hi : 1 ≤ airT t b h ∧ airT t b h ≤ stepsT t b h
  · have cl := cell_in H hb hh (k := airT t b h) ⟨by omega, hi.2⟩
    have fb := far_bd hc cl
    have e3 : ctS t (updS (fun _ => -1) f c) b h = if far c (cellT t b h (airT t b h)) * pcT t f ≤ tickT t b h (airT t b h) then f else -1 := by
      unfold ctS catcherT
      rw [if_pos hi, solo_soonT hf (by omega)]
    by_cases z : far c (cellT t b h (airT t b h)) * pcT t f ≤ tickT t b h (airT t b h)
    · rw [if_pos z] at e3
      rw [if_neg (by omega), if_pos ⟨hi, by omega, z⟩, e3]
      unfold handsT
      simp only [updS, if_true]
    · rw [if_neg z] at e3
      rw [if_pos e3, if_neg (fun w => z w.2.2)]
  · have e3 : ctS t (updS (fun _ => -1) f c) b h = -1 := by
      unfold ctS catcherT
      rw [if_neg hi]
    rw [if_pos e3, if_neg (fun w => hi w.1)]
theorem gaT_nn (t : Int → Int) (b h f L : Int) : 0 ≤ gaT t b h f L := by
  unfold gaT
  split <;> omega
/-- the reference's search over all CELLS, by the nearest one -/
theorem best_in {t : Int → Int} (H : WFt t) {b h f : Int} (hb : 0 ≤ b ∧ b < 6) (hh : 0 ≤ h ∧ h < 8) (hf : 0 ≤ f ∧ f < 9) {p : Int × Int} (hp : 0 ≤ p.1 ∧ p.2 ≤ unT t b h) : ∀ n : Nat, n ≤ 289 → (bestIn t b h f n p).1 = max p.1 (gaT t b h f (lfN t (cellT t b h (airT t b h)) n)) ∧ (bestIn t b h f n p).2 = min p.2 (fstN (fun k => decide (lfN t (cellT t b h k) n ≠ -1 ∧ lfN t (cellT t b h k) n * pcT t f ≤ tickT t b h k)) (ruT t b h f) (unT t b h) (stepsT t b h - airT t b h).toNat (airT t b h + 1))
  | 0, _ => by
    have e : ∀ (m : Nat) (k : Int), fstN (fun _ => decide ((-1 : Int) ≠ -1 ∧ (-1 : Int) * pcT t f ≤ tickT t b h 0)) (ruT t b h f) (unT t b h) m k = unT t b h := fun m => by
      induction m with
      | zero => intro k; rfl
      | succ m ih => intro k; simp only [fstN]; rw [if_neg (by simp)]; exact ih _
    refine ⟨?_, ?_⟩
    · simp only [bestIn, lfN]
      unfold gaT
      rw [if_neg (fun w => w.2.1 rfl)]
      omega
    · have e2 := fstN_cong (P := fun k => decide (lfN t (cellT t b h k) 0 ≠ -1 ∧ lfN t (cellT t b h k) 0 * pcT t f ≤ tickT t b h k)) (P' := fun _ => decide ((-1 : Int) ≠ -1 ∧ (-1 : Int) * pcT t f ≤ tickT t b h 0)) (r := ruT t b h f) (u := unT t b h) (stepsT t b h - airT t b h).toNat (airT t b h + 1) (fun j _ _ => by simp [lfN])
      rw [e2, e]
      simp only [bestIn]
      omega
  | n + 1, hn => by
    obtain ⟨h1, h2⟩ := best_in H (f := f) hb hh hf hp n (by omega)
    have ha := H.air hb hh
    have st8 := (steps_spec H hb hh).1
    have hr := H.1.2.2.1
    simp only [bestIn]
    by_cases hm : mayT t n
    · rw [if_pos hm]
      refine ⟨?_, ?_⟩
      · show max (bestIn t b h f n p).1 (caughtT (soloR t f n) b h) = _
        rw [h1, caught_ga H hb hh hf ⟨by omega, by omega⟩]
        by_cases hi : 1 ≤ airT t b h ∧ airT t b h ≤ stepsT t b h
        · have cl := cell_in H hb hh (k := airT t b h) ⟨by omega, hi.2⟩
          have fb := far_bd (a := (n : Int)) ⟨by omega, by omega⟩ cl
          have lb := lfN_bd t cl n (by omega)
          simp only [lfN]
          by_cases z : lfN t (cellT t b h (airT t b h)) n = -1
          · rw [if_pos ⟨hm, Or.inl z⟩, z]
            have e0 : gaT t b h f (-1) = 0 := by
              unfold gaT
              rw [if_neg (fun w => w.2.1 rfl)]
            have := gaT_nn t b h f (far n (cellT t b h (airT t b h)))
            rw [e0]
            omega
          · by_cases z2 : far n (cellT t b h (airT t b h)) < lfN t (cellT t b h (airT t b h)) n
            · have g := gaT_mono H (b := b) (h := h) hf (d := far n (cellT t b h (airT t b h))) (L := lfN t (cellT t b h (airT t b h)) n) ⟨by omega, by omega⟩
              rw [if_pos ⟨hm, Or.inr z2⟩]
              omega
            · have g := gaT_mono H (b := b) (h := h) hf (d := lfN t (cellT t b h (airT t b h)) n) (L := far n (cellT t b h (airT t b h))) ⟨by omega, by omega⟩
              rw [if_neg (fun w => w.2.elim z z2)]
              omega
        · have e0 : ∀ L, gaT t b h f L = 0 := fun L => by
            unfold gaT
            rw [if_neg (fun w => hi w.1)]
          rw [e0, e0, e0]
          omega
      · show min (bestIn t b h f n p).2 (noCat (soloR t f n) b h) = _
        rw [h2, noCat_fst H hb hh hf (by omega), Int.min_assoc]
        congr 1
        have mono : ∀ i j : Int, airT t b h + 1 ≤ i → i ≤ j → j < airT t b h + 1 + ((stepsT t b h - airT t b h).toNat : Nat) → ruT t b h f i ≤ ruT t b h f j := fun i j i0 ij j1 => by
          have m := ruT_mono H (f := f) (i := i) hb hh hf (by omega) (j - i).toNat (by omega)
          rw [show i + ((j - i).toNat : Nat) = j by omega] at m
          exact m
        have lu : ∀ j : Int, airT t b h + 1 ≤ j → j < airT t b h + 1 + ((stepsT t b h - airT t b h).toNat : Nat) → ruT t b h f j ≤ unT t b h := fun j _ _ => by
          unfold ruT runsByT unT
          split <;> omega
        rw [fstN_min _ _ mono lu]
        refine fstN_cong _ _ (fun j j0 j1 => ?_)
        have cl := cell_in H hb hh (k := j) ⟨by omega, by omega⟩
        have fb := far_bd (a := (n : Int)) ⟨by omega, by omega⟩ cl
        have lb := lfN_bd t cl n (by omega)
        have fl1 := H.fld hf
        rw [← Bool.decide_or]
        congr 1
        apply propext
        simp only [lfN]
        by_cases z : lfN t (cellT t b h j) n = -1
        · rw [if_pos ⟨hm, Or.inl z⟩]
          constructor
          · intro w
            exact ⟨by omega, w.elim (fun q => absurd z q.1) id⟩
          · intro w
            exact Or.inr w.2
        · by_cases z2 : far n (cellT t b h j) < lfN t (cellT t b h j) n
          · have q1 := Int.mul_le_mul_of_nonneg_right (show far n (cellT t b h j) ≤ lfN t (cellT t b h j) n by omega) (show 0 ≤ pcT t f by omega)
            rw [if_pos ⟨hm, Or.inr z2⟩]
            constructor
            · intro w
              exact ⟨by omega, w.elim (fun q => by omega) id⟩
            · intro w
              exact Or.inr w.2
          · have q1 := Int.mul_le_mul_of_nonneg_right (show lfN t (cellT t b h j) n ≤ far n (cellT t b h j) by omega) (show 0 ≤ pcT t f by omega)
            rw [if_neg (fun w => w.2.elim z z2)]
            constructor
            · intro w
              exact w.elim id (fun q => ⟨z, by omega⟩)
            · intro w
              exact Or.inl w
    · rw [if_neg hm]
      have el : ∀ c : Int, lfN t c (n + 1) = lfN t c n := fun c => by
        simp only [lfN]
        rw [if_neg (fun w => hm w.1)]
      simp only [el]
      exact ⟨h1, h2⟩
end SPC19
