section SPC28
/-- the last place k of the first m where the order doesn't fall; -1: it falls everywhere -/
def ascT (p : Int → Int) : Nat → Int
  | 0 => -1
  | k + 1 => if p (k + 1) < p k then ascT p k else k
def drpT (p : Int → Int) (v : Int) : Nat → Int
  | 0 => -1
  | j + 1 => if p j < v then drpT p v j else j
def swT (p : Int → Int) (a b : Int) : Int → Int := fun q => if q = b then p a else if q = a then p b else p q
def revT : Nat → Int → Int → (Int → Int) → Int → Int
  | 0, _, _, p => p
  | m + 1, a, b, p => if a < b then revT m (a + 1) (b - 1) (swT p a b) else p
def nxT (n : Nat) (p : Int → Int) : Int → Int := revT 3 (ascT p (n - 1) + 1) (n - 1) (swT p (ascT p (n - 1)) (drpT p (p (ascT p (n - 1))) n))
def lsT (p : Int → Int) : Nat → List Int
  | 0 => []
  | n + 1 => lsT p n ++ [p n]
def gtT (l : List Int) : Int → Int := fun q => l.getD q.toNat 0
def idT (n : Nat) : List Int := lsT (fun q => q) n
def chT (n : Nat) : Nat → List Int → Bool
  | 0, l => l.isPerm (idT n) && decide (ascT (gtT l) (n - 1) = -1)
  | f + 1, l => l.isPerm (idT n) && (decide (ascT (gtT l) (n - 1) = -1) || chT n f (lsT (nxT n (gtT l)) n))
theorem chT_1 : chT 1 719 (idT 1) = true := by decide +kernel
theorem chT_2 : chT 2 719 (idT 2) = true := by decide +kernel
theorem chT_3 : chT 3 719 (idT 3) = true := by decide +kernel
theorem chT_4 : chT 4 719 (idT 4) = true := by decide +kernel
theorem chT_5 : chT 5 719 (idT 5) = true := by decide +kernel
theorem chT_6 : chT 6 719 (idT 6) = true := by decide +kernel
theorem chT_id {n : Nat} (h : 1 ≤ n ∧ n ≤ 6) : chT n 719 (lsT (fun q => q) n) = true := by
  have e : n = 1 ∨ n = 2 ∨ n = 3 ∨ n = 4 ∨ n = 5 ∨ n = 6 := by omega
  rcases e with rfl | rfl | rfl | rfl | rfl | rfl
  · exact chT_1
  · exact chT_2
  · exact chT_3
  · exact chT_4
  · exact chT_5
  · exact chT_6
theorem ascT_bd (p : Int → Int) : ∀ m : Nat, -1 ≤ ascT p m ∧ ascT p m < m
  | 0 => by simp [ascT]
  | m + 1 => by
    have ih := ascT_bd p m
    simp only [ascT]
    split <;> omega
theorem ascT_sp (p : Int → Int) : ∀ m : Nat, ascT p m ≠ -1 → ¬ p (ascT p m + 1) < p (ascT p m)
  | 0, h => absurd rfl h
  | m + 1, h => by
    simp only [ascT] at h ⊢
    by_cases z : p ((m : Int) + 1) < p m
    · rw [if_pos z] at h ⊢
      exact ascT_sp p m h
    · rw [if_neg z]
      exact z
theorem drpT_bd (p : Int → Int) (v : Int) : ∀ m : Nat, -1 ≤ drpT p v m ∧ drpT p v m < m
  | 0 => by simp [drpT]
  | m + 1 => by
    have ih := drpT_bd p v m
    simp only [drpT]
    split <;> omega
theorem drpT_ge (p : Int → Int) (v : Int) {j : Nat} (hv : ¬ p j < v) : ∀ m : Nat, j < m → (j : Int) ≤ drpT p v m
  | 0, h => by omega
  | m + 1, h => by
    simp only [drpT]
    by_cases z : p m < v
    · rw [if_pos z]
      by_cases e : j = m
      · subst e
        exact absurd z hv
      · exact drpT_ge p v hv m (by omega)
    · rw [if_neg z]
      omega
theorem ascT_cong {p p' : Int → Int} : ∀ m : Nat, (∀ q : Int, 0 ≤ q → q ≤ m → p q = p' q) → ascT p m = ascT p' m
  | 0, _ => rfl
  | m + 1, h => by
    simp only [ascT]
    rw [h m (by omega) (by omega), h ((m : Int) + 1) (by omega) (by omega), ascT_cong m (fun q q0 q1 => h q q0 (by omega))]
theorem drpT_cong {p p' : Int → Int} (v : Int) : ∀ m : Nat, (∀ q : Int, 0 ≤ q → q < m → p q = p' q) → drpT p v m = drpT p' v m
  | 0, _ => rfl
  | m + 1, h => by
    simp only [drpT]
    rw [h m (by omega) (by omega), drpT_cong v m (fun q q0 q1 => h q q0 (by omega))]
theorem swT_cong {p p' : Int → Int} {n : Int} (h : ∀ q : Int, 0 ≤ q → q < n → p q = p' q) {a b : Int} (ha : 0 ≤ a ∧ a < n) (hb : 0 ≤ b ∧ b < n) : ∀ q : Int, 0 ≤ q → q < n → swT p a b q = swT p' a b q := fun q q0 q1 => by
  simp only [swT]
  rw [h a ha.1 ha.2, h b hb.1 hb.2, h q q0 q1]
theorem revT_cong {n : Int} : ∀ (m : Nat) (a b : Int) {p p' : Int → Int}, (∀ q : Int, 0 ≤ q → q < n → p q = p' q) → 0 ≤ a → b < n → ∀ q : Int, 0 ≤ q → q < n → revT m a b p q = revT m a b p' q
  | 0, _, _, _, _, h, _, _, q, q0, q1 => h q q0 q1
  | m + 1, a, b, p, p', h, ha, hb, q, q0, q1 => by
    simp only [revT]
    split
    · exact revT_cong m (a + 1) (b - 1) (swT_cong h ⟨ha, by omega⟩ ⟨by omega, hb⟩) (by omega) (by omega) q q0 q1
    · exact h q q0 q1
/-- where the order goes on -/
theorem nx_bd {n : Nat} {p : Int → Int} (hz : ascT p (n - 1) ≠ -1) : 0 ≤ ascT p (n - 1) ∧ ascT p (n - 1) + 1 ≤ drpT p (p (ascT p (n - 1))) n ∧ drpT p (p (ascT p (n - 1))) n < n := by
  have b := ascT_bd p (n - 1)
  have s := ascT_sp p (n - 1) hz
  have d := drpT_bd p (p (ascT p (n - 1))) n
  have e : ascT p (n - 1) + 1 = (((ascT p (n - 1) + 1).toNat : Nat) : Int) := by omega
  rw [e] at s
  have g := drpT_ge p (p (ascT p (n - 1))) s n (by omega)
  exact ⟨by omega, by omega, d.2⟩
theorem nxT_cong {n : Nat} {p p' : Int → Int} (h : ∀ q : Int, 0 ≤ q → q < n → p q = p' q) (hz : ascT p (n - 1) ≠ -1) : ∀ q : Int, 0 ≤ q → q < n → nxT n p q = nxT n p' q := by
  have nb := nx_bd hz
  have ea : ascT p (n - 1) = ascT p' (n - 1) := ascT_cong _ (fun q q0 q1 => h q q0 (by omega))
  unfold nxT
  rw [← ea]
  have ep : p (ascT p (n - 1)) = p' (ascT p (n - 1)) := h _ (by omega) (by omega)
  rw [← ep, ← drpT_cong (p := p) (p' := p') _ n h]
  exact revT_cong 3 _ _ (swT_cong h ⟨by omega, by omega⟩ ⟨by omega, by omega⟩) (by omega) (by omega)
theorem lsT_cong {p p' : Int → Int} : ∀ n : Nat, (∀ q : Int, 0 ≤ q → q < n → p q = p' q) → lsT p n = lsT p' n
  | 0, _ => rfl
  | n + 1, h => by
    simp only [lsT]
    rw [lsT_cong n (fun q q0 q1 => h q q0 (by omega)), h n (by omega) (by omega)]
theorem lsT_len (p : Int → Int) : ∀ n : Nat, (lsT p n).length = n
  | 0 => rfl
  | n + 1 => by
    simp only [lsT, List.length_append, lsT_len p n]
    rfl
theorem lsT_get (p : Int → Int) : ∀ (n k : Nat), k < n → (lsT p n).getD k 0 = p k
  | 0, k, h => by omega
  | n + 1, k, h => by
    simp only [lsT]
    by_cases e : k = n
    · subst e
      rw [List.getD_eq_getElem?_getD, List.getElem?_append_right (by rw [lsT_len]; exact Nat.le_refl _), lsT_len]
      simp
    · have ih := lsT_get p n k (by omega)
      rw [List.getD_eq_getElem?_getD] at ih ⊢
      rw [List.getElem?_append_left (by rw [lsT_len]; omega)]
      exact ih
theorem gt_ls (p : Int → Int) (n : Nat) : ∀ q : Int, 0 ≤ q → q < n → gtT (lsT p n) q = p q := fun q q0 q1 => by
  unfold gtT
  rw [lsT_get p n q.toNat (by omega)]
  congr 1
  omega
theorem lsT_mem (p : Int → Int) : ∀ (n : Nat) (x : Int), x ∈ lsT p n ↔ ∃ k : Nat, k < n ∧ p k = x
  | 0, x => by simp [lsT]
  | n + 1, x => by
    have ih := lsT_mem p n x
    simp only [lsT, List.mem_append, List.mem_singleton]
    rw [ih]
    constructor
    · rintro (⟨k, k0, k1⟩ | h)
      · exact ⟨k, by omega, k1⟩
      · exact ⟨n, by omega, h.symm⟩
    · rintro ⟨k, k0, k1⟩
      by_cases e : k = n
      · subst e
        exact Or.inr k1.symm
      · exact Or.inl ⟨k, by omega, k1⟩
/-- p orders 0 .. n - 1, and f goings on at the most are left -/
def okP (n f : Nat) (p : Int → Int) : Prop := chT n f (lsT p n) = true
theorem okP_id {n : Nat} (h : 1 ≤ n ∧ n ≤ 6) {p : Int → Int} (hp : ∀ q : Int, 0 ≤ q → q < n → p q = q) : okP n 719 p := by
  unfold okP
  rw [lsT_cong (p' := fun q => q) n hp]
  exact chT_id h
theorem okP.perm {n f : Nat} {p : Int → Int} (h : okP n f p) : (lsT p n).Perm (idT n) := by
  unfold okP at h
  cases f with
  | zero =>
    simp only [chT, Bool.and_eq_true] at h
    exact List.isPerm_iff.1 h.1
  | succ f =>
    simp only [chT, Bool.and_eq_true] at h
    exact List.isPerm_iff.1 h.1
theorem okP.next {n f : Nat} {p : Int → Int} (h : okP n f p) (hz : ascT p (n - 1) ≠ -1) : ∃ f', f = f' + 1 ∧ okP n f' (nxT n p) := by
  unfold okP at h
  have hn : 1 ≤ n := by
    rcases Nat.lt_or_ge n 1 with z | z
    · have : n = 0 := by omega
      subst this
      exact absurd rfl hz
    · exact z
  have g := gt_ls p n
  have ea : ascT (gtT (lsT p n)) (n - 1) = ascT p (n - 1) := ascT_cong _ (fun q q0 q1 => g q q0 (by omega))
  cases f with
  | zero =>
    simp only [chT, Bool.and_eq_true, decide_eq_true_eq] at h
    exact absurd (ea.symm.trans h.2) hz
  | succ f =>
    simp only [chT, Bool.and_eq_true, Bool.or_eq_true, decide_eq_true_eq] at h
    refine ⟨f, rfl, ?_⟩
    rcases h.2 with w | w
    · exact absurd (ea.symm.trans w) hz
    · unfold okP
      rw [lsT_cong n (nxT_cong (p := gtT (lsT p n)) (p' := p) g (by rw [ea]; exact hz))] at w
      exact w
theorem okP.rg {n f : Nat} {p : Int → Int} (h : okP n f p) {q : Int} (q0 : 0 ≤ q) (q1 : q < n) : 0 ≤ p q ∧ p q < n := by
  have m : p q ∈ lsT p n := (lsT_mem p n _).2 ⟨q.toNat, by omega, by congr 1; omega⟩
  obtain ⟨k, k0, k1⟩ := (lsT_mem _ n _).1 (h.perm.mem_iff.1 m)
  omega
theorem okP.sur {n f : Nat} {p : Int → Int} (h : okP n f p) {q : Int} (q0 : 0 ≤ q) (q1 : q < n) : ∃ k : Nat, k < n ∧ p k = q := by
  have m : q ∈ idT n := (lsT_mem _ n _).2 ⟨q.toNat, by omega, by omega⟩
  exact (lsT_mem _ n _).1 (h.perm.mem_iff.2 m)
theorem lsT_nodup {p : Int → Int} : ∀ n : Nat, (lsT p n).Nodup → ∀ i j : Nat, i < j → j < n → p i ≠ p j
  | 0, _, _, _, _, h => by omega
  | n + 1, h, i, j, h1, h2 => by
    simp only [lsT, List.nodup_append] at h
    by_cases e : j = n
    · subst e
      exact h.2.2 _ ((lsT_mem p j _).2 ⟨i, h1, rfl⟩) _ (List.mem_singleton.2 rfl)
    · exact lsT_nodup n h.1 i j h1 (by omega)
theorem idT_nodup : ∀ n : Nat, (idT n).Nodup
  | 0 => List.nodup_nil
  | n + 1 => by
    have ih := idT_nodup n
    show (lsT (fun q => q) n ++ [(n : Int)]).Nodup
    refine List.nodup_append.2 ⟨ih, by simp, fun a ha b hb => ?_⟩
    obtain ⟨k, k0, k1⟩ := (lsT_mem _ n _).1 ha
    have := List.mem_singleton.1 hb
    omega
theorem okP.inj {n f : Nat} {p : Int → Int} (h : okP n f p) {i j : Nat} (h1 : i < j) (h2 : j < n) : p i ≠ p j := lsT_nodup n (h.perm.nodup_iff.2 (idT_nodup n)) i j h1 h2
/-- the STANDS once the first n take the CELLS c in the order p -/
def seatS (s c p : Int → Int) (n : Nat) : Int → Int := fun f => if f < n then c (p f) else s f
abbrev lfT (x : Int) : Bool := decide (x ≠ -1 ∧ x % 17 < 8)
theorem leftU_seat (s c p : Int → Int) (n : Nat) : ∀ m : Nat, m ≤ n → leftU (seatS s c p n) m = ((lsT p m).countP (fun q => lfT (c q)) : Nat)
  | 0, _ => rfl
  | m + 1, h => by
    have ih := leftU_seat s c p n m (by omega)
    have e : seatS s c p n m = c (p m) := if_pos (by omega)
    simp only [leftU, lsT]
    rw [ih, e, List.countP_append, List.countP_singleton]
    by_cases z : c (p m) ≠ -1 ∧ c (p m) % 17 < 8
    · rw [if_pos z, if_pos (by simpa [lfT] using z)]
      omega
    · rw [if_neg z, if_neg (by simpa [lfT] using z)]
      omega
theorem leftU_off {A B : Int → Int} {n : Nat} (h : ∀ g : Nat, n ≤ g → A g = B g) (e : leftU A n = leftU B n) : ∀ m : Nat, leftU A (n + m) = leftU B (n + m)
  | 0 => e
  | m + 1 => by
    have ih := leftU_off h e m
    show leftU A (n + m + 1) = leftU B (n + m + 1)
    simp only [leftU]
    rw [ih, h (n + m) (by omega)]
theorem leftU_perm {n f : Nat} (hn : n ≤ 6) {p : Int → Int} (h : okP n f p) (s c : Int → Int) : leftU (seatS s c p n) 9 = leftU (seatS s c (fun q => q) n) 9 := by
  have e : leftU (seatS s c p n) n = leftU (seatS s c (fun q => q) n) n := by
    rw [leftU_seat s c p n n (Nat.le_refl _), leftU_seat s c (fun q => q) n n (Nat.le_refl _)]
    exact congrArg _ (h.perm.countP_eq _)
  have o := leftU_off (A := seatS s c p n) (B := seatS s c (fun q => q) n) (n := n) (fun g g0 => by unfold seatS; rw [if_neg (by omega), if_neg (by omega)]) e (9 - n)
  rw [show n + (9 - n) = 9 by omega] at o
  exact o
theorem verd_seat {e : Int → Int} (h4 : 0 ≤ e 4) {n f : Nat} (hn : n ≤ 6) {p : Int → Int} (h : okP n f p) (s : Int → Int) {c : Int → Int} (hc : ∀ q : Int, 0 ≤ q → q < n → 0 ≤ c q) : verdU e (seatS s c p n) = -1 ↔ verdU e (seatS s c (fun q => q) n) = -1 := by
  have lt : ∀ (p' : Int → Int) (g : Nat), g < n → seatS s c p' n g = c (p' g) := fun p' g g0 => if_pos (by omega)
  have ge : ∀ (p' : Int → Int) (g : Nat), n ≤ g → seatS s c p' n g = s g := fun p' g g0 => if_neg (by omega)
  rw [verd_char e _ h4, verd_char e _ h4, leftU_perm hn h s c]
  constructor
  · rintro ⟨h1, h2, h3⟩
    refine ⟨fun g g0 g1 => ?_, fun a g a0 g0 g1 => ?_, h3⟩
    · rcases Nat.lt_or_ge g n with z | z
      · obtain ⟨k, k0, k1⟩ := h.sur (q := g) (by omega) (by omega)
        have := h1 k (by omega)
        rw [lt _ k k0, k1] at this
        rw [lt _ g z] at g1 ⊢
        exact this g1
      · have := h1 g g0
        rw [ge _ g z] at this g1 ⊢
        exact this g1
    · rcases Nat.lt_or_ge g n with z | z
      · obtain ⟨k, k0, k1⟩ := h.sur (q := g) (by omega) (by omega)
        obtain ⟨j, j0, j1⟩ := h.sur (q := a) (by omega) (by omega)
        rw [lt _ g z, lt _ a (by omega)]
        have cg := hc g (by omega) (by omega)
        have ca := hc a (by omega) (by omega)
        rcases Nat.lt_or_ge j k with y | y
        · have := h2 j k y (by omega)
          rw [lt _ k k0, lt _ j j0, k1, j1] at this
          exact this (by omega)
        · have jk : k < j := by
            rcases Nat.lt_or_ge k j with w | w
            · exact w
            · have : j = k := by omega
              subst this
              omega
          have := h2 k j jk (by omega)
          rw [lt _ k k0, lt _ j j0, k1, j1] at this
          exact fun w => this (by omega) w.symm
      · have gz : seatS s c (fun q => q) n g = s g := ge _ g z
        rw [gz] at g1 ⊢
        rcases Nat.lt_or_ge a n with y | y
        · obtain ⟨j, j0, j1⟩ := h.sur (q := a) (by omega) (by omega)
          have := h2 j g (by omega) g0
          rw [ge _ g z, lt _ j j0, j1] at this
          rw [lt _ a y]
          exact this g1
        · have := h2 a g a0 g0
          rw [ge _ g z, ge _ a y] at this
          rw [ge _ a y]
          exact this g1
  · rintro ⟨h1, h2, h3⟩
    have rg : ∀ g : Nat, g < n → ∃ k : Nat, k < n ∧ p g = k := fun g g0 => by
      have := h.rg (q := g) (by omega) (by omega)
      exact ⟨(p g).toNat, by omega, by omega⟩
    refine ⟨fun g g0 g1 => ?_, fun a g a0 g0 g1 => ?_, h3⟩
    · rcases Nat.lt_or_ge g n with z | z
      · obtain ⟨k, k0, k1⟩ := rg g z
        have := h1 k (by omega)
        rw [lt _ k k0] at this
        rw [lt _ g z, k1] at g1 ⊢
        exact this g1
      · have := h1 g g0
        rw [ge _ g z] at this g1 ⊢
        exact this g1
    · rcases Nat.lt_or_ge g n with z | z
      · obtain ⟨k, k0, k1⟩ := rg g z
        obtain ⟨j, j0, j1⟩ := rg a (by omega)
        have ij := h.inj a0 z
        rw [lt _ g z, lt _ a (by omega), k1, j1]
        have ck := hc k (by omega) (by omega)
        have cj := hc j (by omega) (by omega)
        rcases Nat.lt_or_ge j k with y | y
        · have := h2 j k y (by omega)
          rw [lt _ k k0, lt _ j j0] at this
          exact this (by omega)
        · have := h2 k j (by omega) (by omega)
          rw [lt _ k k0, lt _ j j0] at this
          exact fun w => this (by omega) w.symm
      · rw [ge _ g z] at g1 ⊢
        rcases Nat.lt_or_ge a n with y | y
        · obtain ⟨j, j0, j1⟩ := rg a y
          have := h2 j g (by omega) g0
          rw [ge _ g z, lt _ j j0] at this
          rw [lt _ a y, j1]
          exact this g1
        · have := h2 a g a0 g0
          rw [ge _ g z, ge _ a y] at this
          rw [ge _ a y]
          exact this g1
end SPC28
