section SPC24
theorem updS_eq (s : Int → Int) (f c : Int) : updS s f c f = c := if_pos rfl
theorem updS_ne (s : Int → Int) {f g : Int} (c : Int) (h : g ≠ f) : updS s f c g = s g := if_neg h
theorem soonU_s (st pc : Int → Int) (c tk but : Int) (n : Nat) : soonU st pc c tk but (n + 1) = if (n : Int) = but ∨ st n = -1 ∨ tk < far (st n) c * pc n then soonU st pc c tk but n else if soonU st pc c tk but n = -1 ∨ far (st n) c * pc n < far (st (soonU st pc c tk but n)) c * pc (soonU st pc c tk but n) then (n : Int) else soonU st pc c tk but n := rfl
theorem soonU_upd {O pc : Int → Int} {f c : Int} (hO : O f = -1) (hc : c ≠ -1) (hf : 0 ≤ f) (d tk but : Int) : ∀ n : Nat, soonU (updS O f c) pc d tk but n = if (f < n ∧ f ≠ but ∧ far c d * pc f ≤ tk) ∧ (soonU O pc d tk but n = -1 ∨ far c d * pc f < far (O (soonU O pc d tk but n)) d * pc (soonU O pc d tk but n) ∨ (far c d * pc f = far (O (soonU O pc d tk but n)) d * pc (soonU O pc d tk but n) ∧ f < soonU O pc d tk but n)) then f else soonU O pc d tk but n
  | 0 => by
    rw [if_neg (by omega)]
    rfl
  | n + 1 => by
    have ih := soonU_upd (pc := pc) hO hc hf d tk but n
    have bd := soonU_bd O pc d tk but n
    rw [soonU_s, soonU_s, ih]
    clear ih
    generalize ho : soonU O pc d tk but n = o at *
    have of : o ≠ -1 → o ≠ f := fun z w => by
      have := (bd.2.2 z).1
      rw [w] at this
      exact this hO
    have eo : o ≠ -1 → updS O f c o = O o := fun z => updS_ne O c (of z)
    by_cases hn : (n : Int) = f
    · have e1 : updS O f c n = c := by rw [hn]; exact updS_eq O f c
      have e2 : O n = -1 := by rw [hn]; exact hO
      rw [if_neg (show ¬ ((f < (n : Int) ∧ f ≠ but ∧ far c d * pc f ≤ tk) ∧ (o = -1 ∨ far c d * pc f < far (O o) d * pc o ∨ (far c d * pc f = far (O o) d * pc o ∧ f < o))) by omega), e1, if_pos (show (n : Int) = but ∨ O n = -1 ∨ tk < far (O n) d * pc n from Or.inr (Or.inl e2)), hn]
      by_cases o1 : o = -1
      · rw [o1]
        repeat' split
        all_goals omega
      · rw [eo o1]
        repeat' split
        all_goals omega
    · rw [updS_ne O c hn]
      by_cases sk : (n : Int) = but ∨ O n = -1 ∨ tk < far (O n) d * pc n
      · rw [if_pos sk, if_pos sk]
        have : (f < (n : Int)) = (f < ((n + 1 : Nat) : Int)) := propext ⟨by omega, by omega⟩
        simp only [this]
      · rw [if_neg sk, if_neg sk]
        by_cases P : (f < (n : Int) ∧ f ≠ but ∧ far c d * pc f ≤ tk) ∧ (o = -1 ∨ far c d * pc f < far (O o) d * pc o ∨ (far c d * pc f = far (O o) d * pc o ∧ f < o))
        · rw [if_pos P, updS_eq]
          by_cases q : o = -1 ∨ far (O n) d * pc n < far (O o) d * pc o
          · rw [if_pos q]
            repeat' split
            all_goals omega
          · rw [if_neg q]
            repeat' split
            all_goals omega
        · rw [if_neg P]
          by_cases o1 : o = -1
          · rw [if_pos (Or.inl o1), if_pos (Or.inl o1), if_neg (by omega)]
          · rw [eo o1]
            by_cases q : o = -1 ∨ far (O n) d * pc n < far (O o) d * pc o
            · rw [if_pos q, if_neg (by omega)]
            · rw [if_neg q, if_neg (by omega)]
theorem soonU_but {O pc : Int → Int} {f : Int} (hO : O f = -1) (d tk : Int) : ∀ n : Nat, soonU O pc d tk f n = soonU O pc d tk (-1) n
  | 0 => rfl
  | n + 1 => by
    have ih := soonU_but (pc := pc) hO d tk n
    simp only [soonU]
    rw [ih]
    have e : ((n : Int) = f ∨ O n = -1 ∨ tk < far (O n) d * pc n) = ((n : Int) = -1 ∨ O n = -1 ∨ tk < far (O n) d * pc n) := propext ⟨fun h => h.elim (fun z => Or.inr (Or.inl (by rw [z]; exact hO))) Or.inr, fun h => h.elim (fun z => absurd z (by omega)) Or.inr⟩
    simp only [e]
/-- FIELDER f at c would come first where the others have o -/
abbrev frst (O pc : Int → Int) (f c d o : Int) : Prop := o = -1 ∨ far c d * pc f < far (O o) d * pc o ∨ (far c d * pc f = far (O o) d * pc o ∧ f < o)
theorem soonT_upd {O pc : Int → Int} {f c : Int} (hO : O f = -1) (hc : c ≠ -1) (hf : 0 ≤ f ∧ f < 9) (d tk : Int) {but : Int} (hb : f ≠ but) : soonT (updS O f c) pc d tk but = if far c d * pc f ≤ tk ∧ frst O pc f c d (soonT O pc d tk but) then f else soonT O pc d tk but := by
  have h := soonU_upd (pc := pc) hO hc hf.1 d tk but 9
  have e : ((f < ((9 : Nat) : Int) ∧ f ≠ but ∧ far c d * pc f ≤ tk)) = (far c d * pc f ≤ tk) := propext ⟨fun z => z.2.2, fun z => ⟨by omega, hb, z⟩⟩
  simp only [e] at h
  exact h
theorem soonT_self {O pc : Int → Int} {f c : Int} (hO : O f = -1) (hc : c ≠ -1) (hf : 0 ≤ f ∧ f < 9) (d tk : Int) : soonT (updS O f c) pc d tk f = soonT O pc d tk (-1) := by
  have h := soonU_upd (pc := pc) hO hc hf.1 d tk f 9
  rw [if_neg (fun z => z.1.2.1 rfl)] at h
  exact h.trans (soonU_but hO d tk 9)
theorem stopGo_self {O pc : Int → Int} {f c : Int} (hO : O f = -1) (hc : c ≠ -1) (hf : 0 ≤ f ∧ f < 9) (cell tick : Int → Int) : ∀ (m : Nat) (k : Int), stopGo (updS O f c) pc cell tick f m k = stopGo O pc cell tick (-1) m k
  | 0, _ => rfl
  | m + 1, k => by
    simp only [stopGo]
    rw [soonT_self hO hc hf, stopGo_self hO hc hf cell tick m (k + 1)]
theorem stopGo_at (st pc cell tick : Int → Int) (but : Int) {j : Int} : ∀ (m : Nat) (k : Int), k ≤ j → j < k + m → (∀ i : Int, k ≤ i → i < j → soonT st pc (cell i) (tick i) but = -1) → soonT st pc (cell j) (tick j) but ≠ -1 → stopGo st pc cell tick but m k = j
  | 0, k, h1, h2, _, _ => by omega
  | m + 1, k, h1, h2, h3, h4 => by
    simp only [stopGo]
    by_cases e : k = j
    · rw [e, if_neg h4]
    · rw [if_pos (h3 k (by omega) (by omega))]
      exact stopGo_at st pc cell tick but m (k + 1) (by omega) (by omega) (fun i i0 i1 => h3 i (by omega) i1) h4
theorem stopGo_none (st pc cell tick : Int → Int) (but : Int) : ∀ (m : Nat) (k : Int), (∀ i : Int, k ≤ i → i < k + m → soonT st pc (cell i) (tick i) but = -1) → stopGo st pc cell tick but m k = -1
  | 0, k, _ => rfl
  | m + 1, k, h => by
    simp only [stopGo]
    rw [if_pos (h k (by omega) (by omega))]
    exact stopGo_none st pc cell tick but m (k + 1) (fun i i0 i1 => h i (by omega) (by omega))
theorem stopGo_pre (st pc cell tick : Int → Int) (but : Int) : ∀ (m : Nat) (k : Int), 0 ≤ k → ∀ i : Int, k ≤ i → i < k + m → (stopGo st pc cell tick but m k = -1 ∨ i < stopGo st pc cell tick but m k) → soonT st pc (cell i) (tick i) but = -1
  | 0, k, _, i, h1, h2, _ => by omega
  | m + 1, k, h0, i, h1, h2, h3 => by
    simp only [stopGo] at h3
    by_cases z : soonT st pc (cell k) (tick k) but = -1
    · rw [if_pos z] at h3
      by_cases e : i = k
      · rw [e]
        exact z
      · exact stopGo_pre st pc cell tick but m (k + 1) (by omega) i (by omega) (by omega) h3
    · rw [if_neg z] at h3
      omega
theorem spS_pre {t s : Int → Int} {b h but : Int} {i : Int} (h0 : 0 ≤ airT t b h) (h1 : airT t b h < i) (h2 : i ≤ stepsT t b h) (h3 : spS t s b h but = -1 ∨ i < spS t s b h but) : soonT s (pcT t) (cellT t b h i) (tickT t b h i) but = -1 := stopGo_pre _ _ _ _ _ _ _ (by omega) i (by omega) (by omega) h3
theorem spS_at {t s : Int → Int} {b h but : Int} {j : Int} (h1 : airT t b h < j) (h2 : j ≤ stepsT t b h) (h3 : ∀ i : Int, airT t b h < i → i < j → soonT s (pcT t) (cellT t b h i) (tickT t b h i) but = -1) (h4 : soonT s (pcT t) (cellT t b h j) (tickT t b h j) but ≠ -1) : spS t s b h but = j := stopGo_at _ _ _ _ _ _ _ (by omega) (by omega) (fun i i0 i1 => h3 i (by omega) i1) h4
theorem spS_none {t s : Int → Int} {b h but : Int} (h3 : ∀ i : Int, airT t b h < i → i ≤ stepsT t b h → soonT s (pcT t) (cellT t b h i) (tickT t b h i) but = -1) : spS t s b h but = -1 := stopGo_none _ _ _ _ _ _ _ (fun i i0 i1 => h3 i (by omega) (by omega))
theorem rnS_none {t s : Int → Int} {b h but : Int} (h3 : spS t s b h but = -1) : rnS t s b h but = if airT t b h > stepsT t b h then 6 else 4 := by
  exact if_pos h3
theorem rnS_at {t s : Int → Int} {b h but j : Int} (h3 : spS t s b h but = j) (h4 : j ≠ -1) : rnS t s b h but = runsByT (amT t) (cellT t b h) (tickT t b h) (t 2) (soonT s (pcT t) (cellT t b h j) (tickT t b h j) but) j := by
  subst h3
  exact if_neg h4
/-- he who catches: the others' or f at c -/
abbrev fCat (t O : Int → Int) (b h f c : Int) : Prop := (1 ≤ airT t b h ∧ airT t b h ≤ stepsT t b h) ∧ far c (cellT t b h (airT t b h)) * pcT t f ≤ tickT t b h (airT t b h) ∧ frst O (pcT t) f c (cellT t b h (airT t b h)) (ctS t O b h)
theorem ctS_upd {t O : Int → Int} {b h f c : Int} (hO : O f = -1) (hc : c ≠ -1) (hf : 0 ≤ f ∧ f < 9) : ctS t (updS O f c) b h = if fCat t O b h f c then f else ctS t O b h := by
  by_cases z : 1 ≤ airT t b h ∧ airT t b h ≤ stepsT t b h
  · have e1 : ctS t (updS O f c) b h = soonT (updS O f c) (pcT t) (cellT t b h (airT t b h)) (tickT t b h (airT t b h)) (-1) := if_pos z
    have e2 : ctS t O b h = soonT O (pcT t) (cellT t b h (airT t b h)) (tickT t b h (airT t b h)) (-1) := if_pos z
    have e3 : fCat t O b h f c = (far c (cellT t b h (airT t b h)) * pcT t f ≤ tickT t b h (airT t b h) ∧ frst O (pcT t) f c (cellT t b h (airT t b h)) (ctS t O b h)) := propext ⟨fun w => w.2, fun w => ⟨z, w⟩⟩
    rw [e1, soonT_upd hO hc hf _ _ (by omega)]
    simp only [e3]
    rw [e2]
  · have e1 : ctS t (updS O f c) b h = -1 := if_neg z
    have e2 : ctS t O b h = -1 := if_neg z
    rw [e1, if_neg (fun w => z w.1), e2]
theorem chS_upd {t O : Int → Int} {b h f c : Int} (hO : O f = -1) (hc : c ≠ -1) (hf : 0 ≤ f ∧ f < 9) : chS t (updS O f c) b h = if fCat t O b h f c then max 0 (hdT t f - prT t f * far c (cellT t b h (airT t b h))) else chS t O b h := by
  have e := ctS_upd (t := t) (b := b) (h := h) hO hc hf
  have d1 : ∀ s, chS t s b h = if ctS t s b h = -1 then 0 else max 0 (hdT t (ctS t s b h) - prT t (ctS t s b h) * far (s (ctS t s b h)) (cellT t b h (airT t b h))) := fun s => rfl
  rw [d1, e]
  by_cases z : fCat t O b h f c
  · rw [if_pos z, if_pos z, if_neg (by omega), updS_eq]
  · rw [if_neg z, if_neg z, d1]
    by_cases w : ctS t O b h = -1
    · rw [if_pos w, if_pos w]
    · rw [if_neg w, if_neg w, updS_ne O c]
      intro q
      have := ((catcherT_bd O (pcT t) (cellT t b h) (tickT t b h) (airT t b h) (stepsT t b h)).2.2 w).2
      exact this ((congrArg O q).trans hO)
theorem rnS_self {t O : Int → Int} {b h f c : Int} (hO : O f = -1) (hc : c ≠ -1) (hf : 0 ≤ f ∧ f < 9) : rnS t (updS O f c) b h f = rnS t O b h (-1) := by
  have e : spS t (updS O f c) b h f = spS t O b h (-1) := stopGo_self hO hc hf _ _ _ _
  by_cases z : spS t O b h (-1) = -1
  · rw [rnS_none (e.trans z), rnS_none z]
  · rw [rnS_at e z, rnS_at rfl z, soonT_self hO hc hf]
theorem coS_upd {t O : Int → Int} {b h f c : Int} (hO : O f = -1) (hc : c ≠ -1) (hf : 0 ≤ f ∧ f < 9) : coS t (updS O f c) b h = if fCat t O b h f c then priceT (t 3) (max 0 (hdT t f - prT t f * far c (cellT t b h (airT t b h)))) (rnS t O b h (-1)) else priceT (t 3) (chS t O b h) (rnS t (updS O f c) b h (ctS t O b h)) := by
  unfold coS
  rw [ctS_upd hO hc hf, chS_upd hO hc hf]
  by_cases z : fCat t O b h f c
  · rw [if_pos z, if_pos z, if_pos z, rnS_self hO hc hf]
  · rw [if_neg z, if_neg z, if_neg z]
-- the law
theorem verdGo_char (e st : Int → Int) : ∀ (m f : Nat), (verdGo e st m f = -1 ↔ ∀ g : Nat, f ≤ g → g < f + m → st g ≠ -1 → reasonU e st g (leftU st (g + 1)) = 0)
  | 0, f => ⟨fun _ g g0 g1 => absurd g0 (by omega), fun _ => rfl⟩
  | m + 1, f => by
    have ih := verdGo_char e st m (f + 1)
    have rb := reasonU_bd e st f (leftU st (f + 1))
    simp only [verdGo]
    by_cases z : st f = -1 ∨ reasonU e st f (leftU st (f + 1)) = 0
    · rw [if_pos z, ih]
      constructor
      · intro h g g0 g1 g2
        by_cases q : g = f
        · subst q
          exact z.elim (fun w => absurd w g2) id
        · exact h g (by omega) (by omega) g2
      · intro h g g0 g1 g2
        exact h g (by omega) (by omega) g2
    · rw [if_neg z]
      constructor
      · intro h
        omega
      · intro h
        exact absurd (h f (by omega) (by omega) (fun w => z (Or.inl w))) (fun w => z (Or.inr w))
theorem dupN_char (st : Int → Int) (c : Int) : ∀ n : Nat, (dupN st c n = true ↔ ∃ g : Nat, g < n ∧ st g = c)
  | 0 => by simp [dupN]
  | n + 1 => by
    have ih := dupN_char st c n
    simp only [dupN, Bool.or_eq_true, decide_eq_true_eq]
    rw [ih]
    constructor
    · rintro (⟨g, g0, g1⟩ | h)
      · exact ⟨g, by omega, g1⟩
      · exact ⟨n, by omega, h⟩
    · rintro ⟨g, g0, g1⟩
      by_cases q : g = n
      · exact Or.inr (q ▸ g1)
      · exact Or.inl ⟨g, by omega, g1⟩
theorem leftU_mono (st : Int → Int) {m : Nat} : ∀ n : Nat, m ≤ n → leftU st m ≤ leftU st n
  | 0, h => by rw [show m = 0 by omega]; exact Int.le_refl _
  | n + 1, h => by
    by_cases q : m = n + 1
    · rw [q]; exact Int.le_refl _
    · have ih := leftU_mono st (m := m) n (by omega)
      simp only [leftU]
      split <;> omega
theorem leftU_le (st : Int → Int) {x : Int} (hx : 0 ≤ x) : ∀ n : Nat, (∀ g : Nat, g < n → st g ≠ -1 → leftU st (g + 1) ≤ x) → leftU st n ≤ x
  | 0, _ => hx
  | n + 1, h => by
    by_cases q : st n = -1
    · have ih := leftU_le st hx n (fun g g0 => h g (by omega))
      simp only [leftU]
      rw [if_neg (fun w => w.1 q)]
      omega
    · exact h n (by omega) q
theorem verd_char (e st : Int → Int) (h4 : 0 ≤ e 4) : verdU e st = -1 ↔ (∀ g : Nat, g < 9 → st g ≠ -1 → mayT e (st g)) ∧ (∀ h g : Nat, h < g → g < 9 → st g ≠ -1 → st h ≠ st g) ∧ leftU st 9 ≤ e 4 := by
  unfold verdU
  rw [verdGo_char]
  have key : ∀ g : Nat, (reasonU e st g (leftU st (g + 1)) = 0 ↔ mayT e (st g) ∧ (∀ h : Nat, h < g → st h ≠ st g) ∧ leftU st (g + 1) ≤ e 4) := fun g => by
    have dc := dupN_char st (st g) g
    unfold reasonU mayT
    rw [show ((g : Int).toNat) = g from rfl]
    by_cases a1 : insT e (st g % 17) (st g / 17)
    · rw [if_neg (fun z => z a1)]
      by_cases a2 : far (st g) 144 < e 5
      · rw [if_pos a2]
        constructor
        · intro w
          omega
        · intro w
          exact absurd a2 w.1.2
      · rw [if_neg a2]
        by_cases a3 : dupN st (st g) g = true
        · rw [if_pos a3]
          constructor
          · intro w
            omega
          · intro w
            obtain ⟨h, h0, h1⟩ := dc.1 a3
            exact absurd h1 (w.2.1 h h0)
        · rw [if_neg a3]
          have nd : ∀ h : Nat, h < g → st h ≠ st g := fun h h0 h1 => a3 (dc.2 ⟨h, h0, h1⟩)
          by_cases a4 : e 4 < leftU st (g + 1)
          · rw [if_pos a4]
            constructor
            · intro w
              omega
            · intro w
              have := w.2.2
              omega
          · rw [if_neg a4]
            exact ⟨fun _ => ⟨⟨a1, a2⟩, nd, by omega⟩, fun _ => rfl⟩
    · rw [if_pos a1]
      constructor
      · intro w
        omega
      · intro w
        exact absurd w.1.1 a1
  constructor
  · intro h
    exact ⟨fun g g0 g1 => ((key g).1 (h g (by omega) (by omega) g1)).1, fun h' g k g0 g1 => ((key g).1 (h g (by omega) (by omega) g1)).2.1 h' k, leftU_le st h4 9 (fun g g0 g1 => ((key g).1 (h g (by omega) (by omega) g1)).2.2)⟩
  · intro h g g0 g1 g2
    have g9 : g < 9 := by omega
    exact (key g).2 ⟨h.1 g g9 g2, fun h' k => h.2.1 h' g k g9 g2, Int.le_trans (leftU_mono st 9 (by omega)) h.2.2⟩
theorem leftU_upd {O : Int → Int} {f c : Int} (hO : O f = -1) (hc : c ≠ -1) (hf : 0 ≤ f) : ∀ n : Nat, leftU (updS O f c) n = leftU O n + if f < n ∧ c % 17 < 8 then 1 else 0
  | 0 => by
    rw [if_neg (by omega)]
    rfl
  | n + 1 => by
    have ih := leftU_upd hO hc hf n
    simp only [leftU]
    rw [ih]
    by_cases q : (n : Int) = f
    · rw [show updS O f c n = c by rw [q]; exact updS_eq O f c, show O n = -1 by rw [q]; exact hO]
      repeat' split
      all_goals omega
    · rw [updS_ne O c q]
      repeat' split
      all_goals omega
theorem law_upd {e O : Int → Int} {f c : Int} (h4 : 0 ≤ e 4) (hO : O f = -1) (hc : 0 ≤ c) (hf : 0 ≤ f ∧ f < 9) : verdU e (updS O f c) = -1 ↔ (verdU e O = -1 ∧ mayT e c ∧ ¬ (c % 17 < 8 ∧ e 4 ≤ leftU O 9) ∧ ∀ g : Int, 0 ≤ g → g < 9 → O g ≠ c) := by
  have hl := leftU_upd hO (show c ≠ -1 by omega) hf.1 9
  have ef : ((f.toNat : Nat) : Int) = f := by omega
  have uf : updS O f c (f.toNat : Nat) = c := by rw [ef]; exact updS_eq O f c
  have un : ∀ g : Nat, (g : Int) ≠ f → updS O f c g = O g := fun g z => updS_ne O c z
  rw [verd_char e _ h4, verd_char e _ h4]
  constructor
  · rintro ⟨h1, h2, h3⟩
    refine ⟨⟨fun g g0 g1 => ?_, fun h g g0 g1 g2 => ?_, ?_⟩, ?_, ?_, fun g g0 g1 g2 => ?_⟩
    · have z : (g : Int) ≠ f := fun w => g1 (by rw [w]; exact hO)
      have := h1 g g0
      rw [un g z] at this
      exact this g1
    · have z : (g : Int) ≠ f := fun w => g2 (by rw [w]; exact hO)
      by_cases y : (h : Int) = f
      · rw [show O h = -1 by rw [y]; exact hO]
        exact fun w => g2 w.symm
      · have := h2 h g g0 g1
        rw [un g z, un h y] at this
        exact this g2
    · rw [hl] at h3
      split at h3 <;> omega
    · have := h1 f.toNat (by omega)
      rw [uf] at this
      exact this (by omega)
    · rintro ⟨z1, z2⟩
      rw [hl, if_pos ⟨by omega, z1⟩] at h3
      omega
    · have eg : ((g.toNat : Nat) : Int) = g := by omega
      have z : g ≠ f := fun w => by rw [w, hO] at g2; omega
      have ug : updS O f c (g.toNat : Nat) = c := by rw [eg, updS_ne O c z, g2]
      by_cases y : g < f
      · have := h2 g.toNat f.toNat (by omega) (by omega)
        rw [uf, ug] at this
        exact this (by omega) rfl
      · have := h2 f.toNat g.toNat (by omega) (by omega)
        rw [uf, ug] at this
        exact this (by omega) rfl
  · rintro ⟨⟨h1, h2, h3⟩, h5, h6, h7⟩
    refine ⟨fun g g0 g1 => ?_, fun h g g0 g1 g2 => ?_, ?_⟩
    · by_cases z : (g : Int) = f
      · rw [z, updS_eq]
        exact h5
      · rw [un g z] at g1 ⊢
        exact h1 g g0 g1
    · by_cases z : (g : Int) = f
      · rw [show updS O f c g = c by rw [z]; exact updS_eq O f c, un h (by omega)]
        exact h7 h (by omega) (by omega)
      · rw [un g z] at g2 ⊢
        by_cases y : (h : Int) = f
        · rw [show updS O f c h = c by rw [y]; exact updS_eq O f c]
          exact fun w => h7 g (by omega) (by omega) w.symm
        · rw [un h y]
          exact h2 h g g0 g1 g2
    · rw [hl]
      split <;> omega
end SPC24
