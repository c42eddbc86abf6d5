section SPC26
def popN : Nat → Nat → Nat
  | 0, _ => 0
  | k + 1, s => s % 2 + popN k (s / 2)
def popS (s : Nat) : Nat := popN 9 s
abbrev btS (s i : Nat) : Prop := s / 2 ^ i % 2 = 1
theorem bt_tab : ∀ s : Fin 512, ∀ i : Fin 9, ib 4 (s.val : Int) (ib 6 1 (i.val : Int)) = (if btS s.val i.val then (s.val : Int) else ((s.val + 2 ^ i.val : Nat) : Int)) ∧ ib 3 (ib 7 (s.val : Int) (i.val : Int)) 1 = (if btS s.val i.val then 1 else 0) ∧ ib 3 (s.val : Int) (ib 5 (ib 6 1 (i.val : Int)) (-1)) = (if btS s.val i.val then ((s.val - 2 ^ i.val : Nat) : Int) else (s.val : Int)) ∧ (btS s.val i.val → popS s.val = popS (s.val - 2 ^ i.val) + 1 ∧ 2 ^ i.val ≤ s.val) ∧ (¬ btS s.val i.val → btS (s.val + 2 ^ i.val) i.val ∧ popS (s.val + 2 ^ i.val) = popS s.val + 1) := by decide +kernel
theorem bt_n : ∀ n : Fin 10, ∀ s : Fin 512, s.val < 2 ^ n.val → popS s.val ≤ n.val ∧ (s.val + 1 < 2 ^ n.val → popS s.val < n.val) ∧ ∀ i : Fin 9, i.val < n.val → ¬ btS s.val i.val → s.val + 2 ^ i.val < 2 ^ n.val := by decide +kernel
theorem bt_ex : ∀ s : Fin 512, s.val ≠ 0 → ∃ i : Fin 9, btS s.val i.val := by decide +kernel
theorem bt_sh : ∀ n : Fin 10, ib 6 1 (n.val : Int) = ((2 ^ n.val : Nat) : Int) := by decide +kernel
theorem pow9 {n : Nat} (h : n ≤ 9) : 2 ^ n ≤ 512 := Nat.pow_le_pow_right (by decide) h
/-- the least of x0 and g i over the bits i < n of s that P allows -/
def wmB (x0 : Int) (s : Nat) (P : Nat → Prop) [DecidablePred P] (g : Nat → Int) : Nat → Int
  | 0 => x0
  | i + 1 => if btS s i ∧ P i then min (wmB x0 s P g i) (g i) else wmB x0 s P g i
theorem wmB_cong (x0 : Int) (s : Nat) (P P' : Nat → Prop) [DecidablePred P] [DecidablePred P'] (g : Nat → Int) : ∀ n : Nat, (∀ i, i < n → btS s i → (P i ↔ P' i)) → wmB x0 s P g n = wmB x0 s P' g n
  | 0, _ => rfl
  | n + 1, h => by
    have ih := wmB_cong x0 s P P' g n (fun i i0 => h i (by omega))
    simp only [wmB]
    rw [ih]
    by_cases b : btS s n
    · have q := h n (by omega) b
      by_cases p : P n
      · rw [if_pos ⟨b, p⟩, if_pos ⟨b, q.1 p⟩]
      · rw [if_neg (fun z => p z.2), if_neg (fun z => p (q.2 z.2))]
    · rw [if_neg (fun z => b z.1), if_neg (fun z => b z.1)]
theorem wmB_add (x0 : Int) (s : Nat) (P P' : Nat → Prop) [DecidablePred P] [DecidablePred P'] (g : Nat → Int) {j : Nat} (hj : btS s j) (h0 : ¬ P j) (h1 : P' j) : ∀ n : Nat, (∀ i, i < n → i ≠ j → (P i ↔ P' i)) → wmB x0 s P' g n = if j < n then min (wmB x0 s P g n) (g j) else wmB x0 s P g n
  | 0, _ => by rw [if_neg (by omega)]; rfl
  | n + 1, h => by
    have ih := wmB_add x0 s P P' g hj h0 h1 n (fun i i0 => h i (by omega))
    simp only [wmB]
    rw [ih]
    by_cases e : n = j
    · subst e
      rw [if_pos (And.intro hj h1), if_neg (Nat.lt_irrefl n), if_pos (Nat.lt_succ_self n), if_neg (fun z => h0 z.2)]
    · have q := h n (by omega) e
      by_cases b : btS s n ∧ P n
      · rw [if_pos ⟨b.1, q.1 b.2⟩, if_pos b]
        by_cases l : j < n
        · rw [if_pos l, if_pos (by omega)]
          omega
        · rw [if_neg l, if_neg (by omega)]
      · rw [if_neg (fun z => b ⟨z.1, q.2 z.2⟩), if_neg b]
        by_cases l : j < n
        · rw [if_pos l, if_pos (by omega)]
        · rw [if_neg l, if_neg (by omega)]
theorem wmB_base {x0 x1 : Int} (hx : x1 ≤ x0) (s : Nat) (P : Nat → Prop) [DecidablePred P] (g : Nat → Int) : ∀ n : Nat, wmB x1 s P g n = min x1 (wmB x0 s P g n)
  | 0 => by
    simp only [wmB]
    omega
  | n + 1 => by
    have ih := wmB_base hx s P g n
    simp only [wmB]
    rw [ih]
    split <;> omega
theorem wmB_le (x0 : Int) (s : Nat) (P : Nat → Prop) [DecidablePred P] (g : Nat → Int) {j : Nat} (hj : btS s j ∧ P j) : ∀ n : Nat, j < n → wmB x0 s P g n ≤ g j
  | 0, h => by omega
  | n + 1, h => by
    simp only [wmB]
    by_cases e : n = j
    · subst e
      rw [if_pos hj]
      omega
    · have ih := wmB_le x0 s P g hj n (by omega)
      split <;> omega
theorem wmB_ge {x0 m : Int} (s : Nat) (P : Nat → Prop) [DecidablePred P] (g : Nat → Int) (h0 : m ≤ x0) : ∀ n : Nat, (∀ i, i < n → btS s i → m ≤ g i) → m ≤ wmB x0 s P g n
  | 0, _ => h0
  | n + 1, h => by
    have ih := wmB_ge s P g h0 n (fun i i0 => h i (by omega))
    simp only [wmB]
    split
    · rename_i q
      have := h n (by omega) q.1
      omega
    · exact ih
/-- the least way of the first k of F to the CELLS of the set s of T -/
def wkT (F T : Int → Int) (n : Nat) : Nat → Nat → Int
  | 0, _ => 0
  | k + 1, s => wmB 1000000 s (fun _ => True) (fun i => wkT F T n k (s - 2 ^ i) + far (F k) (T i)) n
theorem wkT_bd {F T : Int → Int} {n : Nat} (hn : n ≤ 9) (hF : ∀ k : Nat, k < n → 0 ≤ F k ∧ F k < 289) (hT : ∀ k : Nat, k < n → 0 ≤ T k ∧ T k < 289) : ∀ (k s : Nat), s < 2 ^ n → popS s = k → 0 ≤ wkT F T n k s ∧ wkT F T n k s ≤ 16 * k
  | 0, s, _, _ => by simp [wkT]
  | k + 1, s, hs, hp => by
    have p9 := pow9 hn
    have s9 : s < 512 := by omega
    have pn := (bt_n ⟨n, by omega⟩ ⟨s, s9⟩ hs).1
    dsimp only at pn
    have hk : k < n := by omega
    have gi : ∀ i, i < n → btS s i → 0 ≤ wkT F T n k (s - 2 ^ i) + far (F k) (T i) ∧ wkT F T n k (s - 2 ^ i) + far (F k) (T i) ≤ 16 * ((k + 1 : Nat) : Int) := fun i i0 b => by
      have tb := (bt_tab ⟨s, s9⟩ ⟨i, by omega⟩).2.2.2.1 b
      dsimp only at tb
      have p2 := Nat.two_pow_pos i
      have ih := wkT_bd hn hF hT k (s - 2 ^ i) (by omega) (by omega)
      have fb := far_bd (hF k hk) (hT i i0)
      omega
    obtain ⟨j, hj⟩ := bt_ex ⟨s, s9⟩ (fun z => by
      have z : s = 0 := z
      rw [z] at hp
      exact absurd hp (by show ¬ (0 = k + 1); omega))
    have jn : j.val < n := by
      have tb := (bt_tab ⟨s, s9⟩ j).2.2.2.1 hj
      dsimp only at tb
      rcases Nat.lt_or_ge j.val n with z | z
      · exact z
      · have := Nat.pow_le_pow_right (show 0 < 2 by decide) z
        omega
    simp only [wkT]
    exact ⟨wmB_ge s _ _ (by omega) n (fun i i0 b => (gi i i0 b).1), Int.le_trans (wmB_le 1000000 s _ _ (j := j.val) ⟨hj, trivial⟩ n jn) (gi j.val jn hj).2⟩
abbrev wkS (F T : Int → Int) (n s : Nat) : Int := wkT F T n (popS s) s
/-- what the class holds of w when the set and the bit stand at (s, to) -/
abbrev cvP (w s to : Nat) : Nat → Prop := fun i => w - 2 ^ i < s ∨ (w - 2 ^ i = s ∧ i < to)
def cvT (F T : Int → Int) (n s to w : Nat) : Int := if w = 0 then 0 else wmB 153 w (cvP w s to) (fun i => wkT F T n (popS w - 1) (w - 2 ^ i) + far (F ((popS w - 1 : Nat) : Int)) (T i)) n
theorem cvT_0 {F T : Int → Int} {n w : Nat} (hw : w < 512) (hn : n ≤ 9) : cvT F T n 0 0 w = if w = 0 then 0 else 153 := by
  unfold cvT
  by_cases z : w = 0
  · rw [if_pos z, if_pos z]
  · rw [if_neg z, if_neg z]
    have : ∀ (g : Nat → Int) (m : Nat), m ≤ 9 → wmB 153 w (cvP w 0 0) g m = 153 := fun g m => by
      induction m with
      | zero => intro _; rfl
      | succ m ih =>
        intro hm
        simp only [wmB]
        rw [if_neg (fun q => by have := q.2; omega)]
        exact ih (by omega)
    exact this _ n hn
theorem cvT_n (F T : Int → Int) (n s w : Nat) : cvT F T n s n w = cvT F T n (s + 1) 0 w := by
  unfold cvT
  by_cases z : w = 0
  · rw [if_pos z, if_pos z]
  · rw [if_neg z, if_neg z]
    exact wmB_cong _ _ _ _ _ n (fun i i0 b => ⟨fun q => Or.inl (by omega), fun q => by omega⟩)
theorem cvT_ne (F T : Int → Int) {n s to w : Nat} (h : ¬ (btS w to ∧ w - 2 ^ to = s)) : cvT F T n s (to + 1) w = cvT F T n s to w := by
  unfold cvT
  by_cases z : w = 0
  · rw [if_pos z, if_pos z]
  · rw [if_neg z, if_neg z]
    refine wmB_cong _ _ _ _ _ n (fun i i0 b => ⟨fun q => ?_, fun q => ?_⟩)
    · rcases q with q | ⟨q, r⟩
      · exact Or.inl q
      · by_cases e : i = to
        · subst e
          exact absurd ⟨b, q⟩ h
        · exact Or.inr ⟨q, by omega⟩
    · rcases q with q | ⟨q, r⟩
      · exact Or.inl q
      · exact Or.inr ⟨q, by omega⟩
theorem cvT_eq (F T : Int → Int) {n s to : Nat} (hs : s < 512) (ht : to < n) (hn : n ≤ 9) (hb : ¬ btS s to) : cvT F T n s (to + 1) (s + 2 ^ to) = min (cvT F T n s to (s + 2 ^ to)) (wkS F T n s + far (F (popS s : Nat)) (T to)) := by
  have tb := (bt_tab ⟨s, hs⟩ ⟨to, by omega⟩).2.2.2.2 hb
  dsimp only at tb
  have w0 : s + 2 ^ to ≠ 0 := by
    have := Nat.two_pow_pos to
    omega
  have e : s + 2 ^ to - 2 ^ to = s := by omega
  unfold cvT
  rw [if_neg w0, if_neg w0, tb.2, show popS s + 1 - 1 = popS s by omega]
  have h := wmB_add 153 (s + 2 ^ to) (cvP (s + 2 ^ to) s to) (cvP (s + 2 ^ to) s (to + 1)) (fun i => wkT F T n (popS s) (s + 2 ^ to - 2 ^ i) + far (F (popS s : Nat)) (T i)) (j := to) tb.1 (fun q => by omega) (Or.inr ⟨e, by omega⟩) n (fun i i0 i1 => ⟨fun q => q.elim Or.inl (fun r => Or.inr ⟨r.1, by omega⟩), fun q => q.elim Or.inl (fun r => Or.inr ⟨r.1, by omega⟩)⟩)
  rw [h, if_pos ht, e]
theorem cvT_W {F T : Int → Int} {n : Nat} (hn : n ≤ 9) (hF : ∀ k : Nat, k < n → 0 ≤ F k ∧ F k < 289) (hT : ∀ k : Nat, k < n → 0 ≤ T k ∧ T k < 289) {s to w : Nat} (hw : w < 2 ^ n) (h : w ≤ s) : cvT F T n s to w = wkS F T n w := by
  unfold cvT wkS
  by_cases z : w = 0
  · rw [if_pos z, z]
    rfl
  · have p9 := pow9 hn
    have w9 : w < 512 := by omega
    rw [if_neg z]
    obtain ⟨j, hj⟩ := bt_ex ⟨w, w9⟩ z
    have tb := (bt_tab ⟨w, w9⟩ j).2.2.2.1 hj
    dsimp only at tb
    have jn : j.val < n := by
      rcases Nat.lt_or_ge j.val n with q | q
      · exact q
      · have := Nat.pow_le_pow_right (show 0 < 2 by decide) q
        omega
    have pn := (bt_n ⟨n, by omega⟩ ⟨w, w9⟩ hw).1
    dsimp only at pn
    obtain ⟨k, hk⟩ : ∃ k, popS w = k + 1 := ⟨_, tb.1⟩
    rw [hk, show k + 1 - 1 = k by omega]
    simp only [wkT]
    have p2 := Nat.two_pow_pos j.val
    have bd := wkT_bd hn hF hT k (w - 2 ^ j.val) (by omega) (by omega)
    have fb := far_bd (hF k (by omega)) (hT j.val jn)
    have c1 := wmB_cong 153 w (cvP w s to) (fun _ => True) (fun i => wkT F T n k (w - 2 ^ i) + far (F k) (T i)) n (fun i i0 b => ⟨fun _ => trivial, fun _ => Or.inl (by
      have := Nat.two_pow_pos i
      omega)⟩)
    rw [c1, wmB_base (x0 := 1000000) (x1 := 153) (by decide)]
    have le := wmB_le 1000000 w (fun _ => True) (fun i => wkT F T n k (w - 2 ^ i) + far (F k) (T i)) (j := j.val) ⟨hj, trivial⟩ n jn
    omega
/-- those who are there, in their order -/
def cntT (s : Int → Int) : Nat → Nat
  | 0 => 0
  | n + 1 => if s n = -1 then cntT s n else cntT s n + 1
def gthT (s : Int → Int) : Nat → Int → Int
  | 0 => fun _ => 0
  | n + 1 => if s n = -1 then gthT s n else updS (gthT s n) (cntT s n) (s n)
theorem cntT_le (s : Int → Int) : ∀ n : Nat, cntT s n ≤ n
  | 0 => Nat.le_refl _
  | n + 1 => by
    have := cntT_le s n
    simp only [cntT]
    split <;> omega
theorem gthT_bd {s : Int → Int} (hs : ∀ f : Int, 0 ≤ f → f < 9 → -1 ≤ s f ∧ s f ≤ 288) : ∀ n : Nat, n ≤ 9 → ∀ k : Nat, k < cntT s n → 0 ≤ gthT s n k ∧ gthT s n k < 289
  | 0, _, k, h => by simp [cntT] at h
  | n + 1, hn, k, h => by
    have ih := gthT_bd hs n (by omega) k
    have b := hs n (by omega) (by omega)
    simp only [cntT] at h
    simp only [gthT]
    by_cases z : s n = -1
    · rw [if_pos z] at h ⊢
      exact ih h
    · rw [if_neg z] at h ⊢
      simp only [updS]
      by_cases e : (k : Int) = (cntT s n : Nat)
      · rw [if_pos e]
        omega
      · rw [if_neg e]
        exact ih (by omega)
end SPC26
