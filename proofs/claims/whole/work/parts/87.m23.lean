section SPM23
def VT (t s c : Int → Int) (b : Int) (n : Nat) (p : Int → Int) : Int := meanT (stR t (seatS s c p n)) b
/-- the best order's place i: f orders are left behind p, l is the least so far and x what stood there -/
def bstT (n : Nat) (V : (Int → Int) → Int) (i : Int) : Nat → (Int → Int) → Int → Int → Int
  | 0, _, _, x => x
  | f + 1, p, l, x => if ascT p (n - 1) = -1 then x else if V (nxT n p) < l then bstT n V i f (nxT n p) (V (nxT n p)) (nxT n p i) else bstT n V i f (nxT n p) l x
abbrev lawM (t c : Int → Int) (n : Nat) : Prop := judgeT (stR t (seatS (stT t) c (fun q => q) n)) = -1
def matT (t c : Int → Int) (b : Int) (n : Nat) (i : Int) : Int := if lawM t c n then bstT n (VT t (stT t) c b n) i 719 (fun q => q) (VT t (stT t) c b n (fun q => q)) i else -1
def matchT (t c : Int → Int) (b : Int) (n : Nat) (i : Int) : Int := if 0 < t (13 + b) then matT t c b n i else -1
theorem bst_end {n : Nat} {V : (Int → Int) → Int} {i : Int} {p : Int → Int} (h : ascT p (n - 1) = -1) (l x : Int) : ∀ f : Nat, bstT n V i f p l x = x
  | 0 => rfl
  | f + 1 => if_pos h
theorem bst_next {n : Nat} {V : (Int → Int) → Int} {i : Int} {p : Int → Int} {f : Nat} (h : okP n f p) (hz : ascT p (n - 1) ≠ -1) (l x : Int) : ∃ f', f = f' + 1 ∧ okP n f' (nxT n p) ∧ bstT n V i f p l x = if V (nxT n p) < l then bstT n V i f' (nxT n p) (V (nxT n p)) (nxT n p i) else bstT n V i f' (nxT n p) l x := by
  obtain ⟨f', rfl, h2⟩ := h.next hz
  exact ⟨f', rfl, h2, if_neg hz⟩
theorem bst_cong {n : Nat} {V : (Int → Int) → Int} {i : Int} (hV : ∀ p p' : Int → Int, (∀ q : Int, 0 ≤ q → q < n → p q = p' q) → V p = V p') (hi : 0 ≤ i ∧ i < n) : ∀ (f : Nat) (p p' : Int → Int) (l x : Int), (∀ q : Int, 0 ≤ q → q < n → p q = p' q) → bstT n V i f p l x = bstT n V i f p' l x
  | 0, _, _, _, _, _ => rfl
  | f + 1, p, p', l, x, h => by
    have ea : ascT p (n - 1) = ascT p' (n - 1) := ascT_cong _ (fun q q0 q1 => h q q0 (by omega))
    simp only [bstT]
    rw [← ea]
    by_cases hz : ascT p (n - 1) = -1
    · rw [if_pos hz, if_pos hz]
    · have hn := nxT_cong h hz
      rw [if_neg hz, if_neg hz, hV _ _ hn, hn i hi.1 hi.2]
      by_cases y : V (nxT n p') < l
      · rw [if_pos y, if_pos y]
        exact bst_cong hV hi f _ _ _ _ hn
      · rw [if_neg y, if_neg y]
        exact bst_cong hV hi f _ _ _ _ hn
theorem seat_cong {t s c : Int → Int} {n : Nat} {p p' : Int → Int} (h : ∀ q : Int, 0 ≤ q → q < n → p q = p' q) : stR t (seatS s c p n) = stR t (seatS s c p' n) := stR_cong t (fun f f0 f1 => by
  simp only [seatS]
  by_cases z : f < n
  · rw [if_pos z, if_pos z, h f f0 z]
  · rw [if_neg z, if_neg z])
theorem VT_cong (t s c : Int → Int) (b : Int) (n : Nat) : ∀ p p' : Int → Int, (∀ q : Int, 0 ≤ q → q < n → p q = p' q) → VT t s c b n p = VT t s c b n p' := fun p p' h => by
  unfold VT
  rw [seat_cong h]
theorem law_seat {t : Int → Int} (H : WFt t) {n f : Nat} (hn : n ≤ 6) {p : Int → Int} (h : okP n f p) {c : Int → Int} (hc : ∀ q : Int, 0 ≤ q → q < n → 0 ≤ c q) : judgeT (stR t (seatS (stT t) c p n)) = -1 ↔ lawM t c n := by
  have h4 := H.1.2.2.2.2.1
  unfold lawM
  rw [← verd_eq H (e := t) (fun k _ _ => rfl), ← verd_eq H (e := t) (fun k _ _ => rfl)]
  exact verd_seat h4.1 hn h (stT t) hc
theorem seat_B {t c p : Int → Int} (H : WFt t) {n f : Nat} (hn : n ≤ 6) (h : okP n f p) (hc : ∀ q : Int, 0 ≤ q → q < n → 0 ≤ c q ∧ c q ≤ 288) : stB (seatS (stT t) c p n) := fun f f0 f1 => by
  simp only [seatS]
  by_cases z : f < n
  · rw [if_pos z]
    have r := h.rg f0 z
    have := hc _ r.1 r.2
    omega
  · rw [if_neg z]
    exact H.st f f0 f1
/-- before the order p is looked at -/
def mOE (t c : Int → Int) (b : Int) (n : Nat) (i fd l : Int) (p bo : Int → Int) (f : Nat) : Prop := okP n f p ∧ (fd = 0 ∨ fd = 1) ∧ (lawM t c n → matT t c b n i = if fd = 0 ∨ VT t (stT t) c b n p < l then bstT n (VT t (stT t) c b n) i f p (VT t (stT t) c b n p) (p i) else bstT n (VT t (stT t) c b n) i f p l (bo i)) ∧ (¬ lawM t c n → fd = 0)
/-- behind it -/
def mOX (t c : Int → Int) (b : Int) (n : Nat) (i fd l : Int) (p bo : Int → Int) (f : Nat) : Prop := okP n f p ∧ (lawM t c n → matT t c b n i = bstT n (VT t (stT t) c b n) i f p l (bo i) ∧ fd = 1) ∧ (¬ lawM t c n → fd = 0)
theorem mOE_new {t c : Int → Int} {b : Int} {n : Nat} {i fd l : Int} {p bo : Int → Int} {f : Nat} (h : mOE t c b n i fd l p bo f) (hL : lawM t c n) (hq : fd = 0 ∨ VT t (stT t) c b n p < l) {bo' : Int → Int} (hb : bo' i = p i) : mOX t c b n i 1 (VT t (stT t) c b n p) p bo' f := by
  obtain ⟨h1, h2, h3, h4⟩ := h
  have h3 := h3 hL
  rw [if_pos hq, ← hb] at h3
  exact ⟨h1, fun _ => ⟨h3, rfl⟩, fun w => absurd hL w⟩
theorem mOE_old {t c : Int → Int} {b : Int} {n : Nat} {i fd l : Int} {p bo : Int → Int} {f : Nat} (h : mOE t c b n i fd l p bo f) (hq : lawM t c n → ¬ (fd = 0 ∨ VT t (stT t) c b n p < l)) : mOX t c b n i fd l p bo f := by
  obtain ⟨h1, h2, h3, h4⟩ := h
  refine ⟨h1, fun hL => ?_, h4⟩
  have h3 := h3 hL
  rw [if_neg (hq hL)] at h3
  exact ⟨h3, h2.resolve_left (fun w => hq hL (Or.inl w))⟩
theorem mOX_end {t c : Int → Int} {b : Int} {n : Nat} {i fd l : Int} {p bo : Int → Int} {f : Nat} (h : mOX t c b n i fd l p bo f) (hz : ascT p (n - 1) = -1) : (lawM t c n → matT t c b n i = bo i ∧ fd = 1) ∧ (¬ lawM t c n → fd = 0) := by
  obtain ⟨h1, h2, h3⟩ := h
  refine ⟨fun hL => ?_, h3⟩
  have h2 := h2 hL
  rw [bst_end hz] at h2
  exact h2
theorem mOX_next {t c : Int → Int} {b : Int} {n : Nat} {i fd l : Int} {p bo : Int → Int} {f : Nat} (h : mOX t c b n i fd l p bo f) (hz : ascT p (n - 1) ≠ -1) : ∃ f', f = f' + 1 ∧ mOE t c b n i fd l (nxT n p) bo f' := by
  obtain ⟨h1, h2, h3⟩ := h
  obtain ⟨f', e1, e2, e3⟩ := bst_next (V := VT t (stT t) c b n) (i := i) h1 hz l (bo i)
  refine ⟨f', e1, e2, ?_, fun hL => ?_, h3⟩
  · by_cases hL : lawM t c n
    · exact Or.inr (h2 hL).2
    · exact Or.inl (h3 hL)
  · obtain ⟨y1, y2⟩ := h2 hL
    rw [y1, e3]
    by_cases y : VT t (stT t) c b n (nxT n p) < l
    · rw [if_pos y, if_pos (Or.inr y)]
    · rw [if_neg y, if_neg (fun w => w.elim (by omega) y)]
theorem mOE_0 {t c : Int → Int} {b : Int} {n : Nat} {i : Int} {p bo : Int → Int} (hn : 1 ≤ n ∧ n ≤ 6) (hi : 0 ≤ i ∧ i < n) (hp : ∀ q : Int, 0 ≤ q → q < n → p q = q) (l : Int) : mOE t c b n i 0 l p bo 719 := by
  refine ⟨okP_id hn hp, Or.inl rfl, fun hL => ?_, fun _ => rfl⟩
  rw [if_pos (Or.inl rfl), show matT t c b n i = _ from if_pos hL, hp i hi.1 hi.2, VT_cong t (stT t) c b n p (fun q => q) hp]
  exact (bst_cong (VT_cong t (stT t) c b n) hi 719 _ _ _ _ hp).symm
/-- the memory between the orders: who stands where in the row -/
def mtS (I1 I : mM) (s : Int → Int) (N : Nat) : Prop := (∀ i, i ≠ 201 → i ≠ 208 → i ≠ 214 → i ≠ 215 → I1 i = I i) ∧ I1 201 = stR (I 201) s ∧ (∀ g : Int, 0 ≤ g → g < 9 → I1 208 g = stT (I 201) g) ∧ stB s ∧ (∀ g : Int, N ≤ g → g < 9 → s g = stT (I 201) g)
theorem mtS.set {I1 I : mM} {s : Int → Int} {N : Nat} (h : mtS I1 I s N) {A : Nat} (hA : A = 214 ∨ A = 215) (p v : Int) : mtS (mSet I1 A p v) I s N := by
  obtain ⟨h1, h2, h3, h4, h5⟩ := h
  refine ⟨fun i i0 i1 i2 i3 => by rw [set_ne (by omega)]; exact h1 i i0 i1 i2 i3, by rw [set_ne (by omega)]; exact h2, fun g g0 g1 => by rw [set_ne (by omega)]; exact h3 g g0 g1, h4, h5⟩
theorem mtS.putA {I1 I : mM} {s : Int → Int} {N : Nat} (h : mtS I1 I s N) (p : Int → Int) : mtS (putA I1 214 p) I s N := by
  obtain ⟨h1, h2, h3, h4, h5⟩ := h
  refine ⟨fun i i0 i1 i2 i3 => by rw [putA_ne _ _ (by omega)]; exact h1 i i0 i1 i2 i3, by rw [putA_ne _ _ (by decide)]; exact h2, fun g g0 g1 => by rw [putA_ne _ _ (by decide)]; exact h3 g g0 g1, h4, h5⟩
theorem mtS.puts {I1 I : mM} {s : Int → Int} {N : Nat} (h : mtS I1 I s N) {f c : Int} (hf : 0 ≤ f ∧ f < N) (hN : N ≤ 9) (hc : 0 ≤ c ∧ c ≤ 288) : mtS (mSet I1 201 (550 + 5 * f) c) I (updS s f c) N := by
  obtain ⟨h1, h2, h3, h4, h5⟩ := h
  refine ⟨fun i i0 i1 i2 i3 => by rw [set_ne i0]; exact h1 i i0 i1 i2 i3, ?_, fun g g0 g1 => by rw [set_ne (by decide)]; exact h3 g g0 g1, fun g g0 g1 => ?_, fun g g0 g1 => ?_⟩
  · rw [set_put, h2, putT_stR _ _ _ ⟨hf.1, by omega⟩]
  · have := h4 g g0 g1
    simp only [updS]
    split <;> omega
  · rw [updS_ne _ _ (by omega)]
    exact h5 g g0 g1
theorem mtS.back {I1 I : mM} {s : Int → Int} {N : Nat} (h : mtS I1 I s N) : standsM I1 (I1 208) 9 201 = I 201 := by
  obtain ⟨h1, h2, h3, h4, h5⟩ := h
  rw [standsM_201, h2, stR_stR, stR_cong _ h3, stR_self]
def g37 (I : mM) (b base j : Int) (N n : Nat) (fd l mo : Int) (I1 : mM) : Prop := ∃ n', n' < n ∧ ∃ (fd_1 l_1 : Int), (fd_1 = 0 ∨ fd_1 = 1) ∧ mrl l_1 ∧ ((∃ (f : Nat) (s : Int → Int), [some (mR (some 200)), some (mI b), some (mI base), some (mI N), some (mI j), some (mI fd), some (mL l), none, some (mI mo), none, none, none] = [some (mR (some 200)), some (mI b), some (mI base), some (mI N), some (mI j), some (mI fd_1), some (mL l_1), none, some (mI 1), none, none, none] ∧ n' = 40 * f + 30 ∧ mtS I1 I s N ∧ mOE (I 201) (fun q => I 218 (base + q)) b N j fd_1 l_1 (I1 214) (I1 215) f) ∨ (∃ s : Int → Int, [some (mR (some 200)), some (mI b), some (mI base), some (mI N), some (mI j), some (mI fd), some (mL l), none, some (mI mo), none, none, none] = [some (mR (some 200)), some (mI b), some (mI base), some (mI N), some (mI j), some (mI fd_1), some (mL l_1), none, some (mI 0), none, none, none] ∧ n' = 0 ∧ mtS I1 I s N ∧ (lawM (I 201) (fun q => I 218 (base + q)) N → matT (I 201) (fun q => I 218 (base + q)) b N j = I1 215 j ∧ fd_1 = 1) ∧ (¬ lawM (I 201) (fun q => I 218 (base + q)) N → fd_1 = 0)))
theorem g37_go {I I1 : mM} {b base j : Int} {N n : Nat} {fd l : Int} {s : Int → Int} {f : Nat} (hS : mtS I1 I s N) (hX : mOX (I 201) (fun q => I 218 (base + q)) b N j fd l (I1 214) (I1 215) f) (hm : 40 * f < n) (hfd : fd = 0 ∨ fd = 1) (hl : mrl l) : (ascT (I1 214) (N - 1) = -1 → g37 I b base j N n fd l 0 I1) ∧ (ascT (I1 214) (N - 1) ≠ -1 → g37 I b base j N n fd l 1 (putA I1 214 (nxT N (I1 214)))) := by
  constructor
  · intro hz
    obtain ⟨y1, y2⟩ := mOX_end hX hz
    exact ⟨0, by omega, fd, l, hfd, hl, Or.inr ⟨s, rfl, rfl, hS, y1, y2⟩⟩
  · intro hz
    obtain ⟨f', rfl, hE⟩ := mOX_next hX hz
    exact ⟨40 * f' + 30, by omega, fd, l, hfd, hl, Or.inl ⟨f', s, rfl, rfl, hS.putA _, by rw [putA_eq, putA_ne _ _ (by decide)]; exact hE⟩⟩
def spX11_matched : mSp := shRIIII (fun _ i b base n j I Q => i = some 200 ∧ WFt (I 201) ∧ (0 ≤ b ∧ b < 6) ∧ ∃ N : Nat, n = N ∧ (1 ≤ N ∧ N ≤ 6) ∧ (0 ≤ j ∧ j < N) ∧ (0 ≤ base ∧ base + 40 ≤ 160) ∧ (∀ q : Int, 0 ≤ q → q < N → 0 ≤ I 218 (base + q) ∧ I 218 (base + q) ≤ 288) ∧ ∀ I' : mM, (∀ i, i ≠ 208 → i ≠ 214 → i ≠ 215 → I' i = I i) → Q (.inl (some (mI (matchT (I 201) (fun q => I 218 (base + q)) b N j)))) I')
def SX11_matched : Nat → mSp := fun a => match a with
  | 0 => spX11_putsBy
  | 1 => spX11_puts
  | 2 => spX11_isLawful
  | 3 => spX11_meanOf
  | 4 => spX11_goesOn
  | 5 => spX11_givesBack
  | _ => fun _ _ _ _ => False
theorem SX11_matched_0 : SX11_matched 0 = spX11_putsBy := Eq.trans rfl rfl
theorem SX11_matched_1 : SX11_matched 1 = spX11_puts := Eq.trans rfl rfl
theorem SX11_matched_2 : SX11_matched 2 = spX11_isLawful := Eq.trans rfl rfl
theorem SX11_matched_3 : SX11_matched 3 = spX11_meanOf := Eq.trans rfl rfl
theorem SX11_matched_4 : SX11_matched 4 = spX11_goesOn := Eq.trans rfl rfl
theorem SX11_matched_5 : SX11_matched 5 = spX11_givesBack := Eq.trans rfl rfl
theorem cutsX11_matched {t : Nat} {bs : List Bool} (h : cutX11_matched t = some bs) : (t = 7 ∧ bs = [true, true, true, true, true, true, false, false, false, false, false, false]) ∨ (t = 37 ∧ bs = [true, true, true, true, true, true, true, false, true, false, false, false]) ∨ (t = 45 ∧ bs = [true, true, true, true, true, true, true, false, false, true, false, false]) ∨ (t = 115 ∧ bs = [true, true, true, true, true, true, true, false, false, false, false, true]) := by
  unfold cutX11_matched at h
  simp only [mLk] at h
  by_cases h0 : 7 = t
  · subst h0
    simp at h
    exact Or.inl ⟨rfl, h.symm⟩
  rw [if_neg h0] at h
  by_cases h1 : 37 = t
  · subst h1
    simp at h
    exact Or.inr (Or.inl ⟨rfl, h.symm⟩)
  rw [if_neg h1] at h
  by_cases h2 : 45 = t
  · subst h2
    simp at h
    exact Or.inr (Or.inr (Or.inl ⟨rfl, h.symm⟩))
  rw [if_neg h2] at h
  by_cases h3 : 115 = t
  · subst h3
    simp at h
    exact Or.inr (Or.inr (Or.inr (⟨rfl, h.symm⟩)))
  rw [if_neg h3] at h
  cases h
set_option maxRecDepth 100000 in
set_option maxHeartbeats 1000000 in
theorem vcX11_matched (fl : Nat → Bool) (avs : List mV) (I : mM) (Q : mO → mM → Prop) (hsp : spX11_matched fl avs I Q) : mVC SX11_matched fl Q kX11_matched cutX11_matched 12 avs I := by
  obtain ⟨i, b, base, n_, j, rfl, h0⟩ := shRIIII_inv hsp
  obtain ⟨rfl, H, hb, N, rfl, hN, hj, hbase, hcc, h⟩ := h0
  have hn := H.2.1 b hb.1 hb.2
  refine ⟨rfl, (fun m pc lv st I1 => st = [] ∧ (if pc = 7 then ∃ k : Nat, lv = [some (mR (some 200)), some (mI b), some (mI base), some (mI N), some (mI j), some (mI k), none, none, none, none, none, none] ∧ k ≤ N ∧ m = 40 * 719 + 100 - k ∧ mtS I1 I (stT (I 201)) N ∧ (∀ q : Int, 0 ≤ q → q < k → I1 214 q = q) else if pc = 37 then ∃ (fd l : Int), (fd = 0 ∨ fd = 1) ∧ mrl l ∧ ((∃ (f : Nat) (s : Int → Int), lv = [some (mR (some 200)), some (mI b), some (mI base), some (mI N), some (mI j), some (mI fd), some (mL l), none, some (mI 1), none, none, none] ∧ m = 40 * f + 30 ∧ mtS I1 I s N ∧ mOE (I 201) (fun q => I 218 (base + q)) b N j fd l (I1 214) (I1 215) f) ∨ (∃ s : Int → Int, lv = [some (mR (some 200)), some (mI b), some (mI base), some (mI N), some (mI j), some (mI fd), some (mL l), none, some (mI 0), none, none, none] ∧ m = 0 ∧ mtS I1 I s N ∧ (lawM (I 201) (fun q => I 218 (base + q)) N → matT (I 201) (fun q => I 218 (base + q)) b N j = I1 215 j ∧ fd = 1) ∧ (¬ lawM (I 201) (fun q => I 218 (base + q)) N → fd = 0))) else if pc = 45 then ∃ (fd l : Int) (f k : Nat) (s : Int → Int), (fd = 0 ∨ fd = 1) ∧ mrl l ∧ lv = [some (mR (some 200)), some (mI b), some (mI base), some (mI N), some (mI j), some (mI fd), some (mL l), none, none, some (mI k), none, none] ∧ k ≤ N ∧ m = 40 * f + 29 - k ∧ mtS I1 I s N ∧ (∀ g : Int, 0 ≤ g → g < k → s g = I 218 (base + I1 214 g)) ∧ mOE (I 201) (fun q => I 218 (base + q)) b N j fd l (I1 214) (I1 215) f else ∃ (l : Int) (f k : Nat) (s : Int → Int), mrl l ∧ lv = [some (mR (some 200)), some (mI b), some (mI base), some (mI N), some (mI j), some (mI 1), some (mL l), none, none, none, none, some (mI k)] ∧ k ≤ N ∧ m = 40 * f + 20 - k ∧ mtS I1 I s N ∧ (∀ g : Int, 0 ≤ g → g < k → I1 215 g = I1 214 g) ∧ (∀ bo : Int → Int, bo j = I1 214 j → mOX (I 201) (fun q => I 218 (base + q)) b N j 1 l (I1 214) bo f))), ?_, ?_⟩
  · intro n t bs hbs lv st I1 hc
    rcases cutsX11_matched hbs with ⟨rfl, rfl⟩ | ⟨rfl, rfl⟩ | ⟨rfl, rfl⟩ | ⟨rfl, rfl⟩
    · skip
      rw [sfxX11_matched_7]
      obtain ⟨rfl, k, rfl, hk, hm, hS, hO⟩ := hc
      clear h
      rcases Nat.lt_or_ge k N with z | z
      · have key : ∃ n', n' < n ∧ ∃ k_1 : Nat, [some (mR (some 200)), some (mI b), some (mI base), some (mI N), some (mI j), some (mI ((k : Int) + 1)), none, none, none, none, none, none] = [some (mR (some 200)), some (mI b), some (mI base), some (mI N), some (mI j), some (mI k_1), none, none, none, none, none, none] ∧ k_1 ≤ N ∧ n' = 40 * 719 + 100 - k_1 ∧ mtS (mSet I1 214 k k) I (stT (I 201)) N ∧ (∀ q : Int, 0 ≤ q → q < k_1 → (if q = k then (k : Int) else I1 214 q) = q) := by
          refine ⟨40 * 719 + 100 - (k + 1), by omega, k + 1, rfl, by omega, rfl, hS.set (Or.inl rfl) _ _, fun q q0 q1 => ?_⟩
          by_cases e : q = k
          · rw [if_pos e, e]
          · rw [if_neg e]
            exact hO q q0 (by omega)
        simp only [false_and, and_false, true_or, or_true, false_or, or_false, true_and, and_true, true_implies, false_implies, implies_true, not_true_eq_false, not_false_eq_true, and_self, List.length_cons, List.length_nil, mNoCut_, mCat_n, mCat_I, mCat_L, mCat_R, mIsL_n, mIsL_I, mIsL_R, mIsL_L, Nat.reduceAdd, Nat.reduceSub, Nat.reduceLeDiff, Nat.reduceLT, Nat.reduceEqDiff, Nat.zero_le, Int.reduceEq, Int.reduceLT, Int.reduceLE, Int.reduceNeg, Int.reduceAdd, if_true, if_false, reduceIte, reduceCtorEq, Bool.false_eq_true, ne_eq, qCmp_0, qCmp_1, qCmp_2, qCmp_3, qCmp_4, qCmp_5, ib_0, ib_1, ib_2, lb_0, lb_1, lb_2, dv_0, dv_1, wq_ic, wq_lc, wq_ld_i, wq_ld_l, wq_ld_a, wq_st_i, wq_st_l, wq_iinc, wq_ib, wq_l2i, wq_icmp, wq_if, wq_lcmp, wq_goto, wq_get, mGet_0, mGet_1, mGet_2, mGet_3, wq_ald, wq_astI, wq_astL, wq_ret0, wq_ret1, wq_ret2, wq_ret3, wq_ret4, ldR0, wq_callV1_0, mrg_0_, stI5, ldI5, ldI3, fk_11_30, wqinc5, stL6, mrg_1_, stI8, ldI8, stI9, ldI9, fk_11_35, ldI2, wq_callV3_0, wqinc9, ldI1, wq_callV2_0, stL9, ldL9, ldL6, stI11, ldI11, fk_11_31, wqinc11, fk_11_0, mrg_13_, ldI4, mrg_m1_, mPut_s, mPut_I0, mPut_R0, mPut_L0, mPut_I1, mPut_R1, mPut_L1, mGo_n, sfxX11_matched_7, cutX11_matched_7, sfxX11_matched_28, cutX11_matched_28, sfxX11_matched_37, cutX11_matched_37, sfxX11_matched_45, cutX11_matched_45, sfxX11_matched_78, cutX11_matched_78, sfxX11_matched_105, cutX11_matched_105, sfxX11_matched_115, cutX11_matched_115, sfxX11_matched_141, cutX11_matched_141, sfxX11_matched_151, cutX11_matched_151, sfxX11_matched_182, cutX11_matched_182, sfxX11_matched_183, cutX11_matched_183, wq_cut, mGo_c, mMask_t, mMask_f, mMask_n, kX11_matched_183, kX11_matched_182, kX11_matched_151, kX11_matched_141, kX11_matched_115, kX11_matched_105, kX11_matched_78, kX11_matched_45, kX11_matched_37, kX11_matched_28, kX11_matched_7, kX11_matched_0, sk_200, al_200, rf_200_30, sk_214, al_214, sn_214, rf_200_35, sk_218, al_218, sn_218, rf_200_31, sk_215, al_215, sn_215, rf_200_0, sk_201, al_201, sn_201, ald_n, ro0_n, al_ro, SX11_matched_0, SX11_matched_1, SX11_matched_2, SX11_matched_3, SX11_matched_4, SX11_matched_5, shqR_, shqRII_, shqRI_, spX11_putsBy, spX11_puts, spX11_isLawful, spX11_meanOf, spX11_goesOn, spX11_givesBack, mrg, mrl, mSet_ap, ncast, Option.some.injEq]
        (try simp only [mrg, mrl] at *) <;> repeat' (first | (with_reducible assumption) | (with_reducible apply And.intro) | intro _)
        all_goals first | omega | exact key | skip
      · have e : k = N := by omega
        subst e
        simp only [false_and, and_false, true_or, or_true, false_or, or_false, true_and, and_true, true_implies, false_implies, implies_true, not_true_eq_false, not_false_eq_true, and_self, List.length_cons, List.length_nil, mNoCut_, mCat_n, mCat_I, mCat_L, mCat_R, mIsL_n, mIsL_I, mIsL_R, mIsL_L, Nat.reduceAdd, Nat.reduceSub, Nat.reduceLeDiff, Nat.reduceLT, Nat.reduceEqDiff, Nat.zero_le, Int.reduceEq, Int.reduceLT, Int.reduceLE, Int.reduceNeg, Int.reduceAdd, if_true, if_false, reduceIte, reduceCtorEq, Bool.false_eq_true, ne_eq, qCmp_0, qCmp_1, qCmp_2, qCmp_3, qCmp_4, qCmp_5, ib_0, ib_1, ib_2, lb_0, lb_1, lb_2, dv_0, dv_1, wq_ic, wq_lc, wq_ld_i, wq_ld_l, wq_ld_a, wq_st_i, wq_st_l, wq_iinc, wq_ib, wq_l2i, wq_icmp, wq_if, wq_lcmp, wq_goto, wq_get, mGet_0, mGet_1, mGet_2, mGet_3, wq_ald, wq_astI, wq_astL, wq_ret0, wq_ret1, wq_ret2, wq_ret3, wq_ret4, ldR0, wq_callV1_0, mrg_0_, stI5, ldI5, ldI3, fk_11_30, wqinc5, stL6, mrg_1_, stI8, ldI8, stI9, ldI9, fk_11_35, ldI2, wq_callV3_0, wqinc9, ldI1, wq_callV2_0, stL9, ldL9, ldL6, stI11, ldI11, fk_11_31, wqinc11, fk_11_0, mrg_13_, ldI4, mrg_m1_, mPut_s, mPut_I0, mPut_R0, mPut_L0, mPut_I1, mPut_R1, mPut_L1, mGo_n, sfxX11_matched_7, cutX11_matched_7, sfxX11_matched_28, cutX11_matched_28, sfxX11_matched_37, cutX11_matched_37, sfxX11_matched_45, cutX11_matched_45, sfxX11_matched_78, cutX11_matched_78, sfxX11_matched_105, cutX11_matched_105, sfxX11_matched_115, cutX11_matched_115, sfxX11_matched_141, cutX11_matched_141, sfxX11_matched_151, cutX11_matched_151, sfxX11_matched_182, cutX11_matched_182, sfxX11_matched_183, cutX11_matched_183, wq_cut, mGo_c, mMask_t, mMask_f, mMask_n, kX11_matched_183, kX11_matched_182, kX11_matched_151, kX11_matched_141, kX11_matched_115, kX11_matched_105, kX11_matched_78, kX11_matched_45, kX11_matched_37, kX11_matched_28, kX11_matched_7, kX11_matched_0, sk_200, al_200, rf_200_30, sk_214, al_214, sn_214, rf_200_35, sk_218, al_218, sn_218, rf_200_31, sk_215, al_215, sn_215, rf_200_0, sk_201, al_201, sn_201, ald_n, ro0_n, al_ro, SX11_matched_0, SX11_matched_1, SX11_matched_2, SX11_matched_3, SX11_matched_4, SX11_matched_5, shqR_, shqRII_, shqRI_, spX11_putsBy, spX11_puts, spX11_isLawful, spX11_meanOf, spX11_goesOn, spX11_givesBack, mrg, mrl, mSet_ap, ncast, Option.some.injEq]
        (try simp only [mrg, mrl] at *) <;> repeat' (first | (with_reducible assumption) | (with_reducible apply And.intro) | intro _)
        all_goals first | omega | exact ⟨40 * 719 + 30, by omega, 0, 0, Or.inl rfl, ⟨by decide, by decide⟩, Or.inl ⟨719, _, rfl, rfl, hS, mOE_0 hN hj hO 0⟩⟩ | skip
    · skip
      rw [sfxX11_matched_37]
      obtain ⟨rfl, fd, l, hfd, hl, hc⟩ := hc
      rcases hc with ⟨f, s, rfl, hm, hS, hE⟩ | ⟨s, rfl, hm, hS, hE1, hE2⟩
      · clear h
        simp only [false_and, and_false, true_or, or_true, false_or, or_false, true_and, and_true, true_implies, false_implies, implies_true, not_true_eq_false, not_false_eq_true, and_self, List.length_cons, List.length_nil, mNoCut_, mCat_n, mCat_I, mCat_L, mCat_R, mIsL_n, mIsL_I, mIsL_R, mIsL_L, Nat.reduceAdd, Nat.reduceSub, Nat.reduceLeDiff, Nat.reduceLT, Nat.reduceEqDiff, Nat.zero_le, Int.reduceEq, Int.reduceLT, Int.reduceLE, Int.reduceNeg, Int.reduceAdd, if_true, if_false, reduceIte, reduceCtorEq, Bool.false_eq_true, ne_eq, qCmp_0, qCmp_1, qCmp_2, qCmp_3, qCmp_4, qCmp_5, ib_0, ib_1, ib_2, lb_0, lb_1, lb_2, dv_0, dv_1, wq_ic, wq_lc, wq_ld_i, wq_ld_l, wq_ld_a, wq_st_i, wq_st_l, wq_iinc, wq_ib, wq_l2i, wq_icmp, wq_if, wq_lcmp, wq_goto, wq_get, mGet_0, mGet_1, mGet_2, mGet_3, wq_ald, wq_astI, wq_astL, wq_ret0, wq_ret1, wq_ret2, wq_ret3, wq_ret4, ldR0, wq_callV1_0, mrg_0_, stI5, ldI5, ldI3, fk_11_30, wqinc5, stL6, mrg_1_, stI8, ldI8, stI9, ldI9, fk_11_35, ldI2, wq_callV3_0, wqinc9, ldI1, wq_callV2_0, stL9, ldL9, ldL6, stI11, ldI11, fk_11_31, wqinc11, fk_11_0, mrg_13_, ldI4, mrg_m1_, mPut_s, mPut_I0, mPut_R0, mPut_L0, mPut_I1, mPut_R1, mPut_L1, mGo_n, sfxX11_matched_7, cutX11_matched_7, sfxX11_matched_28, cutX11_matched_28, sfxX11_matched_37, cutX11_matched_37, sfxX11_matched_45, cutX11_matched_45, sfxX11_matched_78, cutX11_matched_78, sfxX11_matched_105, cutX11_matched_105, sfxX11_matched_115, cutX11_matched_115, sfxX11_matched_141, cutX11_matched_141, sfxX11_matched_151, cutX11_matched_151, sfxX11_matched_182, cutX11_matched_182, sfxX11_matched_183, cutX11_matched_183, wq_cut, mGo_c, mMask_t, mMask_f, mMask_n, kX11_matched_183, kX11_matched_182, kX11_matched_151, kX11_matched_141, kX11_matched_115, kX11_matched_105, kX11_matched_78, kX11_matched_45, kX11_matched_37, kX11_matched_28, kX11_matched_7, kX11_matched_0, sk_200, al_200, rf_200_30, sk_214, al_214, sn_214, rf_200_35, sk_218, al_218, sn_218, rf_200_31, sk_215, al_215, sn_215, rf_200_0, sk_201, al_201, sn_201, ald_n, ro0_n, al_ro, SX11_matched_0, SX11_matched_1, SX11_matched_2, SX11_matched_3, SX11_matched_4, SX11_matched_5, shqR_, shqRII_, shqRI_, spX11_putsBy, spX11_puts, spX11_isLawful, spX11_meanOf, spX11_goesOn, spX11_givesBack, mrg, mrl, mSet_ap, ncast, Option.some.injEq]
        (try simp only [mrg, mrl] at *) <;> repeat' (first | (with_reducible assumption) | (with_reducible apply And.intro) | intro _)
        all_goals first | omega | exact ⟨40 * f + 29 - 0, by omega, fd, l, f, 0, s, hfd, hl, rfl, by omega, rfl, hS, fun g g0 g1 => absurd g1 (by show ¬ g < ((0 : Nat) : Int); omega), hE⟩ | skip
      · have hbk := hS.back
        have h := h (standsM I1 (I1 208) 9) (fun i i0 i1 i2 => by
          by_cases e : i = 201
          · rw [e]
            exact hbk
          · rw [standsM_ne _ _ e]
            exact hS.1 i e i0 i1 i2)
        have n215 : standsM I1 (I1 208) 9 215 = I1 215 := standsM_ne _ _ (by decide)
        have hR1 : ∀ _ : Unit, fd ≠ 0 → 0 < I 201 (13 + b) → Q (.inl (some (mI (I1 215 j)))) (standsM I1 (I1 208) 9) := fun _ y1 y2 => by
          by_cases hL : lawM (I 201) (fun q => I 218 (base + q)) N
          · rw [show matchT (I 201) (fun q => I 218 (base + q)) b N j = _ from if_pos y2, (hE1 hL).1] at h
            exact h
          · exact absurd (hE2 hL) y1
        have hR2 : ∀ _ : Unit, (fd = 0 ∨ ¬ 0 < I 201 (13 + b)) → Q (.inl (some (mI (-1)))) (standsM I1 (I1 208) 9) := fun _ y => by
          have e : matchT (I 201) (fun q => I 218 (base + q)) b N j = -1 := by
            unfold matchT
            by_cases y2 : 0 < I 201 (13 + b)
            · rw [if_pos y2]
              refine if_neg (fun hL => ?_)
              have := (hE1 hL).2
              omega
            · rw [if_neg y2]
          rw [e] at h
          exact h
        clear h hE1 hE2
        simp only [false_and, and_false, true_or, or_true, false_or, or_false, true_and, and_true, true_implies, false_implies, implies_true, not_true_eq_false, not_false_eq_true, and_self, List.length_cons, List.length_nil, mNoCut_, mCat_n, mCat_I, mCat_L, mCat_R, mIsL_n, mIsL_I, mIsL_R, mIsL_L, Nat.reduceAdd, Nat.reduceSub, Nat.reduceLeDiff, Nat.reduceLT, Nat.reduceEqDiff, Nat.zero_le, Int.reduceEq, Int.reduceLT, Int.reduceLE, Int.reduceNeg, Int.reduceAdd, if_true, if_false, reduceIte, reduceCtorEq, Bool.false_eq_true, ne_eq, qCmp_0, qCmp_1, qCmp_2, qCmp_3, qCmp_4, qCmp_5, ib_0, ib_1, ib_2, lb_0, lb_1, lb_2, dv_0, dv_1, wq_ic, wq_lc, wq_ld_i, wq_ld_l, wq_ld_a, wq_st_i, wq_st_l, wq_iinc, wq_ib, wq_l2i, wq_icmp, wq_if, wq_lcmp, wq_goto, wq_get, mGet_0, mGet_1, mGet_2, mGet_3, wq_ald, wq_astI, wq_astL, wq_ret0, wq_ret1, wq_ret2, wq_ret3, wq_ret4, ldR0, wq_callV1_0, mrg_0_, stI5, ldI5, ldI3, fk_11_30, wqinc5, stL6, mrg_1_, stI8, ldI8, stI9, ldI9, fk_11_35, ldI2, wq_callV3_0, wqinc9, ldI1, wq_callV2_0, stL9, ldL9, ldL6, stI11, ldI11, fk_11_31, wqinc11, fk_11_0, mrg_13_, ldI4, mrg_m1_, mPut_s, mPut_I0, mPut_R0, mPut_L0, mPut_I1, mPut_R1, mPut_L1, mGo_n, sfxX11_matched_7, cutX11_matched_7, sfxX11_matched_28, cutX11_matched_28, sfxX11_matched_37, cutX11_matched_37, sfxX11_matched_45, cutX11_matched_45, sfxX11_matched_78, cutX11_matched_78, sfxX11_matched_105, cutX11_matched_105, sfxX11_matched_115, cutX11_matched_115, sfxX11_matched_141, cutX11_matched_141, sfxX11_matched_151, cutX11_matched_151, sfxX11_matched_182, cutX11_matched_182, sfxX11_matched_183, cutX11_matched_183, wq_cut, mGo_c, mMask_t, mMask_f, mMask_n, kX11_matched_183, kX11_matched_182, kX11_matched_151, kX11_matched_141, kX11_matched_115, kX11_matched_105, kX11_matched_78, kX11_matched_45, kX11_matched_37, kX11_matched_28, kX11_matched_7, kX11_matched_0, sk_200, al_200, rf_200_30, sk_214, al_214, sn_214, rf_200_35, sk_218, al_218, sn_218, rf_200_31, sk_215, al_215, sn_215, rf_200_0, sk_201, al_201, sn_201, ald_n, ro0_n, al_ro, SX11_matched_0, SX11_matched_1, SX11_matched_2, SX11_matched_3, SX11_matched_4, SX11_matched_5, shqR_, shqRII_, shqRI_, spX11_putsBy, spX11_puts, spX11_isLawful, spX11_meanOf, spX11_goesOn, spX11_givesBack, mrg, mrl, mSet_ap, ncast, Option.some.injEq, hbk, n215]
        (try simp only [mrg, mrl] at *) <;> repeat' (first | (with_reducible assumption) | (with_reducible apply And.intro) | intro _)
        all_goals first | omega | exact hR1 () (by omega) (by omega) | exact hR2 () (by omega) | skip
    · skip
      rw [sfxX11_matched_45]
      obtain ⟨rfl, fd, l, f, k, s, hfd, hl, rfl, hk, hm, hS, hs, hE⟩ := hc
      clear h
      have e218 := hS.1 218 (by decide) (by decide) (by decide) (by decide)
      rcases Nat.lt_or_ge k N with z | z
      · have pk := hE.1.rg (q := k) (by omega) (by omega)
        have cv := hcc (I1 214 k) pk.1 pk.2
        have key : ∃ n', n' < n ∧ ∃ (fd_1 l_1 : Int) (f_1 k_1 : Nat) (s : Int → Int), (fd_1 = 0 ∨ fd_1 = 1) ∧ mrl l_1 ∧ [some (mR (some 200)), some (mI b), some (mI base), some (mI N), some (mI j), some (mI fd), some (mL l), none, none, some (mI ((k : Int) + 1)), none, none] = [some (mR (some 200)), some (mI b), some (mI base), some (mI N), some (mI j), some (mI fd_1), some (mL l_1), none, none, some (mI k_1), none, none] ∧ k_1 ≤ N ∧ n' = 40 * f_1 + 29 - k_1 ∧ mtS (mSet I1 201 (550 + 5 * k) (I 218 (base + I1 214 k))) I s N ∧ (∀ g : Int, 0 ≤ g → g < k_1 → s g = I 218 (base + I1 214 g)) ∧ mOE (I 201) (fun q => I 218 (base + q)) b N j fd_1 l_1 (I1 214) (I1 215) f_1 := by
          refine ⟨40 * f + 29 - (k + 1), by omega, fd, l, f, k + 1, _, hfd, hl, rfl, by omega, rfl, hS.puts ⟨by omega, by omega⟩ (by omega) cv, fun g g0 g1 => ?_, hE⟩
          by_cases e : g = k
          · rw [e, updS_eq]
          · rw [updS_ne _ _ e]
            exact hs g g0 (by omega)
        simp only [false_and, and_false, true_or, or_true, false_or, or_false, true_and, and_true, true_implies, false_implies, implies_true, not_true_eq_false, not_false_eq_true, and_self, List.length_cons, List.length_nil, mNoCut_, mCat_n, mCat_I, mCat_L, mCat_R, mIsL_n, mIsL_I, mIsL_R, mIsL_L, Nat.reduceAdd, Nat.reduceSub, Nat.reduceLeDiff, Nat.reduceLT, Nat.reduceEqDiff, Nat.zero_le, Int.reduceEq, Int.reduceLT, Int.reduceLE, Int.reduceNeg, Int.reduceAdd, if_true, if_false, reduceIte, reduceCtorEq, Bool.false_eq_true, ne_eq, qCmp_0, qCmp_1, qCmp_2, qCmp_3, qCmp_4, qCmp_5, ib_0, ib_1, ib_2, lb_0, lb_1, lb_2, dv_0, dv_1, wq_ic, wq_lc, wq_ld_i, wq_ld_l, wq_ld_a, wq_st_i, wq_st_l, wq_iinc, wq_ib, wq_l2i, wq_icmp, wq_if, wq_lcmp, wq_goto, wq_get, mGet_0, mGet_1, mGet_2, mGet_3, wq_ald, wq_astI, wq_astL, wq_ret0, wq_ret1, wq_ret2, wq_ret3, wq_ret4, ldR0, wq_callV1_0, mrg_0_, stI5, ldI5, ldI3, fk_11_30, wqinc5, stL6, mrg_1_, stI8, ldI8, stI9, ldI9, fk_11_35, ldI2, wq_callV3_0, wqinc9, ldI1, wq_callV2_0, stL9, ldL9, ldL6, stI11, ldI11, fk_11_31, wqinc11, fk_11_0, mrg_13_, ldI4, mrg_m1_, mPut_s, mPut_I0, mPut_R0, mPut_L0, mPut_I1, mPut_R1, mPut_L1, mGo_n, sfxX11_matched_7, cutX11_matched_7, sfxX11_matched_28, cutX11_matched_28, sfxX11_matched_37, cutX11_matched_37, sfxX11_matched_45, cutX11_matched_45, sfxX11_matched_78, cutX11_matched_78, sfxX11_matched_105, cutX11_matched_105, sfxX11_matched_115, cutX11_matched_115, sfxX11_matched_141, cutX11_matched_141, sfxX11_matched_151, cutX11_matched_151, sfxX11_matched_182, cutX11_matched_182, sfxX11_matched_183, cutX11_matched_183, wq_cut, mGo_c, mMask_t, mMask_f, mMask_n, kX11_matched_183, kX11_matched_182, kX11_matched_151, kX11_matched_141, kX11_matched_115, kX11_matched_105, kX11_matched_78, kX11_matched_45, kX11_matched_37, kX11_matched_28, kX11_matched_7, kX11_matched_0, sk_200, al_200, rf_200_30, sk_214, al_214, sn_214, rf_200_35, sk_218, al_218, sn_218, rf_200_31, sk_215, al_215, sn_215, rf_200_0, sk_201, al_201, sn_201, ald_n, ro0_n, al_ro, SX11_matched_0, SX11_matched_1, SX11_matched_2, SX11_matched_3, SX11_matched_4, SX11_matched_5, shqR_, shqRII_, shqRI_, spX11_putsBy, spX11_puts, spX11_isLawful, spX11_meanOf, spX11_goesOn, spX11_givesBack, mrg, mrl, mSet_ap, ncast, Option.some.injEq, e218]
        (try simp only [mrg, mrl] at *) <;> repeat' (first | (with_reducible assumption) | (with_reducible apply And.intro) | intro _)
        all_goals first | omega | exact key | skip
      · have e : k = N := by omega
        subst e
        have eS : I1 201 = stR (I 201) (seatS (stT (I 201)) (fun q => I 218 (base + q)) (I1 214) k) := by
          rw [hS.2.1]
          refine stR_cong _ (fun g g0 g1 => ?_)
          simp only [seatS]
          by_cases y : g < k
          · rw [if_pos y]
            exact hs g g0 y
          · rw [if_neg y]
            exact hS.2.2.2.2 g (by omega) g1
        have hW : WFt (I1 201) := by
          rw [hS.2.1]
          exact H.sts hS.2.2.2.1
        have hL : lawT (I1 201) ↔ lawM (I 201) (fun q => I 218 (base + q)) k := by
          unfold lawT
          rw [eS]
          exact law_seat H (by omega) hE.1 (fun q q0 q1 => (hcc q q0 q1).1)
        have hV : meanT (I1 201) b = VT (I 201) (stT (I 201)) (fun q => I 218 (base + q)) b k (I1 214) := by
          rw [eS]
          rfl
        have mb := meanT_bd hW hb
        have hr : ∀ q : Int, 0 ≤ q → q < k → 0 ≤ I1 214 q ∧ I1 214 q < 6 := fun q q0 q1 => by
          have := hE.1.rg q0 q1
          omega
        have hO := fun hq => g37_go (n := n) hS (mOE_old hE hq) (by omega) hfd hl
        have hNw : ∀ _ : Unit, lawT (I1 201) → (fd = 0 ∨ meanT (I1 201) b < l) → ∃ n', n' < n ∧ ∃ (l_1 : Int) (f_1 k_1 : Nat) (s : Int → Int), mrl l_1 ∧ [some (mR (some 200)), some (mI b), some (mI base), some (mI k), some (mI j), some (mI 1), some (mL (meanT (I1 201) b)), none, none, none, none, some (mI 0)] = [some (mR (some 200)), some (mI b), some (mI base), some (mI k), some (mI j), some (mI 1), some (mL l_1), none, none, none, none, some (mI k_1)] ∧ k_1 ≤ k ∧ n' = 40 * f_1 + 20 - k_1 ∧ mtS I1 I s k ∧ (∀ g : Int, 0 ≤ g → g < k_1 → I1 215 g = I1 214 g) ∧ (∀ bo : Int → Int, bo j = I1 214 j → mOX (I 201) (fun q => I 218 (base + q)) b k j 1 l_1 (I1 214) bo f_1) := fun _ y1 y2 => ⟨40 * f + 20 - 0, by omega, meanT (I1 201) b, f, 0, s, ⟨by omega, by omega⟩, rfl, by omega, rfl, hS, fun g g0 g1 => absurd g1 (by show ¬ g < ((0 : Nat) : Int); omega), fun bo hbo => by rw [hV]; exact mOE_new hE (hL.1 y1) (by rw [← hV]; exact y2) hbo⟩
        rw [← hV] at hO
        clear hE hV eS hcc
        simp only [false_and, and_false, true_or, or_true, false_or, or_false, true_and, and_true, true_implies, false_implies, implies_true, not_true_eq_false, not_false_eq_true, and_self, List.length_cons, List.length_nil, mNoCut_, mCat_n, mCat_I, mCat_L, mCat_R, mIsL_n, mIsL_I, mIsL_R, mIsL_L, Nat.reduceAdd, Nat.reduceSub, Nat.reduceLeDiff, Nat.reduceLT, Nat.reduceEqDiff, Nat.zero_le, Int.reduceEq, Int.reduceLT, Int.reduceLE, Int.reduceNeg, Int.reduceAdd, if_true, if_false, reduceIte, reduceCtorEq, Bool.false_eq_true, ne_eq, qCmp_0, qCmp_1, qCmp_2, qCmp_3, qCmp_4, qCmp_5, ib_0, ib_1, ib_2, lb_0, lb_1, lb_2, dv_0, dv_1, wq_ic, wq_lc, wq_ld_i, wq_ld_l, wq_ld_a, wq_st_i, wq_st_l, wq_iinc, wq_ib, wq_l2i, wq_icmp, wq_if, wq_lcmp, wq_goto, wq_get, mGet_0, mGet_1, mGet_2, mGet_3, wq_ald, wq_astI, wq_astL, wq_ret0, wq_ret1, wq_ret2, wq_ret3, wq_ret4, ldR0, wq_callV1_0, mrg_0_, stI5, ldI5, ldI3, fk_11_30, wqinc5, stL6, mrg_1_, stI8, ldI8, stI9, ldI9, fk_11_35, ldI2, wq_callV3_0, wqinc9, ldI1, wq_callV2_0, stL9, ldL9, ldL6, stI11, ldI11, fk_11_31, wqinc11, fk_11_0, mrg_13_, ldI4, mrg_m1_, mPut_s, mPut_I0, mPut_R0, mPut_L0, mPut_I1, mPut_R1, mPut_L1, mGo_n, sfxX11_matched_7, cutX11_matched_7, sfxX11_matched_28, cutX11_matched_28, sfxX11_matched_37, cutX11_matched_37, sfxX11_matched_45, cutX11_matched_45, sfxX11_matched_78, cutX11_matched_78, sfxX11_matched_105, cutX11_matched_105, sfxX11_matched_115, cutX11_matched_115, sfxX11_matched_141, cutX11_matched_141, sfxX11_matched_151, cutX11_matched_151, sfxX11_matched_182, cutX11_matched_182, sfxX11_matched_183, cutX11_matched_183, wq_cut, mGo_c, mMask_t, mMask_f, mMask_n, kX11_matched_183, kX11_matched_182, kX11_matched_151, kX11_matched_141, kX11_matched_115, kX11_matched_105, kX11_matched_78, kX11_matched_45, kX11_matched_37, kX11_matched_28, kX11_matched_7, kX11_matched_0, sk_200, al_200, rf_200_30, sk_214, al_214, sn_214, rf_200_35, sk_218, al_218, sn_218, rf_200_31, sk_215, al_215, sn_215, rf_200_0, sk_201, al_201, sn_201, ald_n, ro0_n, al_ro, SX11_matched_0, SX11_matched_1, SX11_matched_2, SX11_matched_3, SX11_matched_4, SX11_matched_5, shqR_, shqRII_, shqRI_, spX11_putsBy, spX11_puts, spX11_isLawful, spX11_meanOf, spX11_goesOn, spX11_givesBack, mrg, mrl, mSet_ap, ncast, Option.some.injEq]
        (try simp only [mrg, mrl] at *) <;> repeat' (first | (with_reducible assumption) | (with_reducible apply And.intro) | intro _)
        all_goals first | omega | assumption | exact hNw () (by assumption) (by omega) | exact ⟨k, rfl, ⟨by omega, by omega⟩, hr, (hO (fun _ => by omega)).1, (hO (fun _ => by omega)).2⟩ | exact ⟨k, rfl, ⟨by omega, by omega⟩, hr, (hO (fun w => absurd (hL.2 w) (by assumption))).1, (hO (fun w => absurd (hL.2 w) (by assumption))).2⟩ | skip
    · skip
      rw [sfxX11_matched_115]
      obtain ⟨rfl, l, f, k, s, hl, rfl, hk, hm, hS, hs, hE⟩ := hc
      clear h
      rcases Nat.lt_or_ge k N with z | z
      · have key : ∃ n', n' < n ∧ ∃ (l_1 : Int) (f_1 k_1 : Nat) (s : Int → Int), mrl l_1 ∧ [some (mR (some 200)), some (mI b), some (mI base), some (mI N), some (mI j), some (mI 1), some (mL l), none, none, none, none, some (mI ((k : Int) + 1))] = [some (mR (some 200)), some (mI b), some (mI base), some (mI N), some (mI j), some (mI 1), some (mL l_1), none, none, none, none, some (mI k_1)] ∧ k_1 ≤ N ∧ n' = 40 * f_1 + 20 - k_1 ∧ mtS (mSet I1 215 k (I1 214 k)) I s N ∧ (∀ g : Int, 0 ≤ g → g < k_1 → (if g = k then I1 214 k else I1 215 g) = I1 214 g) ∧ (∀ bo : Int → Int, bo j = I1 214 j → mOX (I 201) (fun q => I 218 (base + q)) b N j 1 l_1 (I1 214) bo f_1) := by
          refine ⟨40 * f + 20 - (k + 1), by omega, l, f, k + 1, s, hl, rfl, by omega, rfl, hS.set (Or.inr rfl) _ _, fun g g0 g1 => ?_, hE⟩
          by_cases e : g = k
          · rw [if_pos e, e]
          · rw [if_neg e]
            exact hs g g0 (by omega)
        simp only [false_and, and_false, true_or, or_true, false_or, or_false, true_and, and_true, true_implies, false_implies, implies_true, not_true_eq_false, not_false_eq_true, and_self, List.length_cons, List.length_nil, mNoCut_, mCat_n, mCat_I, mCat_L, mCat_R, mIsL_n, mIsL_I, mIsL_R, mIsL_L, Nat.reduceAdd, Nat.reduceSub, Nat.reduceLeDiff, Nat.reduceLT, Nat.reduceEqDiff, Nat.zero_le, Int.reduceEq, Int.reduceLT, Int.reduceLE, Int.reduceNeg, Int.reduceAdd, if_true, if_false, reduceIte, reduceCtorEq, Bool.false_eq_true, ne_eq, qCmp_0, qCmp_1, qCmp_2, qCmp_3, qCmp_4, qCmp_5, ib_0, ib_1, ib_2, lb_0, lb_1, lb_2, dv_0, dv_1, wq_ic, wq_lc, wq_ld_i, wq_ld_l, wq_ld_a, wq_st_i, wq_st_l, wq_iinc, wq_ib, wq_l2i, wq_icmp, wq_if, wq_lcmp, wq_goto, wq_get, mGet_0, mGet_1, mGet_2, mGet_3, wq_ald, wq_astI, wq_astL, wq_ret0, wq_ret1, wq_ret2, wq_ret3, wq_ret4, ldR0, wq_callV1_0, mrg_0_, stI5, ldI5, ldI3, fk_11_30, wqinc5, stL6, mrg_1_, stI8, ldI8, stI9, ldI9, fk_11_35, ldI2, wq_callV3_0, wqinc9, ldI1, wq_callV2_0, stL9, ldL9, ldL6, stI11, ldI11, fk_11_31, wqinc11, fk_11_0, mrg_13_, ldI4, mrg_m1_, mPut_s, mPut_I0, mPut_R0, mPut_L0, mPut_I1, mPut_R1, mPut_L1, mGo_n, sfxX11_matched_7, cutX11_matched_7, sfxX11_matched_28, cutX11_matched_28, sfxX11_matched_37, cutX11_matched_37, sfxX11_matched_45, cutX11_matched_45, sfxX11_matched_78, cutX11_matched_78, sfxX11_matched_105, cutX11_matched_105, sfxX11_matched_115, cutX11_matched_115, sfxX11_matched_141, cutX11_matched_141, sfxX11_matched_151, cutX11_matched_151, sfxX11_matched_182, cutX11_matched_182, sfxX11_matched_183, cutX11_matched_183, wq_cut, mGo_c, mMask_t, mMask_f, mMask_n, kX11_matched_183, kX11_matched_182, kX11_matched_151, kX11_matched_141, kX11_matched_115, kX11_matched_105, kX11_matched_78, kX11_matched_45, kX11_matched_37, kX11_matched_28, kX11_matched_7, kX11_matched_0, sk_200, al_200, rf_200_30, sk_214, al_214, sn_214, rf_200_35, sk_218, al_218, sn_218, rf_200_31, sk_215, al_215, sn_215, rf_200_0, sk_201, al_201, sn_201, ald_n, ro0_n, al_ro, SX11_matched_0, SX11_matched_1, SX11_matched_2, SX11_matched_3, SX11_matched_4, SX11_matched_5, shqR_, shqRII_, shqRI_, spX11_putsBy, spX11_puts, spX11_isLawful, spX11_meanOf, spX11_goesOn, spX11_givesBack, mrg, mrl, mSet_ap, ncast, Option.some.injEq]
        (try simp only [mrg, mrl] at *) <;> repeat' (first | (with_reducible assumption) | (with_reducible apply And.intro) | intro _)
        all_goals first | omega | exact key | skip
      · have e : k = N := by omega
        subst e
        have hX := hE (I1 215) (hs j hj.1 hj.2)
        have hr : ∀ q : Int, 0 ≤ q → q < k → 0 ≤ I1 214 q ∧ I1 214 q < 6 := fun q q0 q1 => by
          have := hX.1.rg q0 q1
          omega
        have hO := g37_go (n := n) hS hX (by omega) (Or.inr rfl) hl
        clear hE hX
        simp only [false_and, and_false, true_or, or_true, false_or, or_false, true_and, and_true, true_implies, false_implies, implies_true, not_true_eq_false, not_false_eq_true, and_self, List.length_cons, List.length_nil, mNoCut_, mCat_n, mCat_I, mCat_L, mCat_R, mIsL_n, mIsL_I, mIsL_R, mIsL_L, Nat.reduceAdd, Nat.reduceSub, Nat.reduceLeDiff, Nat.reduceLT, Nat.reduceEqDiff, Nat.zero_le, Int.reduceEq, Int.reduceLT, Int.reduceLE, Int.reduceNeg, Int.reduceAdd, if_true, if_false, reduceIte, reduceCtorEq, Bool.false_eq_true, ne_eq, qCmp_0, qCmp_1, qCmp_2, qCmp_3, qCmp_4, qCmp_5, ib_0, ib_1, ib_2, lb_0, lb_1, lb_2, dv_0, dv_1, wq_ic, wq_lc, wq_ld_i, wq_ld_l, wq_ld_a, wq_st_i, wq_st_l, wq_iinc, wq_ib, wq_l2i, wq_icmp, wq_if, wq_lcmp, wq_goto, wq_get, mGet_0, mGet_1, mGet_2, mGet_3, wq_ald, wq_astI, wq_astL, wq_ret0, wq_ret1, wq_ret2, wq_ret3, wq_ret4, ldR0, wq_callV1_0, mrg_0_, stI5, ldI5, ldI3, fk_11_30, wqinc5, stL6, mrg_1_, stI8, ldI8, stI9, ldI9, fk_11_35, ldI2, wq_callV3_0, wqinc9, ldI1, wq_callV2_0, stL9, ldL9, ldL6, stI11, ldI11, fk_11_31, wqinc11, fk_11_0, mrg_13_, ldI4, mrg_m1_, mPut_s, mPut_I0, mPut_R0, mPut_L0, mPut_I1, mPut_R1, mPut_L1, mGo_n, sfxX11_matched_7, cutX11_matched_7, sfxX11_matched_28, cutX11_matched_28, sfxX11_matched_37, cutX11_matched_37, sfxX11_matched_45, cutX11_matched_45, sfxX11_matched_78, cutX11_matched_78, sfxX11_matched_105, cutX11_matched_105, sfxX11_matched_115, cutX11_matched_115, sfxX11_matched_141, cutX11_matched_141, sfxX11_matched_151, cutX11_matched_151, sfxX11_matched_182, cutX11_matched_182, sfxX11_matched_183, cutX11_matched_183, wq_cut, mGo_c, mMask_t, mMask_f, mMask_n, kX11_matched_183, kX11_matched_182, kX11_matched_151, kX11_matched_141, kX11_matched_115, kX11_matched_105, kX11_matched_78, kX11_matched_45, kX11_matched_37, kX11_matched_28, kX11_matched_7, kX11_matched_0, sk_200, al_200, rf_200_30, sk_214, al_214, sn_214, rf_200_35, sk_218, al_218, sn_218, rf_200_31, sk_215, al_215, sn_215, rf_200_0, sk_201, al_201, sn_201, ald_n, ro0_n, al_ro, SX11_matched_0, SX11_matched_1, SX11_matched_2, SX11_matched_3, SX11_matched_4, SX11_matched_5, shqR_, shqRII_, shqRI_, spX11_putsBy, spX11_puts, spX11_isLawful, spX11_meanOf, spX11_goesOn, spX11_givesBack, mrg, mrl, mSet_ap, ncast, Option.some.injEq]
        exact ⟨⟨by omega, by omega⟩, fun _ => ⟨k, rfl, hN, hr, hO.1, hO.2⟩, fun q => absurd (Int.le_refl _) q⟩
  · show mWp _ _ _ _ _ _ kX11_matched_0 [some (mR (some 200)), some (mI b), some (mI base), some (mI N), some (mI j), none, none, none, none, none, none, none] [] I
    clear h
    simp only [false_and, and_false, true_or, or_true, false_or, or_false, true_and, and_true, true_implies, false_implies, implies_true, not_true_eq_false, not_false_eq_true, and_self, List.length_cons, List.length_nil, mNoCut_, mCat_n, mCat_I, mCat_L, mCat_R, mIsL_n, mIsL_I, mIsL_R, mIsL_L, Nat.reduceAdd, Nat.reduceSub, Nat.reduceLeDiff, Nat.reduceLT, Nat.reduceEqDiff, Nat.zero_le, Int.reduceEq, Int.reduceLT, Int.reduceLE, Int.reduceNeg, Int.reduceAdd, if_true, if_false, reduceIte, reduceCtorEq, Bool.false_eq_true, ne_eq, qCmp_0, qCmp_1, qCmp_2, qCmp_3, qCmp_4, qCmp_5, ib_0, ib_1, ib_2, lb_0, lb_1, lb_2, dv_0, dv_1, wq_ic, wq_lc, wq_ld_i, wq_ld_l, wq_ld_a, wq_st_i, wq_st_l, wq_iinc, wq_ib, wq_l2i, wq_icmp, wq_if, wq_lcmp, wq_goto, wq_get, mGet_0, mGet_1, mGet_2, mGet_3, wq_ald, wq_astI, wq_astL, wq_ret0, wq_ret1, wq_ret2, wq_ret3, wq_ret4, ldR0, wq_callV1_0, mrg_0_, stI5, ldI5, ldI3, fk_11_30, wqinc5, stL6, mrg_1_, stI8, ldI8, stI9, ldI9, fk_11_35, ldI2, wq_callV3_0, wqinc9, ldI1, wq_callV2_0, stL9, ldL9, ldL6, stI11, ldI11, fk_11_31, wqinc11, fk_11_0, mrg_13_, ldI4, mrg_m1_, mPut_s, mPut_I0, mPut_R0, mPut_L0, mPut_I1, mPut_R1, mPut_L1, mGo_n, sfxX11_matched_7, cutX11_matched_7, sfxX11_matched_28, cutX11_matched_28, sfxX11_matched_37, cutX11_matched_37, sfxX11_matched_45, cutX11_matched_45, sfxX11_matched_78, cutX11_matched_78, sfxX11_matched_105, cutX11_matched_105, sfxX11_matched_115, cutX11_matched_115, sfxX11_matched_141, cutX11_matched_141, sfxX11_matched_151, cutX11_matched_151, sfxX11_matched_182, cutX11_matched_182, sfxX11_matched_183, cutX11_matched_183, wq_cut, mGo_c, mMask_t, mMask_f, mMask_n, kX11_matched_183, kX11_matched_182, kX11_matched_151, kX11_matched_141, kX11_matched_115, kX11_matched_105, kX11_matched_78, kX11_matched_45, kX11_matched_37, kX11_matched_28, kX11_matched_7, kX11_matched_0, sk_200, al_200, rf_200_30, sk_214, al_214, sn_214, rf_200_35, sk_218, al_218, sn_218, rf_200_31, sk_215, al_215, sn_215, rf_200_0, sk_201, al_201, sn_201, ald_n, ro0_n, al_ro, SX11_matched_0, SX11_matched_1, SX11_matched_2, SX11_matched_3, SX11_matched_4, SX11_matched_5, shqR_, shqRII_, shqRI_, spX11_putsBy, spX11_puts, spX11_isLawful, spX11_meanOf, spX11_goesOn, spX11_givesBack, mrg, mrl, mSet_ap, ncast, Option.some.injEq]
    exact ⟨_, 0, rfl, by omega, rfl, ⟨fun i i0 i1 i2 i3 => noteM_ne _ _ _ _ i1, by rw [noteM_ne _ _ _ _ (by decide), stR_self], fun g g0 g1 => noteM_at _ _ _ ⟨g0, g1⟩, H.st, fun _ _ _ => rfl⟩, fun q q0 q1 => absurd q1 (by show ¬ q < ((0 : Nat) : Int); omega)⟩
theorem ctrX11_matched {l : Launch} (hst : l.stackTraces = false) (hT : mTxM l) : mCtr l calX11_matched spX11_matched :=
  mMet (T := TX11_matched) (S := SX11_matched) hst hT cutX11_matched (by decide) okX11_matched ⟨_, _, rfl, rfl⟩ trivial (fun t bs h => by rcases cutsX11_matched h with ⟨-, rfl⟩ | ⟨-, rfl⟩ | ⟨-, rfl⟩ | ⟨-, rfl⟩ <;> rfl) (fun a => match a with
    | 0 => ctrX11_putsBy hst hT
    | 1 => ctrX11_puts hst hT
    | 2 => ctrX11_isLawful hst hT
    | 3 => ctrX11_meanOf hst hT
    | 4 => ctrX11_goesOn hst hT
    | 5 => ctrX11_givesBack hst hT
    | _ + 6 => mCtr_no) vcX11_matched

abbrev celP (I : mM) (t n : Int) : Prop := ∀ p : Int, 0 ≤ p → p < n → p < I 217 t → 0 ≤ I 218 (40 * t + p) ∧ I 218 (40 * t + p) ≤ 288
def spX11_match : mSp := shRIIII (fun _ i b t n j I Q => i = some 200 ∧ WFt (I 201) ∧ mrg b ∧ mrg t ∧ mrg n ∧ mrg j ∧ (trayP t → mrg (I 216 t) ∧ mrg (I 217 t) ∧ ∀ q : Int, 0 ≤ q → q < 40 → mrl (I 218 (40 * t + q))) ∧ (¬ (ballP b ∧ trayP t) → Q (.inl (some (mI 0))) (mSet I 200 3 1)) ∧ (ballP b ∧ trayP t → I 216 t = -1 → Q (.inl (some (mI 0))) (mSet I 200 3 2)) ∧ (ballP b ∧ trayP t → I 216 t ≠ -1 → ¬ ((1 ≤ n ∧ n ≤ 6) ∧ (0 ≤ j ∧ j ≤ n - 1) ∧ celP I t n) → Q (.inl (some (mI 0))) (mSet I 200 3 3)) ∧ (ballP b ∧ trayP t → I 216 t ≠ -1 → (1 ≤ n ∧ n ≤ 6) ∧ (0 ≤ j ∧ j ≤ n - 1) ∧ celP I t n → I 217 t < n → Q (.inl (some (mI 0))) (mSet I 200 3 4)) ∧ (ballP b ∧ trayP t → I 216 t ≠ -1 → (1 ≤ n ∧ n ≤ 6) ∧ (0 ≤ j ∧ j ≤ n - 1) ∧ celP I t n → ¬ I 217 t < n → ∀ I' : mM, (∀ i, i ≠ 208 → i ≠ 214 → i ≠ 215 → I' i = mSet I 200 3 0 i) → Q (.inl (some (mI (matchT (I 201) (fun q => I 218 (40 * t + q)) b n.toNat j)))) I'))
def SX11_match : Nat → mSp := fun a => match a with
  | 0 => spX11_isBall
  | 1 => spX11_isTray
  | 2 => spX11_fails
  | 3 => spX11_within
  | 4 => spX11_isCell
  | 5 => spX11_matched
  | _ => fun _ _ _ _ => False
theorem SX11_match_0 : SX11_match 0 = spX11_isBall := Eq.trans rfl rfl
theorem SX11_match_1 : SX11_match 1 = spX11_isTray := Eq.trans rfl rfl
theorem SX11_match_2 : SX11_match 2 = spX11_fails := Eq.trans rfl rfl
theorem SX11_match_3 : SX11_match 3 = spX11_within := Eq.trans rfl rfl
theorem SX11_match_4 : SX11_match 4 = spX11_isCell := Eq.trans rfl rfl
theorem SX11_match_5 : SX11_match 5 = spX11_matched := Eq.trans rfl rfl
theorem cutsX11_match {t : Nat} {bs : List Bool} (h : cutX11_match t = some bs) : (t = 76 ∧ bs = [true, true, true, true, true, true]) := by
  unfold cutX11_match at h
  simp only [mLk] at h
  by_cases h0 : 76 = t
  · subst h0
    simp at h
    exact ⟨rfl, h.symm⟩
  rw [if_neg h0] at h
  cases h
set_option maxRecDepth 100000 in
set_option maxHeartbeats 1000000 in
theorem vcX11_match (fl : Nat → Bool) (avs : List mV) (I : mM) (Q : mO → mM → Prop) (hsp : spX11_match fl avs I Q) : mVC SX11_match fl Q kX11_match cutX11_match 6 avs I := by
  obtain ⟨i, b, t, nn, j, rfl, h0⟩ := shRIIII_inv hsp
  obtain ⟨rfl, H, rb, rt, rn, rj, hq, h1, h2, h3, h4, h5⟩ := h0
  refine ⟨rfl, (fun m pc lv st I1 => st = [] ∧ I1 = mSet I 200 3 0 ∧ (ballP b ∧ trayP t) ∧ I 216 t ≠ -1 ∧ ((1 ≤ nn ∧ nn ≤ 6) ∧ (0 ≤ j ∧ j ≤ nn - 1)) ∧ ∃ k : Nat, lv = [some (mR (some 200)), some (mI b), some (mI t), some (mI nn), some (mI j), some (mI k)] ∧ k ≤ nn.toNat ∧ m = 6 - k ∧ (k : Int) ≤ max 0 (I 217 t) ∧ ∀ p : Int, 0 ≤ p → p < k → 0 ≤ I 218 (40 * t + p) ∧ I 218 (40 * t + p) ≤ 288), ?_, ?_⟩
  · intro n t bs hbs lv st I1 hc
    rcases cutsX11_match hbs with ⟨rfl, rfl⟩
    rw [sfxX11_match_76]
    obtain ⟨rfl, rfl, hp, hs, hn, k, rfl, hk, hm, hk2, hc⟩ := hc
    obtain ⟨q1, q2, q3⟩ := hq hp.2
    have h3 := h3 hp hs
    have h4 := h4 hp hs
    have h5 := h5 hp hs
    clear h1 h2 hq
    have hend : ∀ _ : Unit, (nn ≤ k ∨ I 217 t ≤ k) → celP I t nn := fun _ z p p0 p1 p2 => hc p p0 (by omega)
    have e4 := fun z w => h4 ⟨hn.1, hn.2, hend () z⟩ w
    have e5 := fun z w => h5 ⟨hn.1, hn.2, hend () z⟩ w
    have e3 : ∀ _ : Unit, (k : Int) < nn → (k : Int) < I 217 t → ¬ (0 ≤ I 218 (40 * t + k) ∧ I 218 (40 * t + k) ≤ 288) → Q (.inl (some (mI 0))) (mSet I 200 3 3) := fun _ z1 z2 z3 => h3 (fun w => z3 (w.2.2 k (by omega) z1 z2))
    have qk : ∀ _ : Unit, (k : Int) < 40 → mrl (I 218 (40 * t + k)) := fun _ z => q3 k (by omega) z
    have hcc : ∀ _ : Unit, nn ≤ k → ¬ I 217 t < nn → ∀ q : Int, 0 ≤ q → q < nn.toNat → 0 ≤ I 218 (40 * t + q) ∧ I 218 (40 * t + q) ≤ 288 := fun _ z _ q q0 q1' => hc q q0 (by omega)
    have hgo : ∀ _ : Unit, (0 ≤ I 218 (40 * t + k) ∧ I 218 (40 * t + k) ≤ 288) → ∀ p : Int, 0 ≤ p → p < ((k + 1 : Nat) : Int) → 0 ≤ I 218 (40 * t + p) ∧ I 218 (40 * t + p) ≤ 288 := fun _ z p p0 p1 => (Decidable.em (p = (k : Int))).elim (fun w => by rw [w]; exact z) (fun w => hc p p0 (by omega))
    clear h3 h4 h5 hc q3 hend
    simp only [false_and, and_false, true_or, or_true, false_or, or_false, true_and, and_true, true_implies, false_implies, implies_true, not_true_eq_false, not_false_eq_true, and_self, List.length_cons, List.length_nil, mNoCut_, mCat_n, mCat_I, mCat_L, mCat_R, mIsL_n, mIsL_I, mIsL_R, mIsL_L, Nat.reduceAdd, Nat.reduceSub, Nat.reduceLeDiff, Nat.reduceLT, Nat.reduceEqDiff, Nat.zero_le, Int.reduceEq, Int.reduceLT, Int.reduceLE, Int.reduceNeg, Int.reduceAdd, if_true, if_false, reduceIte, reduceCtorEq, Bool.false_eq_true, ne_eq, qCmp_0, qCmp_1, qCmp_2, qCmp_3, qCmp_4, qCmp_5, ib_0, ib_1, ib_2, lb_0, lb_1, lb_2, dv_0, dv_1, wq_ic, wq_lc, wq_ld_i, wq_ld_a, wq_st_i, wq_iinc, wq_ib, wq_i2l, wq_icmp, wq_if, wq_goto, wq_get, mGet_0, mGet_1, mGet_2, mGet_3, wq_putI, wq_putL, wq_ald, wq_ret0, wq_ret1, wq_ret2, wq_ret3, wq_ret4, ldR0, mrg_0_, fk_11_3, ldI1, wq_callS1_1, ldI2, mrg_1_, wq_callV2_0, fk_11_33, mrg_m1_, mrg_2_, ldI3, wq_callS3_1, ldI4, mrg_3_, stI5, ldI5, fk_11_34, fk_11_35, mrg_40_, wqinc5, mrg_4_, wq_callV5_0, mPut_s, mPut_I0, mPut_R0, mPut_L0, mPut_I1, mPut_R1, mPut_L1, mGo_n, sfxX11_match_19, cutX11_match_19, sfxX11_match_25, cutX11_match_25, sfxX11_match_41, cutX11_match_41, sfxX11_match_67, cutX11_match_67, sfxX11_match_73, cutX11_match_73, sfxX11_match_76, cutX11_match_76, sfxX11_match_117, cutX11_match_117, sfxX11_match_123, cutX11_match_123, sfxX11_match_139, cutX11_match_139, wq_cut, mGo_c, mMask_t, mMask_f, mMask_n, kX11_match_139, kX11_match_123, kX11_match_117, kX11_match_76, kX11_match_73, kX11_match_67, kX11_match_41, kX11_match_25, kX11_match_19, kX11_match_0, sk_200, al_200, rf_200_33, sk_216, al_216, sn_216, rf_200_34, sk_217, al_217, sn_217, rf_200_35, sk_218, al_218, sn_218, ald_n, ro0_n, al_ro, SX11_match_0, SX11_match_1, SX11_match_2, SX11_match_3, SX11_match_4, SX11_match_5, shqI_, shqRI_, shqLLL_, shqL_, shqRIIII_, spX11_isBall, spX11_isTray, spX11_fails, spX11_within, spX11_isCell, spX11_matched, mrg, mrl, mSet_ap, ncast, Option.some.injEq, set_over1, set_201]
    (try simp only [mrg, mrl] at *) <;> repeat' (first | (with_reducible assumption) | (with_reducible apply And.intro) | intro _)
    all_goals first | omega | exact H | exact ⟨nn.toNat, by omega, ⟨by omega, by omega⟩, ⟨by omega, by omega⟩, ⟨by omega, by omega⟩, hcc () (by omega) (by omega), e5 (Or.inl (by omega)) (by omega)⟩ | exact e4 (by omega) (by omega) | exact ⟨6 - (k + 1), by omega, hp, hs, hn, k + 1, rfl, by omega, rfl, by omega, hgo () ⟨by omega, by omega⟩⟩ | exact e3 () (by omega) (by omega) (by omega) | exact (qk () (by omega)).1 | exact (qk () (by omega)).2 | skip
  · show mWp _ _ _ _ _ _ kX11_match_0 [some (mR (some 200)), some (mI b), some (mI t), some (mI nn), some (mI j), none] [] I
    clear h4 h5
    have rq : ∀ _ : Unit, trayP t → mrg (I 216 t) := fun _ z => (hq z).1
    clear hq
    simp only [false_and, and_false, true_or, or_true, false_or, or_false, true_and, and_true, true_implies, false_implies, implies_true, not_true_eq_false, not_false_eq_true, and_self, List.length_cons, List.length_nil, mNoCut_, mCat_n, mCat_I, mCat_L, mCat_R, mIsL_n, mIsL_I, mIsL_R, mIsL_L, Nat.reduceAdd, Nat.reduceSub, Nat.reduceLeDiff, Nat.reduceLT, Nat.reduceEqDiff, Nat.zero_le, Int.reduceEq, Int.reduceLT, Int.reduceLE, Int.reduceNeg, Int.reduceAdd, if_true, if_false, reduceIte, reduceCtorEq, Bool.false_eq_true, ne_eq, qCmp_0, qCmp_1, qCmp_2, qCmp_3, qCmp_4, qCmp_5, ib_0, ib_1, ib_2, lb_0, lb_1, lb_2, dv_0, dv_1, wq_ic, wq_lc, wq_ld_i, wq_ld_a, wq_st_i, wq_iinc, wq_ib, wq_i2l, wq_icmp, wq_if, wq_goto, wq_get, mGet_0, mGet_1, mGet_2, mGet_3, wq_putI, wq_putL, wq_ald, wq_ret0, wq_ret1, wq_ret2, wq_ret3, wq_ret4, ldR0, mrg_0_, fk_11_3, ldI1, wq_callS1_1, ldI2, mrg_1_, wq_callV2_0, fk_11_33, mrg_m1_, mrg_2_, ldI3, wq_callS3_1, ldI4, mrg_3_, stI5, ldI5, fk_11_34, fk_11_35, mrg_40_, wqinc5, mrg_4_, wq_callV5_0, mPut_s, mPut_I0, mPut_R0, mPut_L0, mPut_I1, mPut_R1, mPut_L1, mGo_n, sfxX11_match_19, cutX11_match_19, sfxX11_match_25, cutX11_match_25, sfxX11_match_41, cutX11_match_41, sfxX11_match_67, cutX11_match_67, sfxX11_match_73, cutX11_match_73, sfxX11_match_76, cutX11_match_76, sfxX11_match_117, cutX11_match_117, sfxX11_match_123, cutX11_match_123, sfxX11_match_139, cutX11_match_139, wq_cut, mGo_c, mMask_t, mMask_f, mMask_n, kX11_match_139, kX11_match_123, kX11_match_117, kX11_match_76, kX11_match_73, kX11_match_67, kX11_match_41, kX11_match_25, kX11_match_19, kX11_match_0, sk_200, al_200, rf_200_33, sk_216, al_216, sn_216, rf_200_34, sk_217, al_217, sn_217, rf_200_35, sk_218, al_218, sn_218, ald_n, ro0_n, al_ro, SX11_match_0, SX11_match_1, SX11_match_2, SX11_match_3, SX11_match_4, SX11_match_5, shqI_, shqRI_, shqLLL_, shqL_, shqRIIII_, spX11_isBall, spX11_isTray, spX11_fails, spX11_within, spX11_isCell, spX11_matched, mrg, mrl, mSet_ap, ncast, Option.some.injEq, set_over1, set_201]
    (try simp only [mrg, mrl] at *) <;> repeat' (first | (with_reducible assumption) | (with_reducible apply And.intro) | intro _)
    all_goals first | omega | assumption | exact (rq () ⟨by omega, by omega⟩).1 | exact (rq () ⟨by omega, by omega⟩).2 | exact ⟨6, ⟨⟨by omega, by omega⟩, by omega, by omega⟩, by omega, ⟨⟨by omega, by omega⟩, by omega, by omega⟩, 0, rfl, by omega, rfl, by omega, fun p p0 p1 => absurd p1 (by show ¬ p < ((0 : Nat) : Int); omega)⟩ | exact h1 (by omega) | exact h2 ⟨⟨by omega, by omega⟩, by omega, by omega⟩ (by omega) | exact h3 ⟨⟨by omega, by omega⟩, by omega, by omega⟩ (by omega) (fun w => by omega) | skip
theorem ctrX11_match {l : Launch} (hst : l.stackTraces = false) (hT : mTxM l) : mCtr l calX11_match spX11_match :=
  mMet (T := TX11_match) (S := SX11_match) hst hT cutX11_match (by decide) okX11_match ⟨_, _, rfl, rfl⟩ trivial (fun t bs h => by rcases cutsX11_match h with ⟨-, rfl⟩ <;> rfl) (fun a => match a with
    | 0 => ctrX11_isBall hst hT
    | 1 => ctrX11_isTray hst hT
    | 2 => ctrX11_fails hst hT
    | 3 => ctrX11_within hst hT
    | 4 => ctrX11_isCell hst hT
    | 5 => ctrX11_matched hst hT
    | _ + 6 => mCtr_no) vcX11_match

end SPM23
