section LLI
theorem repG_of2 {I J : mM} {g : Nat} {t : Int → Int} (hf : ∀ i, i = g ∨ (g + 3 ≤ i ∧ i ≤ g + 8) → J i = I i) (h : repG I g t) : repG J g t := by
  obtain ⟨h1, h2, h3, h4⟩ := h
  unfold repG
  rw [hf g (by omega), hf (g + 3) (by omega), hf (g + 4) (by omega), hf (g + 5) (by omega), hf (g + 6) (by omega), hf (g + 7) (by omega), hf (g + 8) (by omega)]
  exact ⟨h1, h2, h3, h4⟩
theorem repQ_of {I J : mM} {q : Nat} {t : Int → Int} (hf : ∀ i, i = q ∨ (q + 8 ≤ i ∧ i ≤ q + 13) → J i = I i) (h : repQ I q t) : repQ J q t := by
  obtain ⟨h1, h2, h3⟩ := h
  refine ⟨fun f f0 f1 => ?_, fun i i0 i1 hk f f0 f1 => ?_, ?_⟩
  · rw [hf (q + 8) (by omega), hf (q + 9) (by omega), hf (q + 10) (by omega), hf (q + 11) (by omega), hf (q + 12) (by omega)]
    exact h1 f f0 f1
  · rw [hf (q + 13) (by omega)]
    exact h2 i i0 i1 hk f f0 f1
  · rw [hf q (by omega)]
    exact h3
theorem repD_of {I J : mM} {d : Nat} {t : Int → Int} (hf : ∀ i, i = d ∨ i = d + 13 ∨ i = d + 14 → J i = I i) (h : repD I d t) : repD J d t := by
  obtain ⟨h1, h2, h3, h4, h5⟩ := h
  refine ⟨?_, ?_, ?_, fun k k0 k1 => ?_, fun k k0 k1 => ?_⟩
  · rw [hf d (by omega)]; exact h1
  · rw [hf d (by omega)]; exact h2
  · rw [hf d (by omega)]; exact h3
  · rw [hf (d + 13) (by omega)]; exact h4 k k0 k1
  · rw [hf (d + 14) (by omega)]; exact h5 k k0 k1
theorem repS_of {I J : mM} {b : Nat} {t : Int → Int} (hf : ∀ i, b ≤ i → i ≤ b + 17 → J i = I i) (h : repS I b t) : repS J b t :=
  ⟨repG_of (fun i h1 h2 => hf i (by omega) (by omega)) h.1, repQ_of (fun i h1 => hf i (by omega) (by omega)) h.2.1, repD_of (fun i h1 => hf i (by omega) (by omega)) h.2.2⟩
/-- what the two sides share besides the state: tape, trays, images -/
def LIb (fl : Nat → Bool) (I : mM) : Prop :=
  (∀ j : Int, 0 ≤ j → j < 800 → I 101 j = sbT (I 204 j) ∧ 0 ≤ I 204 j ∧ I 204 j ≤ 255) ∧ trW I ∧
  (∀ k : Nat, k < 4 → (fl (3 + k) = true ↔ I 216 k ≠ -1) ∧ (fl (3 + k) = true → I (170 + 2 * k) 0 = I 216 k ∧ I (170 + 2 * k) 1 = I 217 k ∧ ∀ q : Int, 0 ≤ q → q < 40 → I (171 + 2 * k) q = I 218 (40 * k + q))) ∧
  (∀ k : Nat, k < 3 → (I 203 k = 0 ∨ I 203 k = 1) ∧ (fl k = true ↔ I 203 k = 1) ∧ (fl k = true → WFt (fun q => I 202 (635 * k + q)) ∧ repS I (30 + 20 * k) (fun q => I 202 (635 * k + q))))
/-- numbers that both sides keep -/
def LIn (I : mM) : Prop := (I 100 1 = I 200 6 ∧ 0 ≤ I 200 6 ∧ I 200 6 ≤ 800) ∧ (I 100 3 = I 200 14 ∧ I 100 4 = I 200 15) ∧ mrg (I 200 11) ∧ I 0 13 = I 200 16 ∧ I 0 14 = I 200 17
/-- the invariant of the law's loop -/
def LI (fl : Nat → Bool) (I : mM) : Prop := clsI I ∧ LIb fl I ∧ LIn I
theorem LIb_of {fl : Nat → Bool} {I J : mM} (hf : ∀ i, (30 ≤ i ∧ i ≤ 87) ∨ i = 101 ∨ (170 ≤ i ∧ i ≤ 177) ∨ (202 ≤ i ∧ i ≤ 204) ∨ (216 ≤ i ∧ i ≤ 218) → J i = I i) (H : LIb fl I) : LIb fl J := by
  obtain ⟨h1, h2, h3, h4⟩ := H
  refine ⟨?_, ?_, ?_, ?_⟩
  · rw [hf 101 (by omega), hf 204 (by omega)]; exact h1
  · unfold trW
    rw [hf 216 (by omega), hf 217 (by omega), hf 218 (by omega)]; exact h2
  · intro k hk
    rw [hf 216 (by omega), hf 217 (by omega), hf 218 (by omega), hf (170 + 2 * k) (by omega), hf (171 + 2 * k) (by omega)]; exact h3 k hk
  · intro k hk
    rw [hf 203 (by omega), hf 202 (by omega)]
    obtain ⟨a, b, c⟩ := h4 k hk
    exact ⟨a, b, fun z => ⟨(c z).1, repS_of (fun i i0 i1 => hf i (by omega)) (c z).2⟩⟩
/-- what a reading method of the class leaves -/
def RD (I J : mM) (up lo : Int) : Prop := (∀ i, i ≠ 0 → ¬ (3 ≤ i ∧ i ≤ 7) → ¬ (120 ≤ i ∧ i ≤ 163) → i ≠ 230 → J i = I i) ∧ J 0 13 = up ∧ J 0 14 = lo
/-- and one of the reference -/
def RM (J K : mM) (th up lo : Int) : Prop := (∀ i, i ≠ 200 → ¬ (206 ≤ i ∧ i ≤ 215) → K i = J i) ∧ (∀ p : Int, p = 6 ∨ p = 11 ∨ p = 14 ∨ p = 15 → K 200 p = J 200 p) ∧ K 200 3 = th ∧ K 200 16 = up ∧ K 200 17 = lo
theorem RD_rfl (I : mM) : RD I I (I 0 13) (I 0 14) := ⟨fun _ _ _ _ _ => rfl, rfl, rfl⟩
theorem RD.out {I J : mM} {up lo : Int} (h : RD I J up lo) (v : Int) : RD I (mSet J 230 0 v) up lo :=
  ⟨fun i h1 h2 h3 h4 => by rw [set_ne h4]; exact h.1 i h1 h2 h3 h4, by rw [set_ne (by decide)]; exact h.2.1, by rw [set_ne (by decide)]; exact h.2.2⟩
theorem RD.c {I J : mM} {up lo : Int} (h : cPost I J up lo) : RD I J up lo :=
  ⟨fun i h1 h2 h3 _ => h.1 i h1 (by omega), h.2.1, h.2.2⟩
theorem RD.f {I J : mM} (h : ∀ i, ¬ ((3 ≤ i ∧ i ≤ 7) ∨ (120 ≤ i ∧ i ≤ 163)) → J i = I i) : RD I J (I 0 13) (I 0 14) :=
  ⟨fun i h1 h2 h3 _ => h i (by omega), by rw [h 0 (by omega)], by rw [h 0 (by omega)]⟩
theorem RD.g {I J : mM} (h : ∀ i, ¬ (3 ≤ i ∧ i ≤ 7) → J i = I i) : RD I J (I 0 13) (I 0 14) := RD.f (fun i z => h i (by omega))
theorem RD.s {I : mM} (x y : Int) : RD I (mSet (mSet I 0 13 x) 0 14 y) x y :=
  ⟨fun i h1 _ _ _ => by rw [set_ne h1, set_ne h1], by rw [set_nq (by decide)]; exact set_eq, set_eq⟩
theorem RM_3 {J : mM} (th : Int) : RM J (mSet J 200 3 th) th (J 200 16) (J 200 17) :=
  ⟨fun i h1 _ => set_ne h1, fun p hp => set_nq (by omega), set_eq, set_nq (by decide), set_nq (by decide)⟩
theorem RM_k {J : mM} (p v : Int) {K : mM} {th up lo : Int} (h : RM J K th up lo) (hp : p ≠ 3 ∧ p ≠ 6 ∧ p ≠ 11 ∧ p ≠ 14 ∧ p ≠ 15 ∧ p ≠ 16 ∧ p ≠ 17) : RM J (mSet K 200 p v) th up lo :=
  ⟨fun i h1 h2 => by rw [set_ne h1]; exact h.1 i h1 h2, fun q hq => by rw [set_nq (by omega)]; exact h.2.1 q hq, by rw [set_nq (by omega)]; exact h.2.2.1, by rw [set_nq (by omega)]; exact h.2.2.2.1, by rw [set_nq (by omega)]; exact h.2.2.2.2⟩
theorem RM_f {J : mM} (th x y : Int) : RM J (mSet (mSet (mSet J 200 3 th) 200 16 x) 200 17 y) th x y :=
  ⟨fun i h1 _ => by rw [set_ne h1, set_ne h1, set_ne h1], fun p hp => by rw [set_nq (by omega), set_nq (by omega), set_nq (by omega)], by rw [set_nq (by decide), set_nq (by decide)]; exact set_eq, by rw [set_nq (by decide)]; exact set_eq, set_eq⟩
theorem RM_p {J K : mM} {t : Int → Int} {th up lo : Int} (e0 : J 201 = t) (h : mPost J K t th up lo) : RM J K th up lo :=
  ⟨fun i h1 h2 => by
    by_cases e : i = 201
    · subst e; rw [e0]; exact h.2.1
    · exact h.1 i h1 e (by omega), fun p hp => h.2.2.2.2.2 p (by omega), h.2.2.1, h.2.2.2.1, h.2.2.2.2.1⟩
theorem RM_fr3 {J K : mM} (h : fr3 K J) : RM J K 0 (J 200 16) (J 200 17) :=
  ⟨fun i h1 h2 => by rw [h i (by omega) (by omega) (by omega), set_ne h1], fun p hp => by rw [h 200 (by decide) (by decide) (by decide), set_nq (by omega)], by rw [h 200 (by decide) (by decide) (by decide), set_eq], by rw [h 200 (by decide) (by decide) (by decide), set_nq (by decide)], by rw [h 200 (by decide) (by decide) (by decide), set_nq (by decide)]⟩
theorem LI_ro {fl : Nat → Bool} {I J K : mM} {th up lo : Int} (H : LI fl I) (R : RD I J up lo) (M : RM J K th up lo) : LI fl K := by
  obtain ⟨h1, h2, ⟨n1, n2, n3⟩, n4, n5, n6, n7⟩ := H
  have e : ∀ i, i ≠ 0 → ¬ (3 ≤ i ∧ i ≤ 7) → ¬ (120 ≤ i ∧ i ≤ 163) → i ≠ 230 → i ≠ 200 → ¬ (206 ≤ i ∧ i ≤ 215) → K i = I i := fun i a b c d e f => (M.1 i e f).trans (R.1 i a b c d)
  have e2 : ∀ p : Int, p = 6 ∨ p = 11 ∨ p = 14 ∨ p = 15 → K 200 p = I 200 p := fun p hp => (M.2.1 p hp).trans (by rw [R.1 200 (by decide) (by decide) (by decide) (by decide)])
  refine ⟨clsI_of (fun i hi => e i (by omega) (by omega) (by omega) (by omega) (by omega) (by omega)) h1, LIb_of (fun i hi => e i (by omega) (by omega) (by omega) (by omega) (by omega) (by omega)) h2, ?_⟩
  have e100 := e 100 (by decide) (by decide) (by decide) (by decide) (by decide) (by decide)
  refine ⟨?_, ?_, ?_, ?_, ?_⟩
  · rw [e100, e2 6 (by omega)]; exact ⟨n1, n2, n3⟩
  · rw [e100, e2 14 (by omega), e2 15 (by omega)]; exact n4
  · rw [e2 11 (by omega)]; exact n5
  · rw [M.2.2.2.1, M.1 0 (by decide) (by decide), R.2.1]
  · rw [M.2.2.2.2, M.1 0 (by decide) (by decide), R.2.2]
theorem RM_h {I J K : mM} {fl : Nat → Bool} {th : Int} (H : LI fl I) (R : RD I J (I 0 13) (I 0 14)) (M : RM J K th (J 200 16) (J 200 17)) : RM J K th (I 0 13) (I 0 14) := by
  have e : J 200 = I 200 := R.1 200 (by decide) (by decide) (by decide) (by decide)
  rw [e] at M
  rw [H.2.2.2.2.2.1, H.2.2.2.2.2.2]
  exact M
-- what a case of the law asks of class and reference
def qI (fl : Nat → Bool) (k : Int) : mO → mM → Prop := fun o2 I2 => ∃ b : Int, o2 = .inl (some (mI b)) ∧ I2 200 3 = k ∧ (k = 0 → I2 230 0 = wI b) ∧ LI fl I2
def qB (fl : Nat → Bool) (k : Int) : mO → mM → Prop := fun o2 I2 => ∃ b : Int, o2 = .inl (some (mI b)) ∧ I2 200 3 = k ∧ ((b = 0 ∨ b = 1) ∧ (k = 0 → I2 230 0 = b)) ∧ LI fl I2
def qV (fl : Nat → Bool) (k : Int) : mO → mM → Prop := fun o2 I2 => o2 = .inl none ∧ I2 200 3 = k ∧ LI fl I2
def qL (fl : Nat → Bool) (k : Int) : mO → mM → Prop := fun o2 I2 => ∃ b : Int, o2 = .inl (some (mL b)) ∧ I2 200 3 = k ∧ (k = 0 → I2 230 0 = b) ∧ LI fl I2
def qD (fl : Nat → Bool) (a : Int) : mO → mM → Prop := fun o2 I2 => ∃ b : Int, o2 = .inl (some (mI b)) ∧ a = b ∧ LI fl I2
def qDL (fl : Nat → Bool) (a : Int) : mO → mM → Prop := fun o2 I2 => ∃ b : Int, o2 = .inl (some (mL b)) ∧ a = b ∧ LI fl I2
def KI (fl : Nat → Bool) (sp2 : mSp) (as2 : List mV) : mO → mM → Prop := fun o I1 => ∃ k : Int, o = .inl (some (mI k)) ∧ (0 ≤ k ∧ k ≤ 4) ∧ sp2 fl as2 I1 (qI fl k)
def KB (fl : Nat → Bool) (sp2 : mSp) (as2 : List mV) : mO → mM → Prop := fun o I1 => ∃ k : Int, o = .inl (some (mI k)) ∧ (0 ≤ k ∧ k ≤ 4) ∧ sp2 fl as2 I1 (qB fl k)
def KV (fl : Nat → Bool) (sp2 : mSp) (as2 : List mV) : mO → mM → Prop := fun o I1 => ∃ k : Int, o = .inl (some (mI k)) ∧ (0 ≤ k ∧ k ≤ 4) ∧ sp2 fl as2 I1 (qV fl k)
def KL (fl : Nat → Bool) (sp2 : mSp) (as2 : List mV) : mO → mM → Prop := fun o I1 => ∃ k : Int, o = .inl (some (mI k)) ∧ (0 ≤ k ∧ k ≤ 4) ∧ sp2 fl as2 I1 (qL fl k)
def KD (fl : Nat → Bool) (sp2 : mSp) (as2 : List mV) : mO → mM → Prop := fun o I1 => ∃ a : Int, o = .inl (some (mI a)) ∧ sp2 fl as2 I1 (qD fl a)
def KDL (fl : Nat → Bool) (sp2 : mSp) (as2 : List mV) : mO → mM → Prop := fun o I1 => ∃ a : Int, o = .inl (some (mL a)) ∧ sp2 fl as2 I1 (qDL fl a)
theorem qI_0 {fl : Nat → Bool} {I J K : mM} {v up lo : Int} (H : LI fl I) (R : RD I J up lo) (M : RM J K 0 up lo) (e : J 230 0 = wI v) : qI fl 0 (.inl (some (mI v))) K := ⟨v, rfl, M.2.2.1, fun _ => by rw [M.1 230 (by decide) (by decide)]; exact e, LI_ro H R M⟩
theorem qI_k {fl : Nat → Bool} {I J K : mM} {v k up lo : Int} (hk : k ≠ 0) (H : LI fl I) (R : RD I J up lo) (M : RM J K k up lo) : qI fl k (.inl (some (mI v))) K := ⟨v, rfl, M.2.2.1, fun z => absurd z hk, LI_ro H R M⟩
theorem qB_0 {fl : Nat → Bool} {I J K : mM} {v up lo : Int} (H : LI fl I) (R : RD I J up lo) (M : RM J K 0 up lo) (e : J 230 0 = v) (hv : v = 0 ∨ v = 1) : qB fl 0 (.inl (some (mI v))) K := ⟨v, rfl, M.2.2.1, ⟨hv, fun _ => by rw [M.1 230 (by decide) (by decide)]; exact e⟩, LI_ro H R M⟩
theorem qB_k {fl : Nat → Bool} {I J K : mM} {v k up lo : Int} (hk : k ≠ 0) (H : LI fl I) (R : RD I J up lo) (M : RM J K k up lo) (hv : v = 0 ∨ v = 1) : qB fl k (.inl (some (mI v))) K := ⟨v, rfl, M.2.2.1, ⟨hv, fun z => absurd z hk⟩, LI_ro H R M⟩
theorem qV_k {fl : Nat → Bool} {I J K : mM} {k up lo : Int} (H : LI fl I) (R : RD I J up lo) (M : RM J K k up lo) : qV fl k (.inl none) K := ⟨rfl, M.2.2.1, LI_ro H R M⟩
theorem qL_k {fl : Nat → Bool} {I J K : mM} {v k up lo : Int} (hk : k ≠ 0) (H : LI fl I) (R : RD I J up lo) (M : RM J K k up lo) : qL fl k (.inl (some (mL v))) K := ⟨v, rfl, M.2.2.1, fun z => absurd z hk, LI_ro H R M⟩
theorem qD_0 {fl : Nat → Bool} {I J K : mM} {a b th up lo : Int} (H : LI fl I) (R : RD I J up lo) (M : RM J K th up lo) (e : a = b) : qD fl a (.inl (some (mI b))) K := ⟨b, rfl, e, LI_ro H R M⟩
theorem qDL_0 {fl : Nat → Bool} {I J K : mM} {a b th up lo : Int} (H : LI fl I) (R : RD I J up lo) (M : RM J K th up lo) (e : a = b) : qDL fl a (.inl (some (mL b))) K := ⟨b, rfl, e, LI_ro H R M⟩
end LLI
section LST
-- the reference's row, changed in one region
theorem WFt_n {t t' : Int → Int} (H : WFt t) (ne : ∀ q, q ≠ 6 → q ≠ 7 → q ≠ 8 → t' q = t q) (h6 : 0 ≤ t' 6 ∧ t' 6 ≤ 4) (h7 : 0 ≤ t' 7 ∧ t' 7 ≤ 100) (h8 : 0 ≤ t' 8 ∧ t' 8 ≤ 1) : WFt t' := by
  obtain ⟨⟨a0, a1, a2, a3, a4, a5, a6, a7, a8⟩, b, c, d, e, f, g⟩ := H
  refine ⟨⟨?_, ?_, ?_, ?_, ?_, ?_, h6, h7, h8⟩, fun k k0 k1 => ?_, fun k k0 k1 => ?_, fun k k0 k1 => ?_, fun x h x0 x1 h0 h1 => ?_, fun k k0 k1 => ?_, fun k k0 k1 => ⟨?_, fun x x0 x1 => ?_⟩⟩
  · rw [ne 0 (by omega) (by omega) (by omega)]; exact a0
  · rw [ne 1 (by omega) (by omega) (by omega)]; exact a1
  · rw [ne 2 (by omega) (by omega) (by omega)]; exact a2
  · rw [ne 3 (by omega) (by omega) (by omega)]; exact a3
  · rw [ne 4 (by omega) (by omega) (by omega)]; exact a4
  · rw [ne 5 (by omega) (by omega) (by omega)]; exact a5
  · rw [ne (13 + k) (by omega) (by omega) (by omega)]; exact b k k0 k1
  · rw [ne (20 + k) (by omega) (by omega) (by omega)]; exact c k k0 k1
  · rw [ne (310 + 5 * k) (by omega) (by omega) (by omega), ne (311 + 5 * k) (by omega) (by omega) (by omega), ne (312 + 5 * k) (by omega) (by omega) (by omega), ne (313 + 5 * k) (by omega) (by omega) (by omega), ne (314 + 5 * k) (by omega) (by omega) (by omega)]; exact d k k0 k1
  · rw [ne (13 + x) (by omega) (by omega) (by omega)] at h1
    rw [ne (313 + 5 * (8 * x + h)) (by omega) (by omega) (by omega)]; exact e x h x0 x1 h0 h1
  · rw [ne (550 + 5 * k) (by omega) (by omega) (by omega), ne (551 + 5 * k) (by omega) (by omega) (by omega), ne (552 + 5 * k) (by omega) (by omega) (by omega), ne (553 + 5 * k) (by omega) (by omega) (by omega), ne (554 + 5 * k) (by omega) (by omega) (by omega)]; exact f k k0 k1
  · rw [ne (595 + 10 * k) (by omega) (by omega) (by omega)]; exact (g k k0 k1).1
  · rw [ne (596 + 10 * k + x) (by omega) (by omega) (by omega)]; exact (g k k0 k1).2 x x0 x1
theorem WFt_h {t t' : Int → Int} (H : WFt t) (ne : ∀ q, ¬ (310 ≤ q ∧ q < 550) → t' q = t q) (hd : ∀ k, 0 ≤ k → k < 48 → (0 ≤ t' (310 + 5 * k) ∧ t' (310 + 5 * k) ≤ 15) ∧ (0 ≤ t' (311 + 5 * k) ∧ t' (311 + 5 * k) ≤ 9) ∧ (0 ≤ t' (312 + 5 * k) ∧ t' (312 + 5 * k) ≤ 8) ∧ (0 ≤ t' (313 + 5 * k) ∧ t' (313 + 5 * k) ≤ 99) ∧ (0 ≤ t' (314 + 5 * k) ∧ t' (314 + 5 * k) ≤ 9999))
    (he : ∀ b h, 0 ≤ b → b < 6 → 0 ≤ h → h < t (13 + b) → 1 ≤ t' (313 + 5 * (8 * b + h))) : WFt t' := by
  obtain ⟨⟨a0, a1, a2, a3, a4, a5, a6, a7, a8⟩, b, c, d, e, f, g⟩ := H
  refine ⟨⟨?_, ?_, ?_, ?_, ?_, ?_, ?_, ?_, ?_⟩, fun k k0 k1 => ?_, fun k k0 k1 => ?_, hd, fun x h x0 x1 h0 h1 => ?_, fun k k0 k1 => ?_, fun k k0 k1 => ⟨?_, fun x x0 x1 => ?_⟩⟩
  · rw [ne 0 (by omega)]; exact a0
  · rw [ne 1 (by omega)]; exact a1
  · rw [ne 2 (by omega)]; exact a2
  · rw [ne 3 (by omega)]; exact a3
  · rw [ne 4 (by omega)]; exact a4
  · rw [ne 5 (by omega)]; exact a5
  · rw [ne 6 (by omega)]; exact a6
  · rw [ne 7 (by omega)]; exact a7
  · rw [ne 8 (by omega)]; exact a8
  · rw [ne (13 + k) (by omega)]; exact b k k0 k1
  · rw [ne (20 + k) (by omega)]; exact c k k0 k1
  · rw [ne (13 + x) (by omega)] at h1
    exact he x h x0 x1 h0 h1
  · rw [ne (550 + 5 * k) (by omega), ne (551 + 5 * k) (by omega), ne (552 + 5 * k) (by omega), ne (553 + 5 * k) (by omega), ne (554 + 5 * k) (by omega)]; exact f k k0 k1
  · rw [ne (595 + 10 * k) (by omega)]; exact (g k k0 k1).1
  · rw [ne (596 + 10 * k + x) (by omega)]; exact (g k k0 k1).2 x x0 x1
theorem WFt_f {t t' : Int → Int} (H : WFt t) (ne : ∀ q, ¬ (550 ≤ q ∧ q < 595) → t' q = t q) (hf : ∀ f, 0 ≤ f → f < 9 → (-1 ≤ t' (550 + 5 * f) ∧ t' (550 + 5 * f) ≤ 288) ∧ (1 ≤ t' (551 + 5 * f) ∧ t' (551 + 5 * f) ≤ 9) ∧ (0 ≤ t' (552 + 5 * f) ∧ t' (552 + 5 * f) ≤ 100) ∧ (0 ≤ t' (553 + 5 * f) ∧ t' (553 + 5 * f) ≤ 50) ∧ (0 ≤ t' (554 + 5 * f) ∧ t' (554 + 5 * f) ≤ 9)) : WFt t' := by
  obtain ⟨⟨a0, a1, a2, a3, a4, a5, a6, a7, a8⟩, b, c, d, e, f, g⟩ := H
  refine ⟨⟨?_, ?_, ?_, ?_, ?_, ?_, ?_, ?_, ?_⟩, fun k k0 k1 => ?_, fun k k0 k1 => ?_, fun k k0 k1 => ?_, fun x h x0 x1 h0 h1 => ?_, hf, fun k k0 k1 => ⟨?_, fun x x0 x1 => ?_⟩⟩
  · rw [ne 0 (by omega)]; exact a0
  · rw [ne 1 (by omega)]; exact a1
  · rw [ne 2 (by omega)]; exact a2
  · rw [ne 3 (by omega)]; exact a3
  · rw [ne 4 (by omega)]; exact a4
  · rw [ne 5 (by omega)]; exact a5
  · rw [ne 6 (by omega)]; exact a6
  · rw [ne 7 (by omega)]; exact a7
  · rw [ne 8 (by omega)]; exact a8
  · rw [ne (13 + k) (by omega)]; exact b k k0 k1
  · rw [ne (20 + k) (by omega)]; exact c k k0 k1
  · rw [ne (310 + 5 * k) (by omega), ne (311 + 5 * k) (by omega), ne (312 + 5 * k) (by omega), ne (313 + 5 * k) (by omega), ne (314 + 5 * k) (by omega)]; exact d k k0 k1
  · rw [ne (13 + x) (by omega)] at h1
    rw [ne (313 + 5 * (8 * x + h)) (by have := b x x0 x1; omega)]; exact e x h x0 x1 h0 h1
  · rw [ne (595 + 10 * k) (by omega)]; exact (g k k0 k1).1
  · rw [ne (596 + 10 * k + x) (by omega)]; exact (g k k0 k1).2 x x0 x1
theorem WFt_k {t t' : Int → Int} (H : WFt t) (ne : ∀ q, ¬ (595 ≤ q) → t' q = t q) (hg : ∀ i, 0 ≤ i → i < 4 → (0 ≤ t' (595 + 10 * i) ∧ t' (595 + 10 * i) ≤ 1) ∧ ∀ f, 0 ≤ f → f < 9 → -1 ≤ t' (596 + 10 * i + f) ∧ t' (596 + 10 * i + f) ≤ 288) : WFt t' := by
  obtain ⟨⟨a0, a1, a2, a3, a4, a5, a6, a7, a8⟩, b, c, d, e, f, g⟩ := H
  refine ⟨⟨?_, ?_, ?_, ?_, ?_, ?_, ?_, ?_, ?_⟩, fun k k0 k1 => ?_, fun k k0 k1 => ?_, fun k k0 k1 => ?_, fun x h x0 x1 h0 h1 => ?_, fun k k0 k1 => ?_, hg⟩
  · rw [ne 0 (by omega)]; exact a0
  · rw [ne 1 (by omega)]; exact a1
  · rw [ne 2 (by omega)]; exact a2
  · rw [ne 3 (by omega)]; exact a3
  · rw [ne 4 (by omega)]; exact a4
  · rw [ne 5 (by omega)]; exact a5
  · rw [ne 6 (by omega)]; exact a6
  · rw [ne 7 (by omega)]; exact a7
  · rw [ne 8 (by omega)]; exact a8
  · rw [ne (13 + k) (by omega)]; exact b k k0 k1
  · rw [ne (20 + k) (by omega)]; exact c k k0 k1
  · rw [ne (310 + 5 * k) (by omega), ne (311 + 5 * k) (by omega), ne (312 + 5 * k) (by omega), ne (313 + 5 * k) (by omega), ne (314 + 5 * k) (by omega)]; exact d k k0 k1
  · rw [ne (13 + x) (by omega)] at h1
    rw [ne (313 + 5 * (8 * x + h)) (by have := b x x0 x1; omega)]; exact e x h x0 x1 h0 h1
  · rw [ne (550 + 5 * k) (by omega), ne (551 + 5 * k) (by omega), ne (552 + 5 * k) (by omega), ne (553 + 5 * k) (by omega), ne (554 + 5 * k) (by omega)]; exact f k k0 k1
theorem WFt_e {t t' : Int → Int} (H : WFt t) (e : ∀ q, 0 ≤ q → q < 635 → t' q = t q) : WFt t' := by
  have h1 : WFt (fun q => if 595 ≤ q then t' q else t q) := WFt_k H (fun q h => if_neg h) (fun i i0 i1 => by
    have g := H.2.2.2.2.2.2 i i0 i1
    refine ⟨?_, fun f f0 f1 => ?_⟩
    · show 0 ≤ (if 595 ≤ 595 + 10 * i then t' (595 + 10 * i) else t (595 + 10 * i)) ∧ (if 595 ≤ 595 + 10 * i then t' (595 + 10 * i) else t (595 + 10 * i)) ≤ 1
      rw [if_pos (by omega), e _ (by omega) (by omega)]; exact g.1
    · show -1 ≤ (if 595 ≤ 596 + 10 * i + f then t' (596 + 10 * i + f) else t (596 + 10 * i + f)) ∧ (if 595 ≤ 596 + 10 * i + f then t' (596 + 10 * i + f) else t (596 + 10 * i + f)) ≤ 288
      rw [if_pos (by omega), e _ (by omega) (by omega)]; exact g.2 f f0 f1)
  obtain ⟨⟨a0, a1, a2, a3, a4, a5, a6, a7, a8⟩, b, c, d, x, f, g⟩ := H
  obtain ⟨-, -, -, -, -, -, g'⟩ := h1
  refine ⟨⟨?_, ?_, ?_, ?_, ?_, ?_, ?_, ?_, ?_⟩, fun k k0 k1 => ?_, fun k k0 k1 => ?_, fun k k0 k1 => ?_, fun y h x0 x1 h0 h1 => ?_, fun k k0 k1 => ?_, fun i i0 i1 => ⟨?_, fun f f0 f1 => ?_⟩⟩
  · rw [e 0 (by omega) (by omega)]; exact a0
  · rw [e 1 (by omega) (by omega)]; exact a1
  · rw [e 2 (by omega) (by omega)]; exact a2
  · rw [e 3 (by omega) (by omega)]; exact a3
  · rw [e 4 (by omega) (by omega)]; exact a4
  · rw [e 5 (by omega) (by omega)]; exact a5
  · rw [e 6 (by omega) (by omega)]; exact a6
  · rw [e 7 (by omega) (by omega)]; exact a7
  · rw [e 8 (by omega) (by omega)]; exact a8
  · rw [e (13 + k) (by omega) (by omega)]; exact b k k0 k1
  · rw [e (20 + k) (by omega) (by omega)]; exact c k k0 k1
  · rw [e (310 + 5 * k) (by omega) (by omega), e (311 + 5 * k) (by omega) (by omega), e (312 + 5 * k) (by omega) (by omega), e (313 + 5 * k) (by omega) (by omega), e (314 + 5 * k) (by omega) (by omega)]; exact d k k0 k1
  · rw [e (13 + y) (by omega) (by omega)] at h1
    have := b y x0 x1
    rw [e (313 + 5 * (8 * y + h)) (by omega) (by omega)]; exact x y h x0 x1 h0 h1
  · rw [e (550 + 5 * k) (by omega) (by omega), e (551 + 5 * k) (by omega) (by omega), e (552 + 5 * k) (by omega) (by omega), e (553 + 5 * k) (by omega) (by omega), e (554 + 5 * k) (by omega) (by omega)]; exact f k k0 k1
  · rw [e (595 + 10 * i) (by omega) (by omega)]; exact (g i i0 i1).1
  · rw [e (596 + 10 * i + f) (by omega) (by omega)]; exact (g i i0 i1).2 f f0 f1
-- what the class holds, of two rows that agree
theorem repG_x {I : mM} {g : Nat} {t t' : Int → Int} (hb : ∀ b : Int, 0 ≤ b → b < 6 → t (13 + b) ≤ 8) (e : ∀ q, (0 ≤ q ∧ q ≤ 5) ∨ (13 ≤ q ∧ q < 310) → t' q = t q) (e2 : ∀ k w : Int, 0 ≤ k → k < 48 → 0 ≤ w → w < 4 → t' (310 + 5 * k + w) = t (310 + 5 * k + w)) (h : repG I g t) : repG I g t' := by
  obtain ⟨h1, h2, h3, h4⟩ := h
  refine ⟨fun k k0 k1 => ?_, fun k k0 k1 => ?_, fun k k0 k1 => ?_, fun b h b0 b1 h0 hlt => ?_⟩
  · rw [e k (by omega)]; exact h1 k k0 k1
  · rw [e (20 + k) (by omega)]; exact h2 k k0 k1
  · rw [e (13 + k) (by omega)]; exact h3 k k0 k1
  · rw [e (13 + b) (by omega)] at hlt
    have hb8 := hb b b0 b1
    obtain ⟨p0, p1, p2, p3⟩ := h4 b h b0 b1 h0 hlt
    unfold rawT at p0 p1 p2 p3 ⊢
    rw [e2 (8 * b + h) 0 (by omega) (by omega) (by omega) (by omega), e2 (8 * b + h) 1 (by omega) (by omega) (by omega) (by omega), e2 (8 * b + h) 2 (by omega) (by omega) (by omega) (by omega), e2 (8 * b + h) 3 (by omega) (by omega) (by omega) (by omega)]
    exact ⟨p0, p1, p2, p3⟩
theorem bitN_x {t t' : Int → Int} (e : ∀ i : Int, 0 ≤ i → i < 4 → t' (595 + 10 * i) = t (595 + 10 * i)) : bitN t' 4 = bitN t 4 := by
  have h : ∀ n : Nat, n ≤ 4 → bitN t' n = bitN t n := by
    intro n
    induction n with
    | zero => intro _; rfl
    | succ n ih =>
      intro hn
      have e1 := e n (by omega) (by omega)
      have e2 := ih (by omega)
      simp only [bitN]
      rw [e1, e2]
  exact h 4 (by omega)
theorem repQ_x {I : mM} {q : Nat} {t t' : Int → Int} (e : ∀ p, 550 ≤ p ∧ p < 635 → t' p = t p) (h : repQ I q t) : repQ I q t' := by
  obtain ⟨h1, h2, h3⟩ := h
  refine ⟨fun f f0 f1 => ?_, fun i i0 i1 hk f f0 f1 => ?_, ?_⟩
  · obtain ⟨p0, p1, p2, p3, p4⟩ := h1 f f0 f1
    unfold stT pcT hdT prT amT at *
    rw [e (550 + 5 * f) (by omega), e (550 + 5 * f + 1) (by omega), e (550 + 5 * f + 2) (by omega), e (550 + 5 * f + 3) (by omega), e (550 + 5 * f + 4) (by omega)]
    exact ⟨p0, p1, p2, p3, p4⟩
  · unfold keptS
    rw [e (595 + 10 * i + 1 + f) (by omega)]
    refine h2 i i0 i1 ?_ f f0 f1
    have := e (595 + 10 * i) (by omega)
    unfold keptP at *
    omega
  · rw [h3, bitN_x (fun i i0 i1 => (e (595 + 10 * i) (by omega)))]
theorem repD_x {I : mM} {d : Nat} {t t' : Int → Int} (e : ∀ p, 6 ≤ p ∧ p ≤ 12 → t' p = t p) (e2 : ∀ k : Int, 0 ≤ k → k < 48 → t' (314 + 5 * k) = t (314 + 5 * k)) (h : repD I d t) : repD I d t' := by
  obtain ⟨h1, h2, h3, h4, h5⟩ := h
  refine ⟨?_, ?_, ?_, fun k k0 k1 => ?_, fun k k0 k1 => ?_⟩
  · rw [e 6 (by omega)]; exact h1
  · rw [e 7 (by omega)]; exact h2
  · rw [e 8 (by omega)]; exact h3
  · rw [e2 k k0 k1]; exact h4 k k0 k1
  · rw [e (9 + k) (by omega)]; exact h5 k k0 k1
theorem repS_x {I : mM} {b : Nat} {t t' : Int → Int} (hb : ∀ b : Int, 0 ≤ b → b < 6 → t (13 + b) ≤ 8) (e : ∀ q, 0 ≤ q → q < 635 → t' q = t q) (h : repS I b t) : repS I b t' :=
  ⟨repG_x hb (fun q z => e q (by omega) (by omega)) (fun k w k0 k1 w0 w1 => e _ (by omega) (by omega)) h.1, repQ_x (fun p z => e p (by omega) (by omega)) h.2.1, repD_x (fun p z => e p (by omega) (by omega)) (fun k k0 k1 => e _ (by omega) (by omega)) h.2.2⟩
theorem WFt.c8 {t : Int → Int} (H : WFt t) : ∀ b : Int, 0 ≤ b → b < 6 → t (13 + b) ≤ 8 := fun b b0 b1 => (H.2.1 b b0 b1).2
/-- the invariant behind a method that changes the state -/
theorem LI_st {fl : Nat → Bool} {I K : mM} (H : LI fl I) (hc : clsI K) (hb : ∀ i, (30 ≤ i ∧ i ≤ 87) ∨ i = 101 ∨ (170 ≤ i ∧ i ≤ 177) ∨ (202 ≤ i ∧ i ≤ 204) ∨ (216 ≤ i ∧ i ≤ 218) → K i = I i) (h100 : K 100 = I 100) (h0 : K 0 13 = I 0 13 ∧ K 0 14 = I 0 14) (h200 : ∀ p : Int, p = 6 ∨ p = 11 ∨ p = 14 ∨ p = 15 ∨ p = 16 ∨ p = 17 → K 200 p = I 200 p) : LI fl K := by
  obtain ⟨h1, h2, n1, n4, n5, n6, n7⟩ := H
  refine ⟨hc, LIb_of hb h2, ?_, ?_, ?_, ?_, ?_⟩
  · rw [h100, h200 6 (by omega)]; exact n1
  · rw [h100, h200 14 (by omega), h200 15 (by omega)]; exact n4
  · rw [h200 11 (by omega)]; exact n5
  · rw [h200 16 (by omega), h0.1]; exact n6
  · rw [h200 17 (by omega), h0.2]; exact n7
end LST
section LST2
/-- the fielders' numbers change -/
theorem clsI_f {I K : mM} (H : clsI I) (hG : ∀ i, (11 ≤ i ∧ i ≤ 19) ∨ (25 ≤ i ∧ i ≤ 27) → K i = I i) (ne : ∀ q, ¬ (550 ≤ q ∧ q < 595) → K 201 q = I 201 q)
    (hf : ∀ g : Int, 0 ≤ g → g < 9 → (K 20 g = K 201 (550 + 5 * g) ∧ K 21 g = K 201 (551 + 5 * g) ∧ K 22 g = K 201 (552 + 5 * g) ∧ K 23 g = K 201 (553 + 5 * g) ∧ K 24 g = K 201 (554 + 5 * g)) ∧ (-1 ≤ K 201 (550 + 5 * g) ∧ K 201 (550 + 5 * g) ≤ 288) ∧ (1 ≤ K 201 (551 + 5 * g) ∧ K 201 (551 + 5 * g) ≤ 9) ∧ (0 ≤ K 201 (552 + 5 * g) ∧ K 201 (552 + 5 * g) ≤ 100) ∧ (0 ≤ K 201 (553 + 5 * g) ∧ K 201 (553 + 5 * g) ≤ 50) ∧ (0 ≤ K 201 (554 + 5 * g) ∧ K 201 (554 + 5 * g) ≤ 9)) : clsI K := by
  obtain ⟨hw, hg, hq, hd⟩ := H
  refine ⟨WFt_f hw ne (fun g g0 g1 => (hf g g0 g1).2), ?_, ?_, ?_⟩
  · exact repG_x hw.c8 (fun q z => ne q (by omega)) (fun k w k0 k1 w0 w1 => ne _ (by omega)) (repG_of (fun i i0 i1 => hG i (by omega)) hg)
  · obtain ⟨h1, h2, h3⟩ := hq
    refine ⟨fun g g0 g1 => ?_, fun i i0 i1 hk f f0 f1 => ?_, ?_⟩
    · obtain ⟨p0, p1, p2, p3, p4⟩ := (hf g g0 g1).1
      unfold stT pcT hdT prT amT
      rw [show 550 + 5 * g + 1 = 551 + 5 * g by omega, show 550 + 5 * g + 2 = 552 + 5 * g by omega, show 550 + 5 * g + 3 = 553 + 5 * g by omega, show 550 + 5 * g + 4 = 554 + 5 * g by omega]
      exact ⟨p0, p1, p2, p3, p4⟩
    · rw [hG (12 + 13) (by omega)]
      unfold keptS
      rw [ne _ (by omega)]
      refine h2 i i0 i1 ?_ f f0 f1
      have := ne (595 + 10 * i) (by omega)
      unfold keptP at *
      omega
    · rw [hG 12 (by omega), h3, bitN_x (fun i i0 i1 => (ne (595 + 10 * i) (by omega)))]
  · exact repD_x (fun p z => ne p (by omega)) (fun k k0 k1 => ne _ (by omega)) (repD_of (fun i i0 => hG i (by omega)) hd)
theorem stR_in {t s : Int → Int} {g : Int} (h : 0 ≤ g ∧ g < 9) : stR t s (550 + 5 * g) = s g := by
  unfold stR
  rw [if_pos (by omega)]
  congr 1; omega
theorem stR_no {t s : Int → Int} {q : Int} (h : ¬ (550 ≤ q ∧ q < 595 ∧ (q - 550) % 5 = 0)) : stR t s q = t q := if_neg h
/-- STANDS changes -/
theorem clsI_s {I K : mM} (s : Int → Int) (H : clsI I) (hG : ∀ i, (11 ≤ i ∧ i ≤ 27) → i ≠ 20 → K i = I i) (e : K 201 = stR (I 201) s) (h20 : ∀ g : Int, 0 ≤ g → g < 9 → K 20 g = s g) (hs : ∀ g : Int, 0 ≤ g → g < 9 → -1 ≤ s g ∧ s g ≤ 288) : clsI K := by
  refine clsI_f H (fun i hi => hG i (by omega) (by omega)) (fun q hq => by rw [e, stR_no (by omega)]) (fun g g0 g1 => ?_)
  have hw := H.1.2.2.2.2.2.1 g g0 g1
  obtain ⟨p0, p1, p2, p3, p4⟩ := H.2.2.1.1 g g0 g1
  unfold stT at p0
  unfold pcT at p1
  unfold hdT at p2
  unfold prT at p3
  unfold amT at p4
  rw [show 550 + 5 * g + 1 = 551 + 5 * g by omega] at p1
  rw [show 550 + 5 * g + 2 = 552 + 5 * g by omega] at p2
  rw [show 550 + 5 * g + 3 = 553 + 5 * g by omega] at p3
  rw [show 550 + 5 * g + 4 = 554 + 5 * g by omega] at p4
  rw [e, stR_in ⟨g0, g1⟩, stR_no (by omega), stR_no (by omega), stR_no (by omega), stR_no (by omega), hG 21 (by omega) (by omega), hG 22 (by omega) (by omega), hG 23 (by omega) (by omega), hG 24 (by omega) (by omega)]
  exact ⟨⟨h20 g g0 g1, p1, p2, p3, p4⟩, hs g g0 g1, hw.2⟩
/-- the batter, the captain -/
theorem clsI_d {I K : mM} (H : clsI I) (hG : ∀ i, (11 ≤ i ∧ i ≤ 27) → i ≠ 13 → K i = I i) (ne : ∀ q, q ≠ 6 → q ≠ 7 → q ≠ 8 → K 201 q = I 201 q) (h : K 13 0 = K 201 6 ∧ K 13 1 = K 201 7 ∧ K 13 2 = K 201 8)
    (h6 : 0 ≤ K 201 6 ∧ K 201 6 ≤ 4) (h7 : 0 ≤ K 201 7 ∧ K 201 7 ≤ 100) (h8 : 0 ≤ K 201 8 ∧ K 201 8 ≤ 1) : clsI K := by
  obtain ⟨hw, hg, hq, hd⟩ := H
  refine ⟨WFt_n hw ne h6 h7 h8, ?_, ?_, ?_⟩
  · obtain ⟨a1, a2, a3, a4⟩ := repG_x hw.c8 (fun q z => ne q (by omega) (by omega) (by omega)) (fun k w k0 k1 w0 w1 => ne _ (by omega) (by omega) (by omega)) hg
    refine ⟨?_, ?_, ?_, ?_⟩
    · rw [hG 11 (by omega) (by omega)]; exact a1
    · rw [hG (11 + 3) (by omega) (by omega)]; exact a2
    · rw [hG (11 + 4) (by omega) (by omega)]; exact a3
    · rw [hG (11 + 5) (by omega) (by omega), hG (11 + 6) (by omega) (by omega), hG (11 + 7) (by omega) (by omega), hG (11 + 8) (by omega) (by omega)]; exact a4
  · have a := repQ_x (fun p z => ne p (by omega) (by omega) (by omega)) hq
    obtain ⟨a1, a2, a3⟩ := a
    refine ⟨?_, ?_, ?_⟩
    · rw [hG (12 + 8) (by omega) (by omega), hG (12 + 9) (by omega) (by omega), hG (12 + 10) (by omega) (by omega), hG (12 + 11) (by omega) (by omega), hG (12 + 12) (by omega) (by omega)]; exact a1
    · rw [hG (12 + 13) (by omega) (by omega)]; exact a2
    · rw [hG 12 (by omega) (by omega)]; exact a3
  · obtain ⟨-, -, -, h4, h5⟩ := hd
    refine ⟨h.1, h.2.1, h.2.2, fun k k0 k1 => ?_, fun k k0 k1 => ?_⟩
    · rw [hG (13 + 13) (by omega) (by omega), ne _ (by omega) (by omega) (by omega)]; exact h4 k k0 k1
    · rw [hG (13 + 14) (by omega) (by omega), ne _ (by omega) (by omega) (by omega)]; exact h5 k k0 k1
/-- a HIT's number in the book -/
theorem clsI_b {I K : mM} (H : clsI I) (hG : ∀ i, (11 ≤ i ∧ i ≤ 27) → i ≠ 26 → K i = I i) (ne : ∀ q, ¬ (310 ≤ q ∧ q < 550 ∧ q % 5 = 4) → K 201 q = I 201 q) (h : ∀ k : Int, 0 ≤ k → k < 48 → K 26 k = K 201 (314 + 5 * k) ∧ 0 ≤ K 201 (314 + 5 * k) ∧ K 201 (314 + 5 * k) ≤ 9999) : clsI K := by
  obtain ⟨hw, hg, hq, hd⟩ := H
  refine ⟨WFt_h hw (fun q z => ne q (by omega)) (fun k k0 k1 => ?_) (fun b h b0 b1 h0 h1 => ?_), ?_, ?_, ?_⟩
  · have := hw.2.2.2.1 k k0 k1
    rw [ne (310 + 5 * k) (by omega), ne (311 + 5 * k) (by omega), ne (312 + 5 * k) (by omega), ne (313 + 5 * k) (by omega)]
    exact ⟨this.1, this.2.1, this.2.2.1, this.2.2.2.1, (h k k0 k1).2⟩
  · rw [ne _ (by omega)]
    exact hw.2.2.2.2.1 b h b0 b1 h0 h1
  · exact repG_x hw.c8 (fun q z => ne q (by omega)) (fun k w k0 k1 w0 w1 => ne _ (by omega)) (repG_of (fun i i0 i1 => hG i (by omega) (by omega)) hg)
  · exact repQ_x (fun p z => ne p (by omega)) (repQ_of (fun i i0 => hG i (by omega) (by omega)) hq)
  · obtain ⟨h1, h2, h3, h4, h5⟩ := hd
    refine ⟨?_, ?_, ?_, fun k k0 k1 => (h k k0 k1).1, fun k k0 k1 => ?_⟩
    · rw [hG 13 (by omega) (by omega), ne _ (by omega)]; exact h1
    · rw [hG 13 (by omega) (by omega), ne _ (by omega)]; exact h2
    · rw [hG 13 (by omega) (by omega), ne _ (by omega)]; exact h3
    · rw [hG (13 + 14) (by omega) (by omega), ne _ (by omega)]; exact h5 k k0 k1
/-- weights -/
theorem clsI_w {I K : mM} (H : clsI I) (hG : ∀ i, (11 ≤ i ∧ i ≤ 27) → i ≠ 19 → K i = I i) (ne : ∀ q, ¬ (310 ≤ q ∧ q < 550 ∧ q % 5 = 3) → K 201 q = I 201 q)
    (h0 : ∀ k : Int, 0 ≤ k → k < 48 → 0 ≤ K 201 (313 + 5 * k) ∧ K 201 (313 + 5 * k) ≤ 99) (h : ∀ b h : Int, 0 ≤ b → b < 6 → 0 ≤ h → h < I 201 (13 + b) → K 19 (8 * b + h) = K 201 (313 + 5 * (8 * b + h)) ∧ 1 ≤ K 201 (313 + 5 * (8 * b + h))) : clsI K := by
  obtain ⟨hw, hg, hq, hd⟩ := H
  refine ⟨WFt_h hw (fun q z => ne q (by omega)) (fun k k0 k1 => ?_) (fun b x b0 b1 x0 x1 => (h b x b0 b1 x0 x1).2), ?_, ?_, ?_⟩
  · have := hw.2.2.2.1 k k0 k1
    rw [ne (310 + 5 * k) (by omega), ne (311 + 5 * k) (by omega), ne (312 + 5 * k) (by omega), ne (314 + 5 * k) (by omega)]
    exact ⟨this.1, this.2.1, this.2.2.1, h0 k k0 k1, this.2.2.2.2⟩
  · obtain ⟨h1, h2, h3, h4⟩ := hg
    refine ⟨fun k k0 k1 => ?_, fun k k0 k1 => ?_, fun k k0 k1 => ?_, fun b x b0 b1 x0 xlt => ?_⟩
    · rw [hG 11 (by omega) (by omega), ne _ (by omega)]; exact h1 k k0 k1
    · rw [hG (11 + 3) (by omega) (by omega), ne _ (by omega)]; exact h2 k k0 k1
    · rw [hG (11 + 4) (by omega) (by omega), ne _ (by omega)]; exact h3 k k0 k1
    · rw [ne _ (by omega)] at xlt
      have hb8 := hw.c8 b b0 b1
      obtain ⟨p0, p1, p2, p3⟩ := h4 b x b0 b1 x0 xlt
      have p4 := (h b x b0 b1 x0 xlt).1
      rw [hG (11 + 5) (by omega) (by omega), hG (11 + 6) (by omega) (by omega), hG (11 + 7) (by omega) (by omega)]
      unfold rawT at *
      rw [ne _ (by omega), ne _ (by omega), ne _ (by omega), show 310 + 5 * (8 * b + x) + 3 = 313 + 5 * (8 * b + x) by omega]
      exact ⟨p0, p1, p2, p4⟩
  · exact repQ_x (fun p z => ne p (by omega)) (repQ_of (fun i i0 => hG i (by omega) (by omega)) hq)
  · exact repD_x (fun p z => ne p (by omega)) (fun k k0 k1 => ne _ (by omega)) (repD_of (fun i i0 => hG i (by omega) (by omega)) hd)
end LST2
section LST3
theorem S_fielder {fl : Nat → Bool} {I : mM} {f p a r m : Int} (H : LI fl I) (mf : mrg f) (mp : mrg p) (ma : mrg a) (mr : mrg r) (mm : mrg m) (hf : fldP f) (hc : (1 ≤ p ∧ p ≤ 9) ∧ (0 ≤ a ∧ a ≤ 100) ∧ (0 ≤ r ∧ r ≤ 50) ∧ (0 ≤ m ∧ m ≤ 9)) :
    spX11_fielder fl [mR (some 200), mI f, mI p, mI a, mI r, mI m] (mSet (mSet (mSet (mSet I 21 f p) 22 f a) 23 f r) 24 f m) (qV fl 0) := by
  refine ⟨rfl, mf, mp, ma, mr, mm, fun h => absurd hf h, fun _ h => absurd hc h, fun _ _ => ?_⟩
  refine ⟨rfl, by simp [mSet_ap], LI_st H (clsI_f H.1 (fun i hi => (by repeat rw [set_ne (by omega)])) (fun q hq => ?_) (fun g g0 g1 => ?_)) (fun i hi => (by repeat rw [set_ne (by omega)])) (by repeat rw [set_ne (by decide)]) ⟨by repeat rw [set_ne (by decide)], by repeat rw [set_ne (by decide)]⟩ (fun q hq => (by repeat (first | rw [set_ne (by decide)] | rw [set_nq (by omega)])))⟩
  · rw [set_nq (by omega), set_nq (by omega), set_nq (by omega), set_nq (by omega)]
    repeat rw [set_ne (by decide)]
  · have hw := H.1.1.2.2.2.2.2.1 g g0 g1
    obtain ⟨p0, p1, p2, p3, p4⟩ := H.1.2.2.1.1 g g0 g1
    unfold stT at p0
    unfold pcT at p1
    unfold hdT at p2
    unfold prT at p3
    unfold amT at p4
    rw [show 550 + 5 * g + 1 = 551 + 5 * g by omega] at p1
    rw [show 550 + 5 * g + 2 = 552 + 5 * g by omega] at p2
    rw [show 550 + 5 * g + 3 = 553 + 5 * g by omega] at p3
    rw [show 550 + 5 * g + 4 = 554 + 5 * g by omega] at p4
    by_cases e : g = f
    · subst e
      simp only [mSet_ap, Nat.reduceEqDiff, false_and, if_false, true_and]
      rw [if_neg (by omega), if_neg (by omega), if_neg (by omega), if_neg (by omega), if_pos trivial, if_neg (by omega), if_neg (by omega), if_neg (by omega), if_pos (by omega), if_pos trivial, if_neg (by omega), if_neg (by omega), if_pos (by omega), if_pos trivial, if_neg (by omega), if_pos (by omega), if_pos trivial, if_pos (by omega)]
      exact ⟨⟨p0, rfl, rfl, rfl, rfl⟩, hw.1, hc.1, hc.2.1, hc.2.2.1, hc.2.2.2⟩
    · simp only [mSet_ap, Nat.reduceEqDiff, false_and, if_false, true_and]
      repeat rw [if_neg (by omega)]
      exact ⟨⟨p0, p1, p2, p3, p4⟩, hw⟩
theorem S_stand {fl : Nat → Bool} {I : mM} {f c : Int} (H : LI fl I) (mf : mrg f) (mc : mrg c) (hf : fldP f) (hc : -1 ≤ c ∧ c < 289) : spX11_stand fl [mR (some 200), mI f, mI c] (mSet (mSet I 20 f c) 230 0 (wI (I 20 f))) (qI fl 0) := by
  refine ⟨rfl, mf, mc, fun h => absurd hf h, fun _ h => absurd hc h, fun _ _ => ?_⟩
  refine ⟨_, rfl, by simp [mSet_ap], fun _ => ?_, LI_st H (clsI_f H.1 (fun i hi => (by repeat rw [set_ne (by omega)])) (fun q hq => ?_) (fun g g0 g1 => ?_)) (fun i hi => (by repeat rw [set_ne (by omega)])) (by repeat rw [set_ne (by decide)]) ⟨by repeat rw [set_ne (by decide)], by repeat rw [set_ne (by decide)]⟩ (fun q hq => (by repeat (first | rw [set_ne (by decide)] | rw [set_nq (by omega)])))⟩
  · rw [set_ne (by decide), set_ne (by decide), set_eq, set_ne (by decide), set_ne (by decide), (H.1.2.2.1.1 f hf.1 hf.2).1]
  · rw [set_nq (by omega)]
    repeat rw [set_ne (by decide)]
  · have hw := H.1.1.2.2.2.2.2.1 g g0 g1
    obtain ⟨p0, p1, p2, p3, p4⟩ := H.1.2.2.1.1 g g0 g1
    unfold stT at p0
    unfold pcT at p1
    unfold hdT at p2
    unfold prT at p3
    unfold amT at p4
    rw [show 550 + 5 * g + 1 = 551 + 5 * g by omega] at p1
    rw [show 550 + 5 * g + 2 = 552 + 5 * g by omega] at p2
    rw [show 550 + 5 * g + 3 = 553 + 5 * g by omega] at p3
    rw [show 550 + 5 * g + 4 = 554 + 5 * g by omega] at p4
    by_cases e : g = f
    · subst e
      simp only [mSet_ap, Nat.reduceEqDiff, false_and, if_false, true_and]
      rw [if_pos trivial, if_pos trivial, if_neg (by omega), if_neg (by omega), if_neg (by omega), if_neg (by omega)]
      exact ⟨⟨rfl, p1, p2, p3, p4⟩, ⟨hc.1, by omega⟩, hw.2⟩
    · simp only [mSet_ap, Nat.reduceEqDiff, false_and, if_false, true_and]
      repeat rw [if_neg (by omega)]
      exact ⟨⟨p0, p1, p2, p3, p4⟩, hw⟩
theorem S_batter {fl : Nat → Bool} {I : mM} {k s : Int} (H : LI fl I) (mk0 : mrg k) (ms : mrg s) (hc : (0 ≤ k ∧ k ≤ 4) ∧ (0 ≤ s ∧ s ≤ 100)) : spX11_batter fl [mR (some 200), mI k, mI s] (mSet (mSet I 13 0 k) 13 1 s) (qV fl 0) := by
  refine ⟨rfl, mk0, ms, fun h => absurd hc h, fun _ => ?_⟩
  have hd := H.1.2.2.2
  have hw := H.1.1.1
  refine ⟨rfl, by simp [mSet_ap], LI_st H (clsI_d H.1 (fun i hi hn => (by repeat rw [set_ne (by omega)])) (fun q h6 h7 h8 => ?_) ⟨?_, ?_, ?_⟩ ?_ ?_ ?_) (fun i hi => (by repeat rw [set_ne (by omega)])) (by repeat rw [set_ne (by decide)]) ⟨by repeat rw [set_ne (by decide)], by repeat rw [set_ne (by decide)]⟩ (fun q hq => (by repeat (first | rw [set_ne (by decide)] | rw [set_nq (by omega)])))⟩
  · rw [set_nq (by omega), set_nq (by omega)]
    repeat rw [set_ne (by decide)]
  · simp [mSet_ap]
  · simp [mSet_ap]
  · have := hd.2.2.1
    simp [mSet_ap, this]
  · simp [mSet_ap]; exact hc.1
  · simp [mSet_ap]; exact hc.2
  · simp [mSet_ap]; exact hw.2.2.2.2.2.2.2.2
theorem S_chase {fl : Nat → Bool} {I : mM} {n : Int} (H : LI fl I) (hn : n = 0 ∨ n = 1) : spX11_chase fl [mR (some 200), mI n] (mSet I 13 2 n) (qD fl (I 13 2)) := by
  have hd := H.1.2.2.2
  have hw := H.1.1.1
  have e1 : (mSet I 13 2 n) 201 = I 201 := set_ne (by decide)
  refine ⟨rfl, by rw [e1]; exact H.1.1, hn, ?_⟩
  refine ⟨_, rfl, by rw [e1]; exact hd.2.2.1, LI_st H (clsI_d H.1 (fun i hi hn => (by repeat rw [set_ne (by omega)])) (fun q h6 h7 h8 => ?_) ⟨?_, ?_, ?_⟩ ?_ ?_ ?_) (fun i hi => (by repeat rw [set_ne (by omega)])) (by repeat rw [set_ne (by decide)]) ⟨by repeat rw [set_ne (by decide)], by repeat rw [set_ne (by decide)]⟩ (fun q hq => (by repeat (first | rw [set_ne (by decide)] | rw [set_nq (by omega)])))⟩
  · rw [set_nq (by omega)]
    repeat rw [set_ne (by decide)]
  · have := hd.1
    simp [mSet_ap, this]
  · have := hd.2.1
    simp [mSet_ap, this]
  · simp [mSet_ap]
  · simp [mSet_ap]; exact hw.2.2.2.2.2.2.1
  · simp [mSet_ap]; exact hw.2.2.2.2.2.2.2.1
  · simp [mSet_ap]; omega
theorem S_book {fl : Nat → Bool} {I : mM} {b h m : Int} (H : LI fl I) (mb : mrg b) (mh : mrg h) (mm : mrg m) (hh : hitP (I 201) b h) (hm : 0 ≤ m ∧ m ≤ 9999) : spX11_book fl [mR (some 200), mI b, mI h, mI m] (mSet (mSet I 26 (8 * b + h) (min 9999 (rawT (I 201) b h 4 + m))) 230 0 (wI (min 9999 (rawT (I 201) b h 4 + m)))) (qI fl 0) := by
  have e1 : (mSet (mSet I 26 (8 * b + h) (min 9999 (rawT (I 201) b h 4 + m))) 230 0 (wI (min 9999 (rawT (I 201) b h 4 + m)))) 201 = I 201 := by rw [set_ne (by decide), set_ne (by decide)]
  refine ⟨rfl, by rw [e1]; exact H.1.1, mb, mh, mm, fun z => absurd (by rw [e1]; exact hh) z, fun _ z => absurd hm z, fun _ _ => ?_⟩
  rw [e1]
  have hb8 := H.1.1.c8 b hh.1 hh.2.1
  have hr := (H.1.1.raw ⟨hh.1, hh.2.1⟩ (h := h) ⟨hh.2.2.1, by omega⟩)
  have hw := H.1.1.2.2.2.1
  have hd := H.1.2.2.2.2.2.2.1
  have hk : 0 ≤ 8 * b + h ∧ 8 * b + h < 48 := by omega
  have hv : 0 ≤ min 9999 (rawT (I 201) b h 4 + m) ∧ min 9999 (rawT (I 201) b h 4 + m) ≤ 9999 := by
    have := (hw (8 * b + h) hk.1 hk.2).2.2.2.2
    unfold rawT
    rw [show 310 + 5 * (8 * b + h) + 4 = 314 + 5 * (8 * b + h) by omega]
    omega
  generalize min 9999 (rawT (I 201) b h 4 + m) = v at hv ⊢
  refine ⟨_, rfl, by simp [mSet_ap], fun _ => by simp [mSet_ap], LI_st H (clsI_b H.1 (fun i hi hn => (by repeat rw [set_ne (by omega)])) (fun q hq => ?_) (fun k k0 k1 => ?_)) (fun i hi => (by repeat rw [set_ne (by omega)])) (by repeat rw [set_ne (by decide)]) ⟨by repeat rw [set_ne (by decide)], by repeat rw [set_ne (by decide)]⟩ (fun q hq => (by repeat (first | rw [set_ne (by decide)] | rw [set_nq (by omega)])))⟩
  · rw [set_nq (by omega)]
    repeat rw [set_ne (by decide)]
  · have h1 := hd k k0 k1
    have h2 := (hw k k0 k1).2.2.2.2
    by_cases e : k = 8 * b + h
    · subst e
      simp only [mSet_ap, Nat.reduceEqDiff, false_and, if_false, true_and]
      rw [if_pos trivial, if_pos (by omega)]
      exact ⟨rfl, hv⟩
    · simp only [mSet_ap, Nat.reduceEqDiff, false_and, if_false, true_and]
      repeat rw [if_neg (by omega)]
      exact ⟨h1, h2⟩
end LST3
section LST4
theorem rowM_at (J : mM) (t : Int → Int) : rowM J t 201 = t := by
  funext q; exact if_pos rfl
theorem rowM_nt (J : mM) (t : Int → Int) {k : Nat} (h : k ≠ 201) : rowM J t k = J k := by
  funext q; exact if_neg h
/-- only STANDS differs -/
def stO (t t' : Int → Int) : Prop := (∀ q, ¬ (550 ≤ q ∧ q < 595 ∧ (q - 550) % 5 = 0) → t' q = t q) ∧ ∀ g : Int, 0 ≤ g → g < 9 → -1 ≤ t' (550 + 5 * g) ∧ t' (550 + 5 * g) ≤ 288
theorem stO_put {t t' : Int → Int} (h : stO t t') {f c : Int} (hf : 0 ≤ f ∧ f < 9) (hc : -1 ≤ c ∧ c ≤ 288) : stO t (putT t' f c) := by
  refine ⟨fun q hq => ?_, fun g g0 g1 => ?_⟩
  · unfold putT
    rw [if_neg (by omega)]; exact h.1 q hq
  · unfold putT
    by_cases e : g = f
    · subst e; rw [if_pos rfl]; exact hc
    · rw [if_neg (by omega)]; exact h.2 g g0 g1
theorem setGo_st (b most : Int) {t0 : Int → Int} : ∀ (n : Nat) (t : Int → Int) (m s f : Int), stO t0 t → 0 ≤ f → f < 9 → stO t0 (setGo b most n t m s f).1
  | 0, t, m, s, f, h, f0, f1 => h
  | n + 1, t, m, s, f, h, f0, f1 => by
    simp only [setGo]
    split
    · split
      · exact setGo_st b most n _ _ _ _ h (by omega) (by omega)
      · refine setGo_st b most n _ _ _ _ (stO_put h ⟨f0, f1⟩ ?_) (by omega) (by omega)
        have := oneT_bd t f b 0
        omega
    · exact h
theorem stO_row {t t' : Int → Int} (h : stO t t') : t' = stR t (stT t') := by
  funext q
  unfold stR
  split
  · rename_i z
    unfold stT
    congr 1; omega
  · rename_i z
    exact h.1 q z
theorem S_settle {fl : Nat → Bool} {I I' : mM} {b m : Int} (H : LI fl I) (mb : mrg b) (mm : mrg m) (hb : ballP b) (hm : 0 ≤ m ∧ m ≤ 50) (h1 : ∀ i, i ≠ 20 → ¬ ((3 ≤ i ∧ i ≤ 7) ∨ (120 ≤ i ∧ i ≤ 163)) → I' i = I i) (h2 : ∀ g : Int, 0 ≤ g → g < 9 → I' 20 g = stT (settleT (I 201) b m).1 g) :
    spX11_settle fl [mR (some 200), mI b, mI m] (mSet I' 230 0 (wI (settleT (I 201) b m).2)) (qI fl 0) := by
  have e1 : (mSet I' 230 0 (wI (settleT (I 201) b m).2)) 201 = I 201 := by rw [set_ne (by decide), h1 201 (by decide) (by decide)]
  refine ⟨rfl, by rw [e1]; exact H.1.1, mb, mm, fun h => absurd hb h, fun _ h => absurd hm h, fun _ _ w => ?_⟩
  rw [e1]
  have ho : stO (I 201) (settleT (I 201) b m).1 := setGo_st b m _ _ _ _ _ ⟨fun _ _ => rfl, H.1.1.st⟩ (by omega) (by omega)
  have e5 := stO_row ho
  generalize settleT (I 201) b m = T at h2 ho e5 ⊢
  have k1 : ∀ i, i ≠ 20 → i ≠ 200 → i ≠ 201 → i ≠ 230 → ¬ ((3 ≤ i ∧ i ≤ 7) ∨ (120 ≤ i ∧ i ≤ 163)) → wM (mSet (mSet I' 230 0 (wI T.2)) 200 3 0) T.1 w i = I i := fun i a b c d e => by
    unfold wM
    rw [set_ne b, rowM_nt _ _ c, set_ne b, set_ne d, h1 i a e]
  have k2 : wM (mSet (mSet I' 230 0 (wI T.2)) 200 3 0) T.1 w 201 = T.1 := by
    unfold wM
    rw [set_ne (by decide), rowM_at]
  have k3 : wM (mSet (mSet I' 230 0 (wI T.2)) 200 3 0) T.1 w 20 = I' 20 := by
    unfold wM
    rw [set_ne (by decide), rowM_nt _ _ (by decide), set_ne (by decide), set_ne (by decide)]
  have k4 : wM (mSet (mSet I' 230 0 (wI T.2)) 200 3 0) T.1 w 200 3 = 0 := by
    unfold wM
    rw [set_nq (by decide), rowM_nt _ _ (by decide), set_eq]
  have k5 : wM (mSet (mSet I' 230 0 (wI T.2)) 200 3 0) T.1 w 230 0 = wI T.2 := by
    unfold wM
    rw [set_ne (by decide), rowM_nt _ _ (by decide), set_ne (by decide), set_eq]
  have k6 : ∀ p : Int, p = 6 ∨ p = 11 ∨ p = 14 ∨ p = 15 ∨ p = 16 ∨ p = 17 → wM (mSet (mSet I' 230 0 (wI T.2)) 200 3 0) T.1 w 200 p = I 200 p := fun p hp => by
    unfold wM
    rw [set_nq (by omega), rowM_nt _ _ (by decide), set_nq (by omega), set_ne (by decide), h1 200 (by decide) (by decide)]
  generalize wM (mSet (mSet I' 230 0 (wI T.2)) 200 3 0) T.1 w = K at k1 k2 k3 k4 k5 k6 ⊢
  exact ⟨_, rfl, k4, fun _ => k5, LI_st H (clsI_s (stT T.1) H.1 (fun i hi hn => k1 i hn (by omega) (by omega) (by omega) (by omega)) (k2.trans e5) (fun g g0 g1 => by rw [k3]; exact h2 g g0 g1) ho.2) (fun i hi => k1 i (by omega) (by omega) (by omega) (by omega) (by omega)) (k1 100 (by decide) (by decide) (by decide) (by decide) (by decide)) (by rw [k1 0 (by decide) (by decide) (by decide) (by decide) (by decide)]; exact ⟨rfl, rfl⟩) k6⟩
theorem S_pour {fl : Nat → Bool} {I : mM} {t : Int} (H : LI fl I) (mt : mrg t) (ht : trayP t) (hf : fl (3 + t.toNat) = true) (hp : pourC I t.toNat) :
    spX11_pour fl [mR (some 200), mI t] (mSet (copyM I 20 0 (I (171 + 2 * t.toNat)) (I (170 + 2 * t.toNat) 1)) 230 0 (wI (I (170 + 2 * t.toNat) 1))) (qI fl 0) := by
  obtain ⟨q1, q2⟩ := H.2.1.2.2.1 t.toNat (by omega)
  obtain ⟨q3, q4, q5⟩ := q2 hf
  have et : (t.toNat : Int) = t := by omega
  rw [et] at q1 q3 q4 q5
  have kJ : ∀ i, i ≠ 20 → i ≠ 230 → (mSet (copyM I 20 0 (I (171 + 2 * t.toNat)) (I (170 + 2 * t.toNat) 1)) 230 0 (wI (I (170 + 2 * t.toNat) 1))) i = I i := fun i a b => by
    rw [set_ne b]
    funext q
    exact if_neg (fun z => a z.1)
  have kJ2 : (mSet (copyM I 20 0 (I (171 + 2 * t.toNat)) (I (170 + 2 * t.toNat) 1)) 230 0 (wI (I (170 + 2 * t.toNat) 1))) 20 = fun q => if 0 ≤ q ∧ q < 0 + I (170 + 2 * t.toNat) 1 then I (171 + 2 * t.toNat) (q - 0) else I 20 q := by
    rw [set_ne (by decide)]
    funext q
    simp only [copyM, true_and]
  have kJ3 : (mSet (copyM I 20 0 (I (171 + 2 * t.toNat)) (I (170 + 2 * t.toNat) 1)) 230 0 (wI (I (170 + 2 * t.toNat) 1))) 230 0 = wI (I (170 + 2 * t.toNat) 1) := set_eq
  obtain ⟨p1, p2⟩ := hp
  generalize (mSet (copyM I 20 0 (I (171 + 2 * t.toNat)) (I (170 + 2 * t.toNat) 1)) 230 0 (wI (I (170 + 2 * t.toNat) 1))) = J at kJ kJ2 kJ3 ⊢
  have e216 := kJ 216 (by decide) (by decide)
  have e217 := kJ 217 (by decide) (by decide)
  have e218 := kJ 218 (by decide) (by decide)
  have e201 := kJ 201 (by decide) (by decide)
  have tw : trW J := by
    unfold trW
    rw [e216, e217, e218]; exact H.2.1.2.1
  have hpp : pourP J t := by
    unfold pourP
    rw [e217, e218, ← q4]
    refine ⟨p1, fun k k0 k1 => ?_⟩
    rw [← q5 k k0 (by omega)]
    have := p2 k k0 k1
    omega
  refine ⟨rfl, tw, mt, fun h => absurd ht h, fun _ h => absurd h (by rw [e216]; exact q1.mp hf), fun _ _ h => absurd hpp h, fun _ _ _ => ?_⟩
  have hst := H.1.1.st
  have n1 := (H.2.1.2.1.1 t ht.1 ht.2).2
  have ps : ∀ g : Int, 0 ≤ g → g < 9 → pourS J t (J 217 t) g = J 20 g ∧ -1 ≤ pourS J t (J 217 t) g ∧ pourS J t (J 217 t) g ≤ 288 := fun g g0 g1 => by
    unfold pourS
    rw [e217, e218, e201, kJ2, ← q4]
    dsimp only
    by_cases z : g < I (170 + 2 * t.toNat) 1
    · rw [if_pos z, if_pos (by omega), ← q5 g g0 (by omega)]
      have := p2 g g0 z
      rw [show g - 0 = g by omega]
      exact ⟨rfl, this.1, by omega⟩
    · rw [if_neg z, if_neg (by omega)]
      exact ⟨((H.1.2.2.1.1 g g0 g1).1).symm, (hst g g0 g1)⟩
  have k1 : ∀ i, i ≠ 20 → i ≠ 200 → i ≠ 201 → i ≠ 230 → rowM (mSet J 200 3 0) (stR (J 201) (pourS J t (J 217 t))) i = I i := fun i a b c d => by
    rw [rowM_nt _ _ c, set_ne b, kJ i a d]
  have k3 : rowM (mSet J 200 3 0) (stR (J 201) (pourS J t (J 217 t))) 20 = J 20 := by rw [rowM_nt _ _ (by decide), set_ne (by decide)]
  have k4 : rowM (mSet J 200 3 0) (stR (J 201) (pourS J t (J 217 t))) 200 3 = 0 := by rw [rowM_nt _ _ (by decide), set_eq]
  have k5 : rowM (mSet J 200 3 0) (stR (J 201) (pourS J t (J 217 t))) 230 0 = wI (J 217 t) := by rw [rowM_nt _ _ (by decide), set_ne (by decide), kJ3, e217, q4]
  have k6 : ∀ p : Int, p = 6 ∨ p = 11 ∨ p = 14 ∨ p = 15 ∨ p = 16 ∨ p = 17 → rowM (mSet J 200 3 0) (stR (J 201) (pourS J t (J 217 t))) 200 p = I 200 p := fun p hp => by
    rw [rowM_nt _ _ (by decide), set_nq (by omega), kJ 200 (by decide) (by decide)]
  have k2 : rowM (mSet J 200 3 0) (stR (J 201) (pourS J t (J 217 t))) 201 = stR (I 201) (pourS J t (J 217 t)) := by rw [rowM_at, e201]
  refine ⟨_, rfl, k4, fun _ => k5, LI_st H (clsI_s (pourS J t (J 217 t)) H.1 (fun i hi hn => k1 i hn (by omega) (by omega) (by omega)) k2 (fun g g0 g1 => by rw [k3]; exact (ps g g0 g1).1.symm) (fun g g0 g1 => (ps g g0 g1).2)) (fun i hi => k1 i (by omega) (by omega) (by omega) (by omega)) (k1 100 (by decide) (by decide) (by decide) (by decide)) (by rw [k1 0 (by decide) (by decide) (by decide) (by decide)]; exact ⟨rfl, rfl⟩) k6⟩
theorem S_write {fl : Nat → Bool} {I : mM} {t p v : Int} (H : LI fl I) (mt : mrg t) (mp : mrg p) (mv : mrl v) (ht : trayP t) (hf : fl (3 + t.toNat) = true) (hp : 0 ≤ p) (hp2 : p < I (170 + 2 * t.toNat) 1) (hc : mrl (cutT (I (170 + 2 * t.toNat) 0) v)) :
    spX11_write fl [mR (some 200), mI t, mI p, mL v] (mSet (mSet I (171 + 2 * t.toNat) p (cutT (I (170 + 2 * t.toNat) 0) v)) 230 0 (cutT (I (170 + 2 * t.toNat) 0) v)) (qL fl 0) := by
  obtain ⟨q1, q2⟩ := H.2.1.2.2.1 t.toNat (by omega)
  obtain ⟨q3, q4, q5⟩ := q2 hf
  have et : (t.toNat : Int) = t := by omega
  rw [et] at q1 q3 q4 q5
  have kJ : ∀ i, i ≠ 171 + 2 * t.toNat → i ≠ 230 → (mSet (mSet I (171 + 2 * t.toNat) p (cutT (I (170 + 2 * t.toNat) 0) v)) 230 0 (cutT (I (170 + 2 * t.toNat) 0) v)) i = I i := fun i a b => by rw [set_ne b, set_ne a]
  have kJ2 : (mSet (mSet I (171 + 2 * t.toNat) p (cutT (I (170 + 2 * t.toNat) 0) v)) 230 0 (cutT (I (170 + 2 * t.toNat) 0) v)) (171 + 2 * t.toNat) = fun q => if q = p then cutT (I (170 + 2 * t.toNat) 0) v else I (171 + 2 * t.toNat) q := by
    rw [set_ne (by omega)]
    funext q
    simp only [mSet, true_and]
  have kJ3 : (mSet (mSet I (171 + 2 * t.toNat) p (cutT (I (170 + 2 * t.toNat) 0) v)) 230 0 (cutT (I (170 + 2 * t.toNat) 0) v)) 230 0 = cutT (I (170 + 2 * t.toNat) 0) v := set_eq
  rw [q3] at hc
  generalize (mSet (mSet I (171 + 2 * t.toNat) p (cutT (I (170 + 2 * t.toNat) 0) v)) 230 0 (cutT (I (170 + 2 * t.toNat) 0) v)) = J at kJ kJ2 kJ3 ⊢
  have e216 := kJ 216 (by omega) (by decide)
  have e217 := kJ 217 (by omega) (by decide)
  have e218 := kJ 218 (by omega) (by decide)
  have tw : trW J := by
    unfold trW
    rw [e216, e217, e218]; exact H.2.1.2.1
  refine ⟨rfl, tw, mt, mp, mv, fun h => absurd ht h, fun _ h => absurd h (by rw [e216]; exact q1.mp hf), fun _ _ h => absurd ⟨hp, by rw [e217, ← q4]; exact hp2⟩ h, fun _ _ _ => ?_⟩
  rw [e216]
  have n1 := (H.2.1.2.1.1 t ht.1 ht.2).2
  refine ⟨_, rfl, by rw [set_ne (by decide)]; exact set_eq, fun _ => by rw [set_ne (by decide), set_ne (by decide), kJ3, q3], ?_, ?_, ?_⟩
  · exact clsI_of (fun i hi => by rw [set_ne (by omega), set_ne (by omega), kJ i (by omega) (by omega)]) H.1
  · obtain ⟨b1, ⟨b2, b3⟩, b4, b5⟩ := H.2.1
    have kK : ∀ i, i ≠ 171 + 2 * t.toNat → i ≠ 230 → i ≠ 200 → i ≠ 218 → (mSet (mSet J 200 3 0) 218 (40 * t + p) (cutT (I 216 t) v)) i = I i := fun i a b c d => by rw [set_ne d, set_ne c, kJ i a b]
    refine ⟨?_, ⟨?_, fun q q0 q1 => ?_⟩, fun k hk => ⟨?_, fun hfk => ?_⟩, fun k hk => ?_⟩
    · rw [kK 101 (by omega) (by decide) (by decide) (by decide), kK 204 (by omega) (by decide) (by decide) (by decide)]; exact b1
    · rw [kK 216 (by omega) (by decide) (by decide) (by decide), kK 217 (by omega) (by decide) (by decide) (by decide)]; exact b2
    · simp only [mSet_ap, true_and]
      split
      · exact hc
      · simp only [Nat.reduceEqDiff, false_and, if_false]
        rw [e218]; exact b3 q q0 q1
    · rw [kK 216 (by omega) (by decide) (by decide) (by decide)]; exact (b4 k hk).1
    · obtain ⟨c1, c2, c3⟩ := (b4 k hk).2 hfk
      rw [kK 216 (by omega) (by decide) (by decide) (by decide), kK 217 (by omega) (by decide) (by decide) (by decide), kK (170 + 2 * k) (by omega) (by omega) (by omega) (by omega)]
      refine ⟨c1, c2, fun q q0 q1 => ?_⟩
      by_cases ek : k = t.toNat
      · subst ek
        rw [set_ne (i := 171 + 2 * t.toNat) (by omega), set_ne (by omega), kJ2]
        dsimp only
        simp only [mSet_ap, true_and]
        by_cases z : q = p
        · subst z
          rw [if_pos rfl, if_pos (by omega), q3]
        · rw [if_neg z, if_neg (by omega)]
          simp only [Nat.reduceEqDiff, false_and, if_false]
          rw [e218]; exact c3 q q0 q1
      · rw [kK (171 + 2 * k) (by omega) (by omega) (by omega) (by omega)]
        simp only [mSet_ap, true_and]
        rw [if_neg (by omega)]
        simp only [Nat.reduceEqDiff, false_and, if_false]
        rw [e218]; exact c3 q q0 q1
    · rw [kK 203 (by omega) (by decide) (by decide) (by decide), kK 202 (by omega) (by decide) (by decide) (by decide)]
      obtain ⟨a, b, c⟩ := b5 k hk
      exact ⟨a, b, fun z => ⟨(c z).1, repS_of (fun i i0 i1 => kK i (by omega) (by omega) (by omega) (by omega)) (c z).2⟩⟩
  · obtain ⟨n1, n4, n5, n6, n7⟩ := H.2.2
    have e100 : (mSet (mSet J 200 3 0) 218 (40 * t + p) (cutT (I 216 t) v)) 100 = I 100 := by rw [set_ne (by decide), set_ne (by decide), kJ 100 (by omega) (by decide)]
    have e0 : (mSet (mSet J 200 3 0) 218 (40 * t + p) (cutT (I 216 t) v)) 0 = I 0 := by rw [set_ne (by decide), set_ne (by decide), kJ 0 (by omega) (by decide)]
    have e2 : ∀ q : Int, q ≠ 3 → (mSet (mSet J 200 3 0) 218 (40 * t + p) (cutT (I 216 t) v)) 200 q = I 200 q := fun q hq => by rw [set_ne (by decide), set_nq hq, kJ 200 (by omega) (by decide)]
    refine ⟨?_, ?_, ?_, ?_, ?_⟩
    · rw [e100, e2 6 (by decide)]; exact n1
    · rw [e100, e2 14 (by decide), e2 15 (by decide)]; exact n4
    · rw [e2 11 (by decide)]; exact n5
    · rw [e0, e2 16 (by decide)]; exact n6
    · rw [e0, e2 17 (by decide)]; exact n7
end LST4
section LST5
theorem S_way1 {fl : Nat → Bool} {I : mM} {w m : Int} (H : LI fl I) (mw : mrg w) (mm : mrg m) (hw : wayP w) (h1 : m = 1) (hk : keptP (I 201) w) : spX11_way fl [mR (some 200), mI w, mI m] (mCpy I 25 20 (w * 9) 0 9) (qV fl 0) := by
  subst h1
  have kJ : ∀ i, i ≠ 20 → mCpy I 25 20 (w * 9) 0 9 i = I i := fun i a => by
    funext q
    exact if_neg (fun z => a z.1)
  have kJ2 : ∀ g : Int, 0 ≤ g → g < 9 → mCpy I 25 20 (w * 9) 0 9 20 g = keptS (I 201) w g := fun g g0 g1 => by
    unfold mCpy
    rw [if_pos (by omega), ← H.1.2.2.1.2.1 w hw.1 hw.2 hk g g0 g1]
    show I 25 _ = I 25 _
    congr 1; omega
  generalize mCpy I 25 20 (w * 9) 0 9 = J at kJ kJ2 ⊢
  have e201 := kJ 201 (by decide)
  refine ⟨rfl, by rw [e201]; exact H.1.1, mw, mm, fun h => absurd hw h, fun _ h => absurd (by decide) h, fun _ _ h => absurd (by rw [e201]; exact hk) h, fun _ _ _ => ?_, fun _ h => absurd h (by decide)⟩
  rw [e201]
  have k2 : standsM (mSet J 200 3 0) (keptS (I 201) w) 9 201 = stR (I 201) (keptS (I 201) w) := by rw [standsM_201, set_ne (by decide), e201]
  have k1 : ∀ i, i ≠ 20 → i ≠ 200 → i ≠ 201 → standsM (mSet J 200 3 0) (keptS (I 201) w) 9 i = I i := fun i a b c => by rw [standsM_ne _ _ c, set_ne b, kJ i a]
  have k3 : standsM (mSet J 200 3 0) (keptS (I 201) w) 9 20 = J 20 := by rw [standsM_ne _ _ (by decide), set_ne (by decide)]
  refine ⟨rfl, by rw [standsM_ne _ _ (by decide), set_eq], LI_st H (clsI_s (keptS (I 201) w) H.1 (fun i hi hn => k1 i hn (by omega) (by omega)) k2 (fun g g0 g1 => by rw [k3]; exact kJ2 g g0 g1) (H.1.1.kept hw)) (fun i hi => k1 i (by omega) (by omega) (by omega)) (k1 100 (by decide) (by decide) (by decide)) (by rw [k1 0 (by decide) (by decide) (by decide)]; exact ⟨rfl, rfl⟩) (fun p hp => by rw [standsM_ne _ _ (by decide), set_nq (by omega), kJ 200 (by decide)])⟩
theorem keep_bit {t : Int → Int} (H : WFt t) {w : Int} (hw : wayP w) : bitN (keepN t w 9) 4 = ib 4 (bitN t 4) (ib 6 1 w) := by
  have key : ∀ a : Nat, a < 2 → ∀ b : Nat, b < 2 → ∀ c : Nat, c < 2 → ∀ d : Nat, d < 2 → ∀ w : Nat, w < 4 → ib 4 ((a : Int) + 2 * b + 4 * c + 8 * d) (ib 6 1 (w : Int)) = (if w = 0 then 1 else (a : Int)) + 2 * (if w = 1 then 1 else (b : Int)) + 4 * (if w = 2 then 1 else (c : Int)) + 8 * (if w = 3 then 1 else (d : Int)) := by decide +kernel
  have e2 : ∀ t : Int → Int, bitN t 4 = t 595 + 2 * t 605 + 4 * t 615 + 8 * t 625 := fun t => by
    have e2 : bitN t 4 = 0 + 2 ^ 0 * t (595 + 10 * ((0 : Nat) : Int)) + 2 ^ 1 * t (595 + 10 * ((1 : Nat) : Int)) + 2 ^ 2 * t (595 + 10 * ((2 : Nat) : Int)) + 2 ^ 3 * t (595 + 10 * ((3 : Nat) : Int)) := rfl
    rw [e2, show (595 + 10 * ((0 : Nat) : Int)) = 595 from rfl, show (595 + 10 * ((1 : Nat) : Int)) = 605 from rfl, show (595 + 10 * ((2 : Nat) : Int)) = 615 from rfl, show (595 + 10 * ((3 : Nat) : Int)) = 625 from rfl]
    omega
  have h0 := (H.2.2.2.2.2.2 0 (by omega) (by omega)).1
  have h1 := (H.2.2.2.2.2.2 1 (by omega) (by omega)).1
  have h2 := (H.2.2.2.2.2.2 2 (by omega) (by omega)).1
  have h3 := (H.2.2.2.2.2.2 3 (by omega) (by omega)).1
  rw [show (595 + 10 * (0 : Int)) = 595 from rfl] at h0
  rw [show (595 + 10 * (1 : Int)) = 605 from rfl] at h1
  rw [show (595 + 10 * (2 : Int)) = 615 from rfl] at h2
  rw [show (595 + 10 * (3 : Int)) = 625 from rfl] at h3
  obtain ⟨a, ea⟩ : ∃ a : Nat, t 595 = a := ⟨(t 595).toNat, by omega⟩
  obtain ⟨b, eb⟩ : ∃ a : Nat, t 605 = a := ⟨(t 605).toNat, by omega⟩
  obtain ⟨c, ec⟩ : ∃ a : Nat, t 615 = a := ⟨(t 615).toNat, by omega⟩
  obtain ⟨d, ed⟩ : ∃ a : Nat, t 625 = a := ⟨(t 625).toNat, by omega⟩
  obtain ⟨v, ev⟩ : ∃ a : Nat, w = a := ⟨w.toNat, by omega⟩
  subst ev
  have k := key a (by omega) b (by omega) c (by omega) d (by omega) v (by omega)
  rw [e2 t, e2, ea, eb, ec, ed, k]
  have kn : ∀ i : Nat, i < 4 → keepN t (v : Int) 9 (595 + 10 * (i : Int)) = if v = i then 1 else t (595 + 10 * (i : Int)) := fun i hi => by
    unfold keepN
    by_cases e : v = i
    · subst e; rw [if_pos rfl, if_pos rfl]
    · rw [if_neg (by omega), if_neg e, if_neg (by omega)]
  have n0 := kn 0 (by omega)
  have n1 := kn 1 (by omega)
  have n2 := kn 2 (by omega)
  have n3 := kn 3 (by omega)
  rw [show (595 + 10 * ((0 : Nat) : Int)) = 595 from rfl, ea] at n0
  rw [show (595 + 10 * ((1 : Nat) : Int)) = 605 from rfl, eb] at n1
  rw [show (595 + 10 * ((2 : Nat) : Int)) = 615 from rfl, ec] at n2
  rw [show (595 + 10 * ((3 : Nat) : Int)) = 625 from rfl, ed] at n3
  rw [n0, n1, n2, n3]
theorem S_way0 {fl : Nat → Bool} {I : mM} {w m : Int} (H : LI fl I) (mw : mrg w) (mm : mrg m) (hw : wayP w) (h1 : m = 0) : spX11_way fl [mR (some 200), mI w, mI m] (mSet (mCpy I 20 25 0 (w * 9) 9) 12 6 (ib 4 (I 12 6) (ib 6 1 w))) (qV fl 0) := by
  subst h1
  have kJ : ∀ i, i ≠ 25 → i ≠ 12 → mSet (mCpy I 20 25 0 (w * 9) 9) 12 6 (ib 4 (I 12 6) (ib 6 1 w)) i = I i := fun i a b => by
    rw [set_ne b]
    funext q
    exact if_neg (fun z => a z.1)
  have kJ2 : ∀ q : Int, mSet (mCpy I 20 25 0 (w * 9) 9) 12 6 (ib 4 (I 12 6) (ib 6 1 w)) 25 q = if w * 9 ≤ q ∧ q < w * 9 + 9 then I 20 (0 + (q - w * 9)) else I 25 q := fun q => by
    rw [set_ne (by decide)]
    unfold mCpy
    simp only [true_and]
  have kJ3 : mSet (mCpy I 20 25 0 (w * 9) 9) 12 6 (ib 4 (I 12 6) (ib 6 1 w)) 12 6 = ib 4 (bitN (I 201) 4) (ib 6 1 w) := by rw [set_eq, H.1.2.2.1.2.2]
  generalize mSet (mCpy I 20 25 0 (w * 9) 9) 12 6 (ib 4 (I 12 6) (ib 6 1 w)) = J at kJ kJ2 kJ3 ⊢
  have e201 := kJ 201 (by decide) (by decide)
  refine ⟨rfl, by rw [e201]; exact H.1.1, mw, mm, fun h => absurd hw h, fun _ h => absurd (by decide) h, fun _ h => absurd h (by decide), fun _ h => absurd h (by decide), fun _ _ => ?_⟩
  rw [e201]
  have k1 : ∀ i, i ≠ 25 → i ≠ 12 → i ≠ 200 → i ≠ 201 → rowM (mSet J 200 3 0) (keepN (I 201) w 9) i = I i := fun i a b c d => by rw [rowM_nt _ _ d, set_ne c, kJ i a b]
  have k2 : rowM (mSet J 200 3 0) (keepN (I 201) w 9) 201 = keepN (I 201) w 9 := rowM_at _ _
  have k3 : rowM (mSet J 200 3 0) (keepN (I 201) w 9) 25 = J 25 := by rw [rowM_nt _ _ (by decide), set_ne (by decide)]
  have k4 : rowM (mSet J 200 3 0) (keepN (I 201) w 9) 12 = J 12 := by rw [rowM_nt _ _ (by decide), set_ne (by decide)]
  have k5 : rowM (mSet J 200 3 0) (keepN (I 201) w 9) 200 3 = 0 := by rw [rowM_nt _ _ (by decide), set_eq]
  have k6 : ∀ p : Int, p ≠ 3 → rowM (mSet J 200 3 0) (keepN (I 201) w 9) 200 p = I 200 p := fun p hp => by rw [rowM_nt _ _ (by decide), set_nq hp, kJ 200 (by decide) (by decide)]
  generalize rowM (mSet J 200 3 0) (keepN (I 201) w 9) = K at k1 k2 k3 k4 k5 k6 ⊢
  obtain ⟨hwf, hg, hq, hd⟩ := H.1
  have kp : ∀ q, ¬ (595 ≤ q) → keepN (I 201) w 9 q = I 201 q := fun q hq => by
    unfold keepN
    rw [if_neg (by omega), if_neg (by omega)]
  refine ⟨rfl, k5, LI_st H ⟨?_, ?_, ?_, ?_⟩ (fun i hi => k1 i (by omega) (by omega) (by omega) (by omega)) (k1 100 (by decide) (by decide) (by decide) (by decide)) (by rw [k1 0 (by decide) (by decide) (by decide) (by decide)]; exact ⟨rfl, rfl⟩) (fun p hp => k6 p (by omega))⟩
  · rw [k2]
    refine WFt_k hwf kp (fun i i0 i1 => ?_)
    have h9 := hwf.2.2.2.2.2.2 i i0 i1
    by_cases e : i = w
    · subst e
      refine ⟨?_, fun f f0 f1 => ?_⟩
      · unfold keepN; rw [if_pos rfl]; omega
      · unfold keepN
        rw [if_neg (by omega), if_pos (by omega), show 596 + 10 * i + f - (596 + 10 * i) = f by omega]
        exact hwf.st f f0 f1
    · refine ⟨?_, fun f f0 f1 => ?_⟩
      · unfold keepN; rw [if_neg (by omega), if_neg (by omega)]; exact h9.1
      · unfold keepN
        rw [if_neg (by omega), if_neg (by omega)]
        exact h9.2 f f0 f1
  · rw [k2]
    exact repG_x hwf.c8 (fun q z => kp q (by omega)) (fun k x a b c d => kp _ (by omega)) (repG_of2 (fun i i0 => k1 i (by omega) (by omega) (by omega) (by omega)) hg)
  · rw [k2]
    obtain ⟨a1, a2, a3⟩ := hq
    refine ⟨fun f f0 f1 => ?_, fun i i0 i1 hk f f0 f1 => ?_, ?_⟩
    · rw [k1 (12 + 8) (by decide) (by decide) (by decide) (by decide), k1 (12 + 9) (by decide) (by decide) (by decide) (by decide), k1 (12 + 10) (by decide) (by decide) (by decide) (by decide), k1 (12 + 11) (by decide) (by decide) (by decide) (by decide), k1 (12 + 12) (by decide) (by decide) (by decide) (by decide)]
      unfold stT pcT hdT prT amT
      rw [kp _ (by omega), kp _ (by omega), kp _ (by omega), kp _ (by omega), kp _ (by omega)]
      exact a1 f f0 f1
    · rw [show K (12 + 13) = J 25 from k3, kJ2]
      unfold keptS
      by_cases e : i = w
      · subst e
        rw [if_pos (by omega)]
        unfold keepN
        rw [if_neg (by omega), if_pos (by omega), show 0 + (9 * i + f - i * 9) = f by omega, (a1 f f0 f1).1]
        congr 1; omega
      · rw [if_neg (by omega)]
        unfold keepN
        rw [if_neg (by omega), if_neg (by omega)]
        refine a2 i i0 i1 ?_ f f0 f1
        have h7 : keepN (I 201) w 9 (595 + 10 * i) = 1 := hk
        unfold keepN at h7
        rwa [if_neg (by omega), if_neg (by omega)] at h7
    · rw [k4, kJ3, keep_bit hwf hw]
  · rw [k2]
    exact repD_x (fun p z => kp p (by omega)) (fun k a b => kp _ (by omega)) (repD_of (fun i i0 => k1 i (by omega) (by omega) (by omega) (by omega)) hd)
theorem S_learn {fl : Nat → Bool} {I I' : mM} {b : Int} (H : LI fl I) (mb : mrg b) (hb : ballP b) (h1 : ∀ i, i ≠ 19 → I' i = I i) (h2 : ∀ h : Int, 0 ≤ h → h < I 201 (13 + b) → I' 19 (8 * b + h) = min 99 (max 1 (rawT (I 201) b h 4))) (h3 : ∀ q : Int, ¬ (8 * b ≤ q ∧ q < 8 * b + I 201 (13 + b)) → I' 19 q = I 19 q) :
    spX11_learn fl [mR (some 200), mI b] (mSet I' 230 0 (wI (seenT (I 201) b))) (qI fl 0) := by
  have kJ : ∀ i, i ≠ 19 → i ≠ 230 → mSet I' 230 0 (wI (seenT (I 201) b)) i = I i := fun i a b => by rw [set_ne b, h1 i a]
  have kJ2 : mSet I' 230 0 (wI (seenT (I 201) b)) 19 = I' 19 := set_ne (by decide)
  have kJ3 : mSet I' 230 0 (wI (seenT (I 201) b)) 230 0 = wI (seenT (I 201) b) := set_eq
  generalize mSet I' 230 0 (wI (seenT (I 201) b)) = J at kJ kJ2 kJ3 ⊢
  have e201 := kJ 201 (by decide) (by decide)
  refine ⟨rfl, by rw [e201]; exact H.1.1, mb, fun h => absurd hb h, fun _ => ?_⟩
  rw [e201]
  have hw := H.1.1
  have h8 := hw.2.1 b hb.1 hb.2
  generalize hn : I 201 (13 + b) = n at *
  have k1 : ∀ i, i ≠ 19 → i ≠ 230 → i ≠ 200 → i ≠ 201 → rowM (mSet J 200 3 0) (learnN (I 201) b n) i = I i := fun i a b c d => by rw [rowM_nt _ _ d, set_ne c, kJ i a b]
  have k2 : rowM (mSet J 200 3 0) (learnN (I 201) b n) 201 = learnN (I 201) b n := rowM_at _ _
  have k3 : rowM (mSet J 200 3 0) (learnN (I 201) b n) 19 = I' 19 := by rw [rowM_nt _ _ (by decide), set_ne (by decide), kJ2]
  have k5 : rowM (mSet J 200 3 0) (learnN (I 201) b n) 200 3 = 0 := by rw [rowM_nt _ _ (by decide), set_eq]
  have k6 : ∀ p : Int, p ≠ 3 → rowM (mSet J 200 3 0) (learnN (I 201) b n) 200 p = I 200 p := fun p hp => by rw [rowM_nt _ _ (by decide), set_nq hp, kJ 200 (by decide) (by decide)]
  have k7 : rowM (mSet J 200 3 0) (learnN (I 201) b n) 230 0 = wI (seenT (I 201) b) := by rw [rowM_nt _ _ (by decide), set_ne (by decide), kJ3]
  generalize rowM (mSet J 200 3 0) (learnN (I 201) b n) = K at k1 k2 k3 k5 k6 k7 ⊢
  have hl : ∀ k : Int, 0 ≤ k → k < 48 → (8 * b ≤ k ∧ k < 8 * b + n → learnN (I 201) b n (313 + 5 * k) = min 99 (max 1 (I 201 (314 + 5 * k)))) ∧ (¬ (8 * b ≤ k ∧ k < 8 * b + n) → learnN (I 201) b n (313 + 5 * k) = I 201 (313 + 5 * k)) := fun k k0 k1 => ⟨fun z => by
    unfold learnN
    rw [if_pos (by omega)]
    congr 3; omega, fun z => by
    unfold learnN
    rw [if_neg (by omega)]⟩
  refine ⟨_, rfl, k5, fun _ => k7, LI_st H (clsI_w H.1 (fun i hi hn => k1 i hn (by omega) (by omega) (by omega)) (fun q hq => by rw [k2]; unfold learnN; rw [if_neg (by omega)]) (fun k a c => ?_) (fun c h c0 c1 x0 x1 => ?_)) (fun i hi => k1 i (by omega) (by omega) (by omega) (by omega)) (k1 100 (by decide) (by decide) (by decide) (by decide)) (by rw [k1 0 (by decide) (by decide) (by decide) (by decide)]; exact ⟨rfl, rfl⟩) (fun p hp => k6 p (by omega))⟩
  · rw [k2]
    have h9 := (hw.2.2.2.1 k a c).2.2.2.1
    by_cases z : 8 * b ≤ k ∧ k < 8 * b + n
    · rw [(hl k a c).1 z]; omega
    · rw [(hl k a c).2 z]; exact h9
  · rw [k2, k3]
    have c8 := hw.2.1 c c0 c1
    have hk : 0 ≤ 8 * c + h ∧ 8 * c + h < 48 := by omega
    have h9 := hw.2.2.2.2.1 c h c0 c1 x0 x1
    by_cases e : c = b
    · subst e
      rw [hn] at x1
      rw [(hl _ hk.1 hk.2).1 (by omega), h2 h x0 x1]
      unfold rawT
      rw [show 310 + 5 * (8 * c + h) + 4 = 314 + 5 * (8 * c + h) by omega]
      exact ⟨rfl, by omega⟩
    · rw [(hl _ hk.1 hk.2).2 (by omega), h3 _ (by omega)]
      obtain ⟨-, -, -, hr⟩ := H.1.2.1
      have := (hr c h c0 c1 x0 x1).2.2.2
      unfold rawT at this
      rw [show 310 + 5 * (8 * c + h) + 3 = 313 + 5 * (8 * c + h) by omega] at this
      exact ⟨this, h9⟩
end LST5
section LCG
-- the reader looks at no place from 550 on
def eqT (t t' : Int → Int) : Prop := ∀ q : Int, 0 ≤ q → q < 550 → t q = t' q
def eqG (g g' : rdG) : Prop := g.1 = g'.1 ∧ g.2.1 = g'.2.1 ∧ g.2.2.1 = g'.2.2.1 ∧ eqT g.2.2.2 g'.2.2.2
theorem eqT.up {t t' : Int → Int} (h : eqT t t') (p v : Int) : eqT (updS t p v) (updS t' p v) := fun q q0 q1 => by
  unfold updS
  split
  · rfl
  · exact h q q0 q1
theorem num_v (B : Int → Int) (n lo hi a : Int) (hl : lo ≤ hi) : lo ≤ (numT B n lo hi a).2.2.2 ∧ (numT B n lo hi a).2.2.2 ≤ hi := by
  unfold numT
  split
  · unfold erT; dsimp only; omega
  · split
    · unfold erT; dsimp only; omega
    · rename_i h; dsimp only; omega
theorem tol_v (B : Int → Int) (n : Int) (w : Nat) (lo hi a : Int) (hl : lo ≤ hi) : lo ≤ (tolT B n w lo hi a).2.2.2 ∧ (tolT B n w lo hi a).2.2.2 ≤ hi := by
  unfold tolT
  split
  · exact num_v B n lo hi _ hl
  · unfold erT; dsimp only; omega
theorem eqG.rd {t t' : Int → Int} (h : eqT t t') (r : rdR) : eqG (rdE r t) (rdE r t') := ⟨rfl, rfl, rfl, h⟩
theorem slL_c (B : Int → Int) (n v : Int) : ∀ (f : Nat) (a : Int) {t t' : Int → Int}, eqT t t' → eqG (slL B n v f a t) (slL B n v f a t')
  | 0, a, t, t', h => ⟨rfl, rfl, rfl, h⟩
  | f + 1, a, t, t', h => by
    simp only [slL]
    split
    · split
      · exact eqG.rd h _
      · exact slL_c B n v f _ (h.up _ _)
    · exact ⟨rfl, rfl, rfl, h⟩
theorem slT_c (B : Int → Int) (n a : Int) {t t' : Int → Int} (h : eqT t t') : eqG (slT B n a t) (slT B n a t') := by
  unfold slT
  split
  · exact eqG.rd h _
  · split
    · exact eqG.rd h _
    · exact slL_c B n _ _ _ (h.up _ _)
theorem htU_c {t t' : Int → Int} (h : eqT t t') {b : Int} (hb : 0 ≤ b ∧ b < 6) (w p r f : Int) : eqT (htU t b w p r f) (htU t' b w p r f) := by
  unfold htU
  rw [h (13 + b) (by omega) (by omega)]
  exact (((((h.up _ _).up _ _).up _ _).up _ _).up _ _).up _ _
theorem hiT_c (B : Int → Int) (n a : Int) {b : Int} (hb : 0 ≤ b ∧ b < 6) {t t' : Int → Int} (h : eqT t t') : eqG (hiT B n b a t) (hiT B n b a t') := by
  unfold hiT
  rw [h (13 + b) (by omega) (by omega)]
  split
  · exact ⟨rfl, rfl, rfl, h⟩
  · split
    · exact eqG.rd h _
    · split
      · exact eqG.rd h _
      · split
        · exact eqG.rd h _
        · split
          · exact eqG.rd h _
          · exact ⟨rfl, rfl, rfl, htU_c h hb _ _ _ _⟩
theorem baL_c (B : Int → Int) (n : Int) {b : Int} (hb : 0 ≤ b ∧ b < 6) : ∀ (f : Nat) (a : Int) {t t' : Int → Int}, eqT t t' → eqG (baL B n b f a t) (baL B n b f a t')
  | 0, a, t, t', h => ⟨rfl, rfl, rfl, h⟩
  | f + 1, a, t, t', h => by
    have c := hiT_c B n a hb h
    simp only [baL]
    rw [c.1, c.2.2.1]
    split
    · split
      · exact c
      · exact baL_c B n hb f _ c.2.2.2
    · exact ⟨rfl, rfl, rfl, h⟩
theorem baT_c (B : Int → Int) (n a : Int) {t t' : Int → Int} (h : eqT t t') : eqG (baT B n a t) (baT B n a t') := by
  have hb := tol_v B n 0 0 5 a (by decide)
  have c := hiT_c B n (tolT B n 0 0 5 a).2.2.1 (b := (tolT B n 0 0 5 a).2.2.2) ⟨hb.1, by omega⟩ h
  unfold baT
  rw [c.1, c.2.2.1]
  split
  · exact eqG.rd h _
  · split
    · exact c
    · exact baL_c B n ⟨hb.1, by omega⟩ _ _ c.2.2.2
theorem inT_c (B : Int → Int) (n a : Int) {t t' : Int → Int} (h : eqT t t') : eqG (inT B n a t) (inT B n a t') := by
  unfold inT
  split
  · exact slT_c B n a h
  · split
    · exact baT_c B n a h
    · unfold seT
      split
      · exact eqG.rd h _
      · exact ⟨rfl, rfl, rfl, h.up _ _⟩
theorem liT_c (B : Int → Int) (n a : Int) {t t' : Int → Int} (h : eqT t t') : eqG (liT B n a t) (liT B n a t') := by
  have c := inT_c B n a h
  unfold liT
  rw [h 0 (by decide) (by decide)]
  split
  · exact eqG.rd h _
  · split
    · exact ⟨rfl, rfl, rfl, h⟩
    · unfold sgT
      rw [c.1, c.2.2.1]
      split
      · exact c
      · split
        · exact eqG.rd c.2.2.2 _
        · rw [c.2.2.2 0 (by decide) (by decide)]
          exact ⟨rfl, rfl, rfl, c.2.2.2.up _ _⟩
theorem fiL_c (B : Int → Int) (n : Int) : ∀ (f : Nat) (a : Int) {t t' : Int → Int}, eqT t t' → eqG (fiL B n f a t) (fiL B n f a t')
  | 0, a, t, t', h => ⟨rfl, rfl, rfl, h⟩
  | f + 1, a, t, t', h => by
    have c := liT_c B n a h
    simp only [fiL]
    rw [c.1, c.2.2.1]
    split
    · exact ⟨rfl, rfl, rfl, h⟩
    · split
      · exact c
      · exact fiL_c B n f _ c.2.2.2
theorem neR_c {t g g' : Int → Int} (h : eqT g g') : neR t g = neR t g' := by
  funext q
  unfold neR
  split
  · rename_i z
    exact h q (by omega) (by omega)
  · rfl
end LCG
section LST6
theorem S_feed {fl : Nat → Bool} {I I' : mM} {a b c d e : Int} (H : LI fl I) (ma : mrg a) (mb : mrg b) (mc : mrg c) (md : mrg d) (me : mrg e) (h7 : I 100 1 ≤ 780) (hA : apC I' I (fdT a b c d e) 20) : spX11_feed fl [mR (some 200), mI a, mI b, mI c, mI d, mI e] I' (qD fl (I 100 1 + 20)) := by
  obtain ⟨⟨n1, n2, n3⟩, n4, n5, n6, n7⟩ := H.2.2
  obtain ⟨a1, a2, a3, a4⟩ := hA
  have e200 := a1 200 (by decide) (by decide)
  refine ⟨rfl, ma, mb, mc, md, me, by rw [e200]; exact ⟨n2, n3⟩, fun h => absurd h (by rw [e200, ← n1]; omega), fun _ K hK => ?_⟩
  obtain ⟨k1, k2, k3, k4, k5⟩ := hK
  rw [e200] at k4 k5 ⊢
  have hb : ∀ q : Int, 0 ≤ fdT a b c d e q ∧ fdT a b c d e q ≤ 255 := fun q => by
    unfold fdT
    exact (sb_mb _ (by omega)).2
  refine ⟨_, rfl, by rw [n1], clsI_of (fun i hi => by rw [k1 i (by omega) (by omega), a1 i (by omega) (by omega)]) H.1, ?_, ?_⟩
  · obtain ⟨b1, b2, b3, b4⟩ := H.2.1
    have kk : ∀ i, i ≠ 100 → i ≠ 101 → i ≠ 200 → i ≠ 204 → K i = I i := fun i x y z w => by rw [k1 i z w, a1 i x y]
    refine ⟨fun j j0 j1 => ?_, ?_, fun k hk => ?_, fun k hk => ?_⟩
    · rw [k1 101 (by decide) (by decide), a4 j, k5 j, a1 204 (by decide) (by decide), n1]
      by_cases z : I 200 6 ≤ j ∧ j < I 200 6 + 20
      · rw [if_pos z, if_pos z]
        exact ⟨rfl, hb _⟩
      · rw [if_neg z, if_neg z]
        exact b1 j j0 j1
    · unfold trW
      rw [kk 216 (by decide) (by decide) (by decide) (by decide), kk 217 (by decide) (by decide) (by decide) (by decide), kk 218 (by decide) (by decide) (by decide) (by decide)]; exact b2
    · rw [kk 216 (by decide) (by decide) (by decide) (by decide), kk 217 (by decide) (by decide) (by decide) (by decide), kk 218 (by decide) (by decide) (by decide) (by decide), kk (170 + 2 * k) (by omega) (by omega) (by omega) (by omega), kk (171 + 2 * k) (by omega) (by omega) (by omega) (by omega)]; exact b3 k hk
    · rw [kk 203 (by decide) (by decide) (by decide) (by decide), kk 202 (by decide) (by decide) (by decide) (by decide)]
      obtain ⟨x, y, z⟩ := b4 k hk
      exact ⟨x, y, fun w => ⟨(z w).1, repS_of (fun i i0 i1 => kk i (by omega) (by omega) (by omega) (by omega)) (z w).2⟩⟩
  · have e100 : ∀ p : Int, p ≠ 1 → K 100 p = I 100 p := fun p hp => by rw [k1 100 (by decide) (by decide), a2 p hp]
    have e2 : ∀ p : Int, p ≠ 3 → p ≠ 6 → K 200 p = I 200 p := fun p x y => by rw [k2 p x y, e200]
    have e0 : K 0 = I 0 := by rw [k1 0 (by decide) (by decide), a1 0 (by decide) (by decide)]
    refine ⟨⟨?_, ?_, ?_⟩, ⟨?_, ?_⟩, ?_, ?_, ?_⟩
    · rw [k1 100 (by decide) (by decide), a3, k4, n1]
    · rw [k4]; omega
    · rw [k4]; omega
    · rw [e100 3 (by decide), e2 14 (by decide) (by decide)]; exact n4.1
    · rw [e100 4 (by decide), e2 15 (by decide) (by decide)]; exact n4.2
    · rw [e2 11 (by decide) (by decide)]; exact n5
    · rw [e0, e2 16 (by decide) (by decide)]; exact n6
    · rw [e0, e2 17 (by decide) (by decide)]; exact n7
theorem S_field {fl : Nat → Bool} {I I' : mM} {n : Int} (H : LI fl I) (mn : mrg n) (hn : 0 ≤ n ∧ n ≤ I 100 1) (F : flC I' I (fiL (I 204) n 802 0 beT)) :
    spX11_field fl [mR (some 200), mI n] (mSet I' 230 0 (wI (if (fiL (I 204) n 802 0 beT).1 = 0 then (fiL (I 204) n 802 0 beT).2.2.2 0 else -10 - (fiL (I 204) n 802 0 beT).1))) (qI fl 0) := by
  obtain ⟨⟨n1, n2, n3⟩, n4, n5, n6, n7⟩ := H.2.2
  obtain ⟨b1, b2, b3, b4⟩ := H.2.1
  have hfi := fi_ok (B := I 204) (n := n) 802 0 beT ⟨by omega, hn.1⟩ (beT_fw (fun _ _ _ => rfl)) (by omega)
  generalize hg : fiL (I 204) n 802 0 beT = g at F hfi ⊢
  have F0 := F
  obtain ⟨f1, f2, f3, f4, f5⟩ := F
  have kJ : ∀ i, i ≠ 230 → mSet I' 230 0 (wI (if g.1 = 0 then g.2.2.2 0 else -10 - g.1)) i = I' i := fun i a => set_ne a
  have kJ3 : mSet I' 230 0 (wI (if g.1 = 0 then g.2.2.2 0 else -10 - g.1)) 230 0 = wI (if g.1 = 0 then g.2.2.2 0 else -10 - g.1) := set_eq
  generalize mSet I' 230 0 (wI (if g.1 = 0 then g.2.2.2 0 else -10 - g.1)) = J at kJ kJ3 ⊢
  have e200 : J 200 = I 200 := by rw [kJ 200 (by decide), f1 200 (by decide) (by decide) (by decide) (by decide)]
  have e204 : J 204 = I 204 := by rw [kJ 204 (by decide), f1 204 (by decide) (by decide) (by decide) (by decide)]
  refine ⟨rfl, mn, by rw [e200]; exact ⟨n2, n3⟩, by rw [e200]; exact n5, I 204, fun j j0 j1 => by rw [e204]; exact ⟨rfl, (b1 j j0 j1).2⟩, fun h => absurd ⟨hn.1, by rw [e200, ← n1]; exact hn.2⟩ h, fun _ => ?_⟩
  intro t ht K hK
  have ec := fiL_c (I 204) n 802 0 (t := beT) (t' := t) (fun q q0 q1 => (ht q q0 q1).symm)
  rw [hg] at ec
  obtain ⟨c1, c2, c3, c4⟩ := ec
  generalize fiL (I 204) n 802 0 t = g' at c1 c2 c3 c4 hK ⊢
  obtain ⟨k1, k2, k3, k4, k5, k6, k7, k8⟩ := hK
  rw [e200] at k2
  have e201 : J 201 = I 201 := by rw [kJ 201 (by decide), f1 201 (by decide) (by decide) (by decide) (by decide)]
  rw [e201] at k7 k8
  have kk : ∀ i, i ≠ 100 → i ≠ 102 → ¬ (105 ≤ i ∧ i ≤ 110) → ¬ (11 ≤ i ∧ i ≤ 27) → i ≠ 200 → i ≠ 201 → i ≠ 205 → i ≠ 230 → K i = I i := fun i a b c d e f g h => by
    rw [k1 i e f g, kJ i h, f1 i a b c (by omega)]
  have kc : ∀ i, (11 ≤ i ∧ i ≤ 27) → K i = I' i := fun i hi => by rw [k1 i (by omega) (by omega) (by omega), kJ i (by omega)]
  refine ⟨_, rfl, k3, fun _ => ?_, ?_, ?_, ?_⟩
  · rw [k1 230 (by decide) (by decide) (by decide), kJ3, c1, c4 0 (by decide) (by decide)]
  · by_cases z : g.1 = 0
    · refine clsI_field H.1 F0 (hfi.2 z) z kc ?_
      rw [(k8 (by omega)).2, neR_c c4]
    · refine clsI_of (fun i hi => ?_) H.1
      rcases hi with hi | hi
      · rw [kc i hi, (f4 z).2.2 i hi]
      · subst hi
        rw [(k7 (by omega)).2]
  · exact LIb_of (fun i hi => kk i (by omega) (by omega) (by omega) (by omega) (by omega) (by omega) (by omega) (by omega)) H.2.1
  · have e0 : K 0 = I 0 := kk 0 (by decide) (by decide) (by decide) (by decide) (by decide) (by decide) (by decide) (by decide)
    have e100 : K 100 = I' 100 := by rw [k1 100 (by decide) (by decide) (by decide), kJ 100 (by decide)]
    refine ⟨⟨?_, ?_, ?_⟩, ⟨?_, ?_⟩, k6, ?_, ?_⟩
    · rw [e100, f3, k4]
    · rw [k4]; decide
    · rw [k4]; decide
    · rw [e100, k5]
      by_cases z : g.1 = 0
      · rw [(f5 z).1, ← c1, z]
      · rw [(f4 z).1, c1]
    · rw [e100]
      by_cases z : g.1 = 0
      · rw [(f5 z).2.1, (k8 (by omega)).1]
      · rw [(f4 z).2.1, (k7 (by omega)).1, c2]
    · rw [e0, k2 16 (by omega)]; exact n6
    · rw [e0, k2 17 (by omega)]; exact n7
theorem playS_wf {b : Int} {t : Int → Int} {x a : Int} (H : WFt t) (hb : ballP b) (h1 : 1 ≤ t (13 + b)) : WFt (playS b (t, x, a)).1 := by
  have hB := bowledT_bd H x hb h1
  have h8 := H.c8 b hb.1 hb.2
  have w1 := H.add (q := 12) (by decide) 1
  unfold playS
  dsimp only
  split
  · exact w1.add (by decide) 1
  · split
    · exact w1.add (by decide) _
    · have w2 := (w1.add (q := 9) (by decide) (runsT (addR t 12 1) b (bowledT t b x).1)).add (q := 11) (by decide) 1
      dsimp only
      split
      · exact chase_wf w2 hb ⟨hB.1, by omega⟩
      · exact w2
theorem playS_13 {b : Int} {t : Int → Int} {x a : Int} (hb : ballP b) : (playS b (t, x, a)).1 (13 + b) = t (13 + b) := by
  have ad : ∀ (t : Int → Int) (q v : Int), (9 ≤ q ∧ q ≤ 12) → addR t q v (13 + b) = t (13 + b) := fun t q v hq => if_neg (by omega)
  unfold playS
  dsimp only
  split
  · dsimp only
    rw [ad _ 10 _ (by decide), ad _ 12 _ (by decide)]
  · split
    · dsimp only
      rw [ad _ 9 _ (by decide), ad _ 12 _ (by decide)]
    · dsimp only
      split
      · rw [chase_at _ _ _ (by omega), ad _ 11 _ (by decide), ad _ 9 _ (by decide), ad _ 12 _ (by decide)]
      · rw [ad _ 11 _ (by decide), ad _ 9 _ (by decide), ad _ 12 _ (by decide)]
theorem playN_wf {b : Int} {t : Int → Int} {x : Int} (H : WFt t) (hb : ballP b) (h1 : 1 ≤ t (13 + b)) : ∀ n : Nat, WFt (playN b (t, x, 0) n).1 ∧ (playN b (t, x, 0) n).1 (13 + b) = t (13 + b)
  | 0 => ⟨H, rfl⟩
  | n + 1 => by
    obtain ⟨i1, i2⟩ := playN_wf H hb h1 n
    have e : (playN b (t, x, 0) (n + 1)) = playS b ((playN b (t, x, 0) n).1, (playN b (t, x, 0) n).2.1, (playN b (t, x, 0) n).2.2) := rfl
    rw [e]
    exact ⟨playS_wf i1 hb (by omega), by rw [playS_13 hb, i2]⟩
theorem S_play {fl : Nat → Bool} {I I' : mM} {b n s : Int} (H : LI fl I) (mb : mrg b) (mn : mrg n) (ms : mrg s) (hb : ballP b) (hn : 1 ≤ n ∧ n ≤ 60) (h0 : ¬ I 201 (13 + b) = 0) (h1 : ∀ i, i ≠ 0 → i ≠ 20 → i ≠ 27 → ¬ (120 ≤ i ∧ i ≤ 127) → i ≠ 130 → I' i = I i) (h2 : ∀ p : Int, p ≠ 15 → I' 0 p = I 0 p) (h3 : ∀ f : Int, 0 ≤ f → f < 9 → I' 20 f = stT (playN b (I 201, s, 0) n.toNat).1 f) (h4 : ∀ k : Int, 0 ≤ k → k < 4 → I' 27 k = (playN b (I 201, s, 0) n.toNat).1 (9 + k)) (h5 : agr (I 201) (playN b (I 201, s, 0) n.toNat).1) :
    spX11_play fl [mR (some 200), mI b, mI n, mI s] (mSet I' 230 0 (wI (playN b (I 201, s, 0) n.toNat).2.2)) (qI fl 0) := by
  have kJ : ∀ i, i ≠ 0 → i ≠ 20 → i ≠ 27 → ¬ (120 ≤ i ∧ i ≤ 127) → i ≠ 130 → i ≠ 230 → mSet I' 230 0 (wI (playN b (I 201, s, 0) n.toNat).2.2) i = I i := fun i a b c d e f => by rw [set_ne f, h1 i a b c d e]
  have kJ1 : ∀ i, i ≠ 230 → mSet I' 230 0 (wI (playN b (I 201, s, 0) n.toNat).2.2) i = I' i := fun i a => set_ne a
  have kJ3 : mSet I' 230 0 (wI (playN b (I 201, s, 0) n.toNat).2.2) 230 0 = wI (playN b (I 201, s, 0) n.toNat).2.2 := set_eq
  generalize mSet I' 230 0 (wI (playN b (I 201, s, 0) n.toNat).2.2) = J at kJ kJ1 kJ3 ⊢
  have e201 : J 201 = I 201 := kJ 201 (by decide) (by decide) (by decide) (by decide) (by decide) (by decide)
  have e200 : J 200 = I 200 := kJ 200 (by decide) (by decide) (by decide) (by decide) (by decide) (by decide)
  have hw := H.1.1
  refine ⟨rfl, by rw [e201]; exact hw, mb, mn, ms, fun h => absurd hb h, fun _ h => absurd hn h, fun _ _ h => absurd (by rw [← e201]; exact h) h0, fun _ _ _ => ?_⟩
  rw [e201]
  have hp := (playN_wf hw hb (x := s) (by have := hw.2.1 b hb.1 hb.2; omega) n.toNat).1
  generalize playN b (I 201, s, 0) n.toNat = T at h3 h4 h5 kJ3 hp ⊢
  have k1 : ∀ i, i ≠ 200 → i ≠ 201 → xM (mSet J 200 3 0) T.1 T.2.1 i = J i := fun i a c => by
    unfold xM
    rw [set_ne a, rowM_nt _ _ c, set_ne a]
  have k2 : xM (mSet J 200 3 0) T.1 T.2.1 201 = T.1 := xM_201 _ _ _
  have k4 : xM (mSet J 200 3 0) T.1 T.2.1 200 3 = 0 := by
    unfold xM
    rw [set_nq (by decide), rowM_nt _ _ (by decide), set_eq]
  have k6 : ∀ p : Int, p = 6 ∨ p = 11 ∨ p = 14 ∨ p = 15 ∨ p = 16 ∨ p = 17 → xM (mSet J 200 3 0) T.1 T.2.1 200 p = I 200 p := fun p hp => by
    unfold xM
    rw [set_nq (by omega), rowM_nt _ _ (by decide), set_nq (by omega), e200]
  generalize xM (mSet J 200 3 0) T.1 T.2.1 = K at k1 k2 k4 k6 ⊢
  have kI : ∀ i, i ≠ 200 → i ≠ 201 → i ≠ 0 → i ≠ 20 → i ≠ 27 → ¬ (120 ≤ i ∧ i ≤ 127) → i ≠ 130 → i ≠ 230 → K i = I i := fun i a b c d e f g h => by rw [k1 i a b, kJ i c d e f g h]
  have hcls : clsI K := by
    obtain ⟨-, hg, hq, hd⟩ := H.1
    refine ⟨by rw [k2]; exact hp, ?_, ?_, ?_⟩
    · rw [k2]
      exact repG_x hw.c8 (fun q z => h5 q (by omega) (by omega)) (fun k w a b c d => h5 _ (by omega) (by omega)) (repG_of (fun i i0 i1 => kI i (by omega) (by omega) (by omega) (by omega) (by omega) (by omega) (by omega) (by omega)) hg)
    · rw [k2]
      obtain ⟨a1, a2, a3⟩ := hq
      refine ⟨fun f f0 f1 => ?_, fun i i0 i1 hk f f0 f1 => ?_, ?_⟩
      · obtain ⟨p0, p1, p2, p3, p4⟩ := a1 f f0 f1
        rw [k1 (12 + 8) (by decide) (by decide), kJ1 (12 + 8) (by decide), show I' (12 + 8) f = I' 20 f from rfl, h3 f f0 f1, kI (12 + 9) (by decide) (by decide) (by decide) (by decide) (by decide) (by decide) (by decide) (by decide), kI (12 + 10) (by decide) (by decide) (by decide) (by decide) (by decide) (by decide) (by decide) (by decide), kI (12 + 11) (by decide) (by decide) (by decide) (by decide) (by decide) (by decide) (by decide) (by decide), kI (12 + 12) (by decide) (by decide) (by decide) (by decide) (by decide) (by decide) (by decide) (by decide)]
        unfold pcT at *
        unfold hdT at *
        unfold prT at *
        unfold amT at *
        rw [h5 (550 + 5 * f + 1) (by omega) (by omega), h5 (550 + 5 * f + 2) (by omega) (by omega), h5 (550 + 5 * f + 3) (by omega) (by omega), h5 (550 + 5 * f + 4) (by omega) (by omega)]
        exact ⟨rfl, p1, p2, p3, p4⟩
      · rw [kI (12 + 13) (by decide) (by decide) (by decide) (by decide) (by decide) (by decide) (by decide) (by decide)]
        unfold keptS
        rw [h5 _ (by omega) (by omega)]
        refine a2 i i0 i1 ?_ f f0 f1
        have h9 : T.1 (595 + 10 * i) = 1 := hk
        rw [h5 _ (by omega) (by omega)] at h9
        exact h9
      · rw [kI 12 (by decide) (by decide) (by decide) (by decide) (by decide) (by decide) (by decide) (by decide), a3]
        exact (bitN_x (fun i i0 i1 => h5 _ (by omega) (by omega))).symm
    · rw [k2]
      obtain ⟨a1, a2, a3, a4, a5⟩ := hd
      have e13 := kI 13 (by decide) (by decide) (by decide) (by decide) (by decide) (by decide) (by decide) (by decide)
      refine ⟨?_, ?_, ?_, fun k q0 q1 => ?_, fun k q0 q1 => ?_⟩
      · rw [e13, h5 6 (by decide) (by decide)]; exact a1
      · rw [e13, h5 7 (by decide) (by decide)]; exact a2
      · rw [e13, h5 8 (by decide) (by decide)]; exact a3
      · rw [kI (13 + 13) (by decide) (by decide) (by decide) (by decide) (by decide) (by decide) (by decide) (by decide), h5 _ (by omega) (by omega)]; exact a4 k q0 q1
      · rw [k1 (13 + 14) (by decide) (by decide), kJ1 (13 + 14) (by decide)]; exact h4 k q0 q1
  exact ⟨_, rfl, k4, fun _ => by rw [k1 230 (by decide) (by decide), kJ3], LI_st H hcls (fun i hi => kI i (by omega) (by omega) (by omega) (by omega) (by omega) (by omega) (by omega) (by omega)) (kI 100 (by decide) (by decide) (by decide) (by decide) (by decide) (by decide) (by decide) (by decide)) (by rw [k1 0 (by decide) (by decide), kJ1 0 (by decide), h2 13 (by decide), h2 14 (by decide)]; exact ⟨rfl, rfl⟩) k6⟩
theorem repS_cp {I I' : mM} {c a : Nat} {t : Int → Int} (h8 : ∀ b : Int, 0 ≤ b → b < 6 → t (13 + b) ≤ 8) (h : cpS I' I c a) (r : repS I a t) : repS I' c t := by
  obtain ⟨-, ⟨g1, g2, g3, g4, g5, g6, g7⟩, ⟨q1, q2, q3, q4, q5, q6, q7⟩, d1, d2, d3⟩ := h
  obtain ⟨⟨r1, r2, r3, r4⟩, ⟨s1, s2, s3⟩, t1, t2, t3, t4, t5⟩ := r
  refine ⟨⟨fun k k0 k1 => ?_, fun k k0 k1 => ?_, fun k k0 k1 => ?_, fun b h b0 b1 x0 x1 => ?_⟩, ⟨fun f f0 f1 => ?_, fun i i0 i1 hk f f0 f1 => ?_, ?_⟩, ?_, ?_, ?_, fun k k0 k1 => ?_, fun k k0 k1 => ?_⟩
  · rw [g1 k k0 (by omega)]; exact r1 k k0 k1
  · rw [g2 k k0 (by omega)]; exact r2 k k0 k1
  · rw [g3 k k0 (by omega)]; exact r3 k k0 k1
  · have := h8 b b0 b1
    rw [g4 _ (by omega) (by omega), g5 _ (by omega) (by omega), g6 _ (by omega) (by omega), g7 _ (by omega) (by omega)]; exact r4 b h b0 b1 x0 x1
  · rw [q2 f f0 (by omega), q3 f f0 (by omega), q4 f f0 (by omega), q5 f f0 (by omega), q6 f f0 (by omega)]; exact s1 f f0 f1
  · rw [q7 _ (by omega) (by omega)]; exact s2 i i0 i1 hk f f0 f1
  · rw [q1]; exact s3
  · rw [d1 0 (by decide) (by decide)]; exact t1
  · rw [d1 1 (by decide) (by decide)]; exact t2
  · rw [d1 2 (by decide) (by decide)]; exact t3
  · rw [d2 k k0 (by omega)]; exact t4 k k0 k1
  · rw [d3 k k0 (by omega)]; exact t5 k k0 k1
theorem S_restore {fl : Nat → Bool} {I I' : mM} {k : Int} (H : LI fl I) (mk0 : mrg k) (hk : 0 ≤ k ∧ k < 3) (hf : fl k.toNat = true) (hI : cpS I' I 10 (30 + 20 * k.toNat)) : spX11_restore fl [mR (some 200), mI k] I' (qV fl 0) := by
  have ek : (k.toNat : Int) = k := by omega
  obtain ⟨z1, z2, z3⟩ := H.2.1.2.2.2 k.toNat (by omega)
  obtain ⟨w1, w2⟩ := z3 hf
  rw [ek] at z1 z2 w1 w2
  have kJ := hI.1
  have e203 := kJ 203 (by decide)
  refine ⟨rfl, mk0, fun h => by rw [e203]; exact z1, fun h => absurd ⟨hk.1, by omega⟩ h, fun _ h => absurd h (by rw [e203, z2.mp hf]; decide), fun _ _ => ?_⟩
  have e202 := kJ 202 (by decide)
  rw [e202]
  have k1 : ∀ i, i ≠ 200 → i ≠ 201 → copyM (mSet I' 200 3 0) 201 0 (fun q => I 202 (635 * k + q)) 635 i = I' i := fun i a b => by
    funext q
    unfold copyM
    rw [if_neg (fun z => b z.1), set_ne a]
  have k2 : ∀ q, 0 ≤ q → q < 635 → copyM (mSet I' 200 3 0) 201 0 (fun q => I 202 (635 * k + q)) 635 201 q = I 202 (635 * k + q) := fun q q0 q1 => by
    unfold copyM
    rw [if_pos ⟨rfl, q0, by omega⟩, show q - 0 = q by omega]
  have k3 : ∀ p : Int, copyM (mSet I' 200 3 0) 201 0 (fun q => I 202 (635 * k + q)) 635 200 p = mSet I' 200 3 0 200 p := fun p => by
    unfold copyM
    rw [if_neg (fun z => absurd z.1 (by decide))]
  generalize copyM (mSet I' 200 3 0) 201 0 (fun q => I 202 (635 * k + q)) 635 = K at k1 k2 k3 ⊢
  have wf : WFt (K 201) := WFt_e w1 (fun q q0 q1 => k2 q q0 q1)
  have rs : repS I' 10 (fun q => I 202 (635 * k + q)) := repS_cp w1.c8 hI w2
  have rs2 : repS I' 10 (K 201) := repS_x w1.c8 (fun q q0 q1 => k2 q q0 q1) rs
  have rs3 : repS K 10 (K 201) := repS_of (fun i i0 i1 => k1 i (by omega) (by omega)) rs2
  refine ⟨rfl, by rw [k3, set_eq], LI_st H ⟨wf, rs3.1, rs3.2.1, rs3.2.2⟩ (fun i hi => by rw [k1 i (by omega) (by omega), kJ i (by omega)]) (by rw [k1 100 (by decide) (by decide), kJ 100 (by decide)]) (by rw [k1 0 (by decide) (by decide), kJ 0 (by decide)]; exact ⟨rfl, rfl⟩) (fun p hp => by rw [k3, set_nq (by omega), kJ 200 (by decide)])⟩
end LST6
