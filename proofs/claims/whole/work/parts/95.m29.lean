section SPM29
/-- a row as a text may tell it -/
def fwP (t : Int → Int) : Prop := ((0 ≤ t 0 ∧ t 0 ≤ 30) ∧ (2 ≤ t 1 ∧ t 1 ≤ 8) ∧ (1 ≤ t 2 ∧ t 2 ≤ 60) ∧ (0 ≤ t 3 ∧ t 3 ≤ 99) ∧ (0 ≤ t 4 ∧ t 4 ≤ 9) ∧ (0 ≤ t 5 ∧ t 5 ≤ 8)) ∧ cnP t ∧ (∀ c : Int, 0 ≤ c → c < 289 → 0 ≤ t (20 + c) ∧ t (20 + c) ≤ 20) ∧ (∀ k : Int, 0 ≤ k → k < 48 → (0 ≤ t (310 + 5 * k) ∧ t (310 + 5 * k) ≤ 15) ∧ (0 ≤ t (311 + 5 * k) ∧ t (311 + 5 * k) ≤ 9) ∧ (0 ≤ t (312 + 5 * k) ∧ t (312 + 5 * k) ≤ 8) ∧ (0 ≤ t (313 + 5 * k) ∧ t (313 + 5 * k) ≤ 99) ∧ t (314 + 5 * k) = 0) ∧ (∀ b h : Int, 0 ≤ b → b < 6 → 0 ≤ h → h < t (13 + b) → 1 ≤ t (313 + 5 * (8 * b + h))) ∧ (∀ k : Int, 9 ≤ k → k ≤ 12 → t k = 0)
theorem fwP.slow {t : Int → Int} (h : fwP t) {c v : Int} (hc : 0 ≤ c ∧ c ≤ 288) (hv : 0 ≤ v ∧ v ≤ 20) : fwP (updS t (20 + c) v) := by
  obtain ⟨h1, h2, h3, h4, h5, h6⟩ := h
  have ne : ∀ q : Int, q < 20 ∨ 309 ≤ q → updS t (20 + c) v q = t q := fun q hq => updS_ne _ _ (by omega)
  refine ⟨?_, fun b b0 b1 => ?_, fun k k0 k1 => ?_, fun k k0 k1 => ?_, fun b h b0 b1 i0 i1 => ?_, fun k k0 k1 => ?_⟩
  · rw [ne 0 (by omega), ne 1 (by omega), ne 2 (by omega), ne 3 (by omega), ne 4 (by omega), ne 5 (by omega)]
    exact h1
  · rw [ne _ (by omega)]
    exact h2 b b0 b1
  · by_cases e : k = c
    · rw [e, updS_eq]
      exact hv
    · rw [updS_ne _ _ (by omega)]
      exact h3 k k0 k1
  · rw [ne _ (by omega), ne _ (by omega), ne _ (by omega), ne _ (by omega), ne _ (by omega)]
    exact h4 k k0 k1
  · have q := h2 b b0 b1
    rw [ne (13 + b) (by omega)] at i1
    rw [ne _ (by omega)]
    exact h5 b h b0 b1 i0 i1
  · rw [ne _ (by omega)]
    exact h6 k k0 k1
theorem fwP.one {t : Int → Int} (h : fwP t) {p v : Int} (hp : 0 ≤ p ∧ p ≤ 5) (hv : (p = 0 → 0 ≤ v ∧ v ≤ 30) ∧ (p = 1 → 2 ≤ v ∧ v ≤ 8) ∧ (p = 2 → 1 ≤ v ∧ v ≤ 60) ∧ (p = 3 → 0 ≤ v ∧ v ≤ 99) ∧ (p = 4 → 0 ≤ v ∧ v ≤ 9) ∧ (p = 5 → 0 ≤ v ∧ v ≤ 8)) : fwP (updS t p v) := by
  obtain ⟨h1, h2, h3, h4, h5, h6⟩ := h
  have ne : ∀ q : Int, 6 ≤ q → updS t p v q = t q := fun q hq => updS_ne _ _ (by omega)
  refine ⟨?_, fun b b0 b1 => ?_, fun k k0 k1 => ?_, fun k k0 k1 => ?_, fun b h b0 b1 i0 i1 => ?_, fun k k0 k1 => ?_⟩
  · have e : p = 0 ∨ p = 1 ∨ p = 2 ∨ p = 3 ∨ p = 4 ∨ p = 5 := by omega
    rcases e with rfl | rfl | rfl | rfl | rfl | rfl <;> simp only [updS] <;> simp <;> simp at hv <;> omega
  · rw [ne _ (by omega)]
    exact h2 b b0 b1
  · rw [ne _ (by omega)]
    exact h3 k k0 k1
  · rw [ne _ (by omega), ne _ (by omega), ne _ (by omega), ne _ (by omega), ne _ (by omega)]
    exact h4 k k0 k1
  · have q := h2 b b0 b1
    rw [ne (13 + b) (by omega)] at i1
    rw [ne _ (by omega)]
    exact h5 b h b0 b1 i0 i1
  · rw [ne _ (by omega)]
    exact h6 k k0 k1
theorem fwP.hit {t : Int → Int} (H : fwP t) {b : Int} (hb : 0 ≤ b ∧ b < 6) (hc : t (13 + b) < 8) {w p r f : Int} (hw : 0 ≤ w ∧ w ≤ 15) (hp : 1 ≤ p ∧ p ≤ 9) (hr : 0 ≤ r ∧ r ≤ 8) (hf : 1 ≤ f ∧ f ≤ 99) : fwP (htU t b w p r f) := by
  have hcn := H.2.1.ht hb w p r f hc
  obtain ⟨h1, h2, h3, h4, h5, h6⟩ := H
  have c0 := h2 b hb.1 hb.2
  obtain ⟨K, hK⟩ : ∃ K, K = 8 * b + t (13 + b) := ⟨_, rfl⟩
  have vt : ∀ q : Int, htU t b w p r f q = if q = 13 + b then t (13 + b) + 1 else if q = 310 + 5 * K + 4 then 0 else if q = 310 + 5 * K + 3 then f else if q = 310 + 5 * K + 2 then r else if q = 310 + 5 * K + 1 then p else if q = 310 + 5 * K then w else t q := fun q => by
    unfold htU
    rw [← hK]
    rfl
  have ne : ∀ q : Int, q < 13 ∨ (19 ≤ q ∧ q < 310) → htU t b w p r f q = t q := fun q hq => by
    rw [vt, if_neg (by omega), if_neg (by omega), if_neg (by omega), if_neg (by omega), if_neg (by omega), if_neg (by omega)]
  refine ⟨?_, hcn, fun k k0 k1 => ?_, fun k k0 k1 => ?_, fun b' h b0 b1 i0 i1 => ?_, fun k k0 k1 => ?_⟩
  · rw [ne 0 (by omega), ne 1 (by omega), ne 2 (by omega), ne 3 (by omega), ne 4 (by omega), ne 5 (by omega)]
    exact h1
  · rw [ne _ (by omega)]
    exact h3 k k0 k1
  · have q := h4 k k0 k1
    rw [vt (310 + 5 * k), vt (311 + 5 * k), vt (312 + 5 * k), vt (313 + 5 * k), vt (314 + 5 * k)]
    by_cases e : k = K
    · subst e
      rw [if_neg (by omega), if_neg (by omega), if_neg (by omega), if_neg (by omega), if_neg (by omega), if_pos (by omega), if_neg (by omega), if_neg (by omega), if_neg (by omega), if_neg (by omega), if_pos (by omega), if_neg (by omega), if_neg (by omega), if_neg (by omega), if_pos (by omega), if_neg (by omega), if_neg (by omega), if_pos (by omega), if_neg (by omega), if_pos (by omega)]
      omega
    · rw [if_neg (by omega), if_neg (by omega), if_neg (by omega), if_neg (by omega), if_neg (by omega), if_neg (by omega), if_neg (by omega), if_neg (by omega), if_neg (by omega), if_neg (by omega), if_neg (by omega), if_neg (by omega), if_neg (by omega), if_neg (by omega), if_neg (by omega), if_neg (by omega), if_neg (by omega), if_neg (by omega), if_neg (by omega), if_neg (by omega), if_neg (by omega), if_neg (by omega), if_neg (by omega), if_neg (by omega), if_neg (by omega), if_neg (by omega), if_neg (by omega), if_neg (by omega), if_neg (by omega), if_neg (by omega)]
      exact q
  · rw [htU_cn hb w p r f ⟨c0.1, hc⟩ ⟨b0, b1⟩] at i1
    rw [vt, if_neg (by omega), if_neg (by omega)]
    by_cases e : 8 * b' + h = K
    · rw [if_pos (by omega)]
      omega
    · rw [if_neg (by omega), if_neg (by omega), if_neg (by omega), if_neg (by omega)]
      by_cases e2 : b' = b
      · rw [if_pos e2] at i1
        rw [e2] at e ⊢
        exact h5 b h hb.1 hb.2 i0 (by omega)
      · rw [if_neg e2] at i1
        exact h5 b' h b0 b1 i0 i1
  · rw [ne _ (by omega)]
    exact h6 k k0 k1
theorem slL_fw {B : Int → Int} {n v : Int} (hv : 0 ≤ v ∧ v ≤ 20) : ∀ (f : Nat) (a : Int) (t : Int → Int), 0 ≤ a ∧ a ≤ n → fwP t → fwP (slL B n v f a t).2.2.2
  | 0, a, t, _, h => h
  | f + 1, a, t, ha, h => by
    have nb := num_bd (B := B) (n := n) (lo := 0) (hi := 288) ha (by decide)
    simp only [slL]
    by_cases z : tkT B n a = 2
    · rw [if_pos z]
      by_cases z1 : (numT B n 0 288 a).1 ≠ 0
      · rw [if_pos z1]
        exact h
      · rw [if_neg z1]
        exact slL_fw hv f _ _ nb.1 (h.slow nb.2.1 hv)
    · rw [if_neg z]
      exact h
theorem slT_fw {B : Int → Int} {n a : Int} {t : Int → Int} (ha : 0 ≤ a ∧ a ≤ n) (h : fwP t) : fwP (slT B n a t).2.2.2 := by
  have b1 := tol_bd (B := B) (n := n) (lo := 0) (hi := 20) (w := 1) ha (by decide)
  have b2 := tol_bd (B := B) (n := n) (lo := 0) (hi := 288) (w := 7) b1.1 (by decide)
  unfold slT
  by_cases z1 : (tolT B n 1 0 20 a).1 ≠ 0
  · rw [if_pos z1]
    exact h
  · rw [if_neg z1]
    by_cases z2 : (tolT B n 7 0 288 (tolT B n 1 0 20 a).2.2.1).1 ≠ 0
    · rw [if_pos z2]
      exact h
    · rw [if_neg z2]
      exact slL_fw b1.2.1 802 _ _ b2.1 (h.slow b2.2.1 b1.2.1)
theorem hiT_fw {B : Int → Int} {n b a : Int} {t : Int → Int} (ha : 0 ≤ a ∧ a ≤ n) (hb : 0 ≤ b ∧ b < 6) (h : fwP t) (h0 : (hiT B n b a t).1 = 0) : fwP (hiT B n b a t).2.2.2 := by
  obtain ⟨y1, y2, w1, p1, r1, f1, q1, q2, q3, q4, y3⟩ := (hi_ok (B := B) (t := t) ha (h.2.1 b hb.1 hb.2)).2.2 h0
  rw [y3]
  exact h.hit hb y2 q1 q2 q3 q4
theorem baL_fw {B : Int → Int} {n b : Int} (hb : 0 ≤ b ∧ b < 6) : ∀ (f : Nat) (a : Int) (t : Int → Int), 0 ≤ a ∧ a ≤ n → fwP t → (baL B n b f a t).1 = 0 → fwP (baL B n b f a t).2.2.2
  | 0, a, t, _, h, _ => h
  | f + 1, a, t, ha, h, h0 => by
    have hi := hi_ok (B := B) (t := t) ha (h.2.1 b hb.1 hb.2)
    simp only [baL] at h0 ⊢
    by_cases w : isW B n 8 a
    · rw [if_pos w] at h0 ⊢
      by_cases z : (hiT B n b a t).1 ≠ 0
      · rw [if_pos z] at h0
        exact absurd h0 z
      · rw [if_neg z] at h0 ⊢
        exact baL_fw hb f _ _ hi.1 (hiT_fw ha hb h (by omega)) h0
    · rw [if_neg w]
      exact h
theorem baT_fw {B : Int → Int} {n a : Int} {t : Int → Int} (ha : 0 ≤ a ∧ a ≤ n) (h : fwP t) (h0 : (baT B n a t).1 = 0) : fwP (baT B n a t).2.2.2 := by
  have b1 := tol_bd (B := B) (n := n) (lo := 0) (hi := 5) (w := 0) ha (by decide)
  have hb : 0 ≤ (tolT B n 0 0 5 a).2.2.2 ∧ (tolT B n 0 0 5 a).2.2.2 < 6 := by omega
  have hi := hi_ok (B := B) (n := n) (t := t) b1.1 (h.2.1 _ hb.1 hb.2)
  unfold baT at h0 ⊢
  by_cases z1 : (tolT B n 0 0 5 a).1 ≠ 0
  · rw [if_pos z1] at h0
    exact absurd h0 z1
  · rw [if_neg z1] at h0 ⊢
    by_cases z : (hiT B n (tolT B n 0 0 5 a).2.2.2 (tolT B n 0 0 5 a).2.2.1 t).1 ≠ 0
    · rw [if_pos z] at h0
      exact absurd h0 z
    · rw [if_neg z] at h0 ⊢
      exact baL_fw hb 802 _ _ hi.1 (hiT_fw b1.1 hb h (by omega)) h0
theorem wh_bd (B : Int → Int) (n a : Int) : -1 ≤ whT B n a ∧ whT B n a ≤ 6 := by
  unfold whT
  repeat' split
  all_goals omega
theorem slL_0 {B : Int → Int} {n v : Int} : ∀ (f : Nat) (a : Int) (t : Int → Int), 0 ≤ a ∧ a ≤ n → (slL B n v f a t).2.2.2 0 = t 0
  | 0, a, t, _ => rfl
  | f + 1, a, t, ha => by
    have nb := num_bd (B := B) (n := n) (lo := 0) (hi := 288) ha (by decide)
    simp only [slL]
    by_cases z : tkT B n a = 2
    · rw [if_pos z]
      by_cases z1 : (numT B n 0 288 a).1 ≠ 0
      · rw [if_pos z1]
      · rw [if_neg z1, slL_0 f _ _ nb.1, updS_ne _ _ (by omega)]
    · rw [if_neg z]
theorem slT_0 {B : Int → Int} {n a : Int} {t : Int → Int} (ha : 0 ≤ a ∧ a ≤ n) : (slT B n a t).2.2.2 0 = t 0 := by
  have b1 := tol_bd (B := B) (n := n) (lo := 0) (hi := 20) (w := 1) ha (by decide)
  have b2 := tol_bd (B := B) (n := n) (lo := 0) (hi := 288) (w := 7) b1.1 (by decide)
  unfold slT
  by_cases z1 : (tolT B n 1 0 20 a).1 ≠ 0
  · rw [if_pos z1]
  · rw [if_neg z1]
    by_cases z2 : (tolT B n 7 0 288 (tolT B n 1 0 20 a).2.2.1).1 ≠ 0
    · rw [if_pos z2]
    · rw [if_neg z2, slL_0 802 _ _ b2.1, updS_ne _ _ (by omega)]
theorem htU_0 {t : Int → Int} {b : Int} (hb : 0 ≤ b ∧ b < 6) (hc : 0 ≤ t (13 + b)) (w p r f : Int) : htU t b w p r f 0 = t 0 := by
  unfold htU
  rw [updS_ne _ _ (by omega), updS_ne _ _ (by omega), updS_ne _ _ (by omega), updS_ne _ _ (by omega), updS_ne _ _ (by omega), updS_ne _ _ (by omega)]
theorem baL_0 {B : Int → Int} {n b : Int} (hb : 0 ≤ b ∧ b < 6) : ∀ (f : Nat) (a : Int) (t : Int → Int), 0 ≤ a ∧ a ≤ n → cnP t → (baL B n b f a t).1 = 0 → (baL B n b f a t).2.2.2 0 = t 0
  | 0, a, t, _, _, _ => rfl
  | f + 1, a, t, ha, h, h0 => by
    have hi := hi_ok (B := B) (t := t) ha (h b hb.1 hb.2)
    simp only [baL] at h0 ⊢
    by_cases w : isW B n 8 a
    · rw [if_pos w] at h0 ⊢
      by_cases z : (hiT B n b a t).1 ≠ 0
      · rw [if_pos z] at h0
        exact absurd h0 z
      · rw [if_neg z] at h0 ⊢
        obtain ⟨y1, y2, w1, p1, r1, f1, -, -, -, -, y3⟩ := hi.2.2 (by omega)
        have hc : cnP (hiT B n b a t).2.2.2 := by rw [y3]; exact h.ht hb _ _ _ _ y2
        rw [baL_0 hb f _ _ hi.1 hc h0, y3, htU_0 hb (h b hb.1 hb.2).1]
    · rw [if_neg w]
theorem baT_0 {B : Int → Int} {n a : Int} {t : Int → Int} (ha : 0 ≤ a ∧ a ≤ n) (h : cnP t) (h0 : (baT B n a t).1 = 0) : (baT B n a t).2.2.2 0 = t 0 := by
  have b1 := tol_bd (B := B) (n := n) (lo := 0) (hi := 5) (w := 0) ha (by decide)
  have hb : 0 ≤ (tolT B n 0 0 5 a).2.2.2 ∧ (tolT B n 0 0 5 a).2.2.2 < 6 := by omega
  have hi := hi_ok (B := B) (n := n) (t := t) b1.1 (h _ hb.1 hb.2)
  unfold baT at h0 ⊢
  by_cases z1 : (tolT B n 0 0 5 a).1 ≠ 0
  · rw [if_pos z1] at h0
    exact absurd h0 z1
  · rw [if_neg z1] at h0 ⊢
    by_cases z : (hiT B n (tolT B n 0 0 5 a).2.2.2 (tolT B n 0 0 5 a).2.2.1 t).1 ≠ 0
    · rw [if_pos z] at h0
      exact absurd h0 z
    · rw [if_neg z] at h0 ⊢
      obtain ⟨y1, y2, w1, p1, r1, f1, -, -, -, -, y3⟩ := hi.2.2 (by omega)
      have hc : cnP (hiT B n (tolT B n 0 0 5 a).2.2.2 (tolT B n 0 0 5 a).2.2.1 t).2.2.2 := by rw [y3]; exact h.ht hb _ _ _ _ y2
      rw [baL_0 hb 802 _ _ hi.1 hc h0, y3, htU_0 hb (h _ hb.1 hb.2).1]
theorem in_ok {B : Int → Int} {n a : Int} {t : Int → Int} (ha : 0 ≤ a ∧ a ≤ n) (h : fwP t) (hw : whT B n a ≠ -1) : (0 ≤ (inT B n a t).1 ∧ (inT B n a t).1 ≤ 5) ∧ (0 ≤ (inT B n a t).2.2.1 ∧ (inT B n a t).2.2.1 ≤ n) ∧ ((inT B n a t).1 = 0 → a < (inT B n a t).2.2.1 ∧ fwP (inT B n a t).2.2.2 ∧ (inT B n a t).2.2.2 0 = t 0) := by
  have wb := wh_bd B n a
  unfold inT
  by_cases z5 : whT B n a = 5
  · rw [if_pos z5]
    have s := sl_ok (B := B) (t := t) ha
    exact ⟨s.1, s.2.1, fun y => ⟨s.2.2 y, slT_fw ha h, slT_0 ha⟩⟩
  · rw [if_neg z5]
    by_cases z6 : whT B n a = 6
    · rw [if_pos z6]
      have s := ba_ok (B := B) ha h.2.1
      exact ⟨s.1, s.2.1, fun y => ⟨(s.2.2 y).1, baT_fw ha h y, baT_0 ha h.2.1 y⟩⟩
    · rw [if_neg z6]
      have eb := en_bd B ha.2
      have bb := bg_bd B ha.2
      have hl : lowT (whT B n a) ≤ topT (whT B n a) := by
        unfold lowT topT
        repeat' split
        all_goals omega
      have nb := num_bd (B := B) (n := n) (a := enT B n a) ⟨by omega, by omega⟩ hl
      unfold seT
      by_cases z1 : (numT B n (lowT (whT B n a)) (topT (whT B n a)) (enT B n a)).1 ≠ 0
      · rw [if_pos z1]
        exact ⟨nb.2.2.1, nb.1, fun y => absurd y z1⟩
      · rw [if_neg z1]
        have nz := nb.2.2.2 (by omega)
        refine ⟨⟨Int.le_refl 0, show (0 : Int) ≤ 5 by decide⟩, nb.1, fun _ => ⟨by dsimp only; omega, h.one ⟨by omega, by omega⟩ ?_, updS_ne _ _ (by omega)⟩⟩
        have nv := nb.2.1
        generalize (numT B n (lowT (whT B n a)) (topT (whT B n a)) (enT B n a)).2.2.2 = v at nv ⊢
        unfold lowT topT at nv
        repeat' split at nv
        all_goals omega
theorem li_ok {B : Int → Int} {n a : Int} {t : Int → Int} (ha : 0 ≤ a ∧ a ≤ n) (h : fwP t) : (0 ≤ (liT B n a t).1 ∧ (liT B n a t).1 ≤ 5) ∧ (0 ≤ (liT B n a t).2.2.1 ∧ (liT B n a t).2.2.1 ≤ n) ∧ ((liT B n a t).1 = 0 → a < (liT B n a t).2.2.1 ∧ fwP (liT B n a t).2.2.2 ∧ (liT B n a t).2.2.2 0 = t 0 + 1 ∧ t 0 < 30) := by
  have er : ∀ (x : Int) (t' : Int → Int), 0 ≤ x ∧ x ≤ n → (0 ≤ (rdE (erT B n 2 x 0) t').1 ∧ (rdE (erT B n 2 x 0) t').1 ≤ 5) ∧ (0 ≤ (rdE (erT B n 2 x 0) t').2.2.1 ∧ (rdE (erT B n 2 x 0) t').2.2.1 ≤ n) ∧ (rdE (erT B n 2 x 0) t').1 ≠ 0 := fun x t' hx => by
    unfold erT
    dsimp only [rdE]
    split <;> omega
  unfold liT
  by_cases z1 : whT B n a = -1
  · rw [if_pos z1]
    have e := er a t ha
    exact ⟨e.1, e.2.1, fun y => absurd y e.2.2⟩
  · rw [if_neg z1]
    by_cases z2 : t 0 = 30
    · rw [if_pos z2]
      exact ⟨⟨show (0 : Int) ≤ 4 by decide, show (4 : Int) ≤ 5 by decide⟩, ha, fun y => absurd y (show ¬ (4 : Int) = 0 by decide)⟩
    · rw [if_neg z2]
      have s := in_ok (B := B) ha h z1
      have h1 := h.1.1
      generalize inT B n a t = g at *
      unfold sgT
      by_cases z3 : g.1 ≠ 0
      · rw [if_pos z3]
        exact ⟨s.1, s.2.1, fun y => absurd y z3⟩
      · rw [if_neg z3]
        by_cases z4 : tkT B n g.2.2.1 ≠ 3
        · rw [if_pos z4]
          have e := er g.2.2.1 g.2.2.2 s.2.1
          exact ⟨e.1, e.2.1, fun y => absurd y e.2.2⟩
        · rw [if_neg z4]
          obtain ⟨s1, s2, s3⟩ := s.2.2 (by omega)
          have eb := en_bd B s.2.1.2
          have bb := bg_bd B s.2.1.2
          refine ⟨⟨Int.le_refl 0, show (0 : Int) ≤ 5 by decide⟩, ⟨by dsimp only; omega, eb.2.1⟩, fun _ => ⟨by dsimp only; omega, s2.one ⟨by omega, by omega⟩ ⟨fun _ => by omega, fun y => by omega, fun y => by omega, fun y => by omega, fun y => by omega, fun y => by omega⟩, ?_, by omega⟩⟩
          dsimp only
          rw [updS_eq, s3]
def spX11_begins : mSp := shR (fun fl x I Q => (x = some 205 ∨ x = some 201) ∧ Q (.inl none) (mSet (mSet (mSet (mSet (mSet I (x.getD 0) 1 8) (x.getD 0) 2 9) (x.getD 0) 3 20) (x.getD 0) 4 9) (x.getD 0) 5 1))
def SX11_begins : Nat → mSp := fun a => match a with
  | _ => fun _ _ _ _ => False
set_option maxRecDepth 100000 in
set_option maxHeartbeats 1000000 in
theorem vcX11_begins (fl : Nat → Bool) (avs : List mV) (I : mM) (Q : mO → mM → Prop) (hsp : spX11_begins fl avs I Q) : mVC0 SX11_begins fl Q kX11_begins 1 avs I := by
  obtain ⟨x, rfl, h0⟩ := shR_inv hsp
  refine ⟨rfl, ?_⟩
  show mWp _ _ _ _ _ _ kX11_begins_0 [some (mR x)] [] I
  obtain ⟨hx, h⟩ := h0
  rcases hx with rfl | rfl
  · simp only [false_and, and_false, true_or, or_true, false_or, or_false, true_and, and_true, true_implies, false_implies, implies_true, not_true_eq_false, not_false_eq_true, and_self, List.length_cons, List.length_nil, mNoCut_, mCat_n, mCat_I, mCat_L, mCat_R, mIsL_n, mIsL_I, mIsL_R, mIsL_L, Nat.reduceAdd, Nat.reduceSub, Nat.reduceLeDiff, Nat.reduceLT, Nat.reduceEqDiff, Nat.zero_le, Int.reduceEq, Int.reduceLT, Int.reduceLE, Int.reduceNeg, Int.reduceAdd, if_true, if_false, reduceIte, reduceCtorEq, Bool.false_eq_true, ne_eq, qCmp_0, qCmp_1, qCmp_2, qCmp_3, qCmp_4, qCmp_5, ib_0, ib_1, ib_2, lb_0, lb_1, lb_2, dv_0, dv_1, wq_ic, wq_ld_a, wq_astI, wq_astL, wq_ret0, wq_ret1, wq_ret2, wq_ret3, wq_ret4, ldR0, mrg_1_, mrg_8_, mrg_2_, mrg_9_, mrg_3_, mrg_20_, mrg_4_, mrg_5_, kX11_begins_0, mrg, mrl, mSet_ap, ncast, Option.some.injEq, sk_205, al_205, sn_205]
    (try simp only [mrg, mrl] at *) <;> repeat' (first | (with_reducible assumption) | (with_reducible apply And.intro) | intro _)
    all_goals first | omega | exact h | skip
  · simp only [false_and, and_false, true_or, or_true, false_or, or_false, true_and, and_true, true_implies, false_implies, implies_true, not_true_eq_false, not_false_eq_true, and_self, List.length_cons, List.length_nil, mNoCut_, mCat_n, mCat_I, mCat_L, mCat_R, mIsL_n, mIsL_I, mIsL_R, mIsL_L, Nat.reduceAdd, Nat.reduceSub, Nat.reduceLeDiff, Nat.reduceLT, Nat.reduceEqDiff, Nat.zero_le, Int.reduceEq, Int.reduceLT, Int.reduceLE, Int.reduceNeg, Int.reduceAdd, if_true, if_false, reduceIte, reduceCtorEq, Bool.false_eq_true, ne_eq, qCmp_0, qCmp_1, qCmp_2, qCmp_3, qCmp_4, qCmp_5, ib_0, ib_1, ib_2, lb_0, lb_1, lb_2, dv_0, dv_1, wq_ic, wq_ld_a, wq_astI, wq_astL, wq_ret0, wq_ret1, wq_ret2, wq_ret3, wq_ret4, ldR0, mrg_1_, mrg_8_, mrg_2_, mrg_9_, mrg_3_, mrg_20_, mrg_4_, mrg_5_, kX11_begins_0, mrg, mrl, mSet_ap, ncast, Option.some.injEq, sk_201, al_201, sn_201]
    (try simp only [mrg, mrl] at *) <;> repeat' (first | (with_reducible assumption) | (with_reducible apply And.intro) | intro _)
    all_goals first | omega | exact h | skip
theorem ctrX11_begins {l : Launch} (hst : l.stackTraces = false) (hT : mTxM l) : mCtr l calX11_begins spX11_begins :=
  mMet0 (T := TX11_begins) (S := SX11_begins) hst hT (by decide) okX11_begins ⟨_, _, rfl, rfl⟩ (fun a => mCtr_no) vcX11_begins

noncomputable def fiL (B : Int → Int) (n : Int) : Nat → Int → (Int → Int) → rdG
  | 0, a, t => (0, 0, a, t)
  | f + 1, a, t => if tkT B n a = 0 then (0, 0, a, t) else if (liT B n a t).1 ≠ 0 then liT B n a t else fiL B n f (liT B n a t).2.2.1 (liT B n a t).2.2.2
/-- a row before its text is read -/
def beT (q : Int) : Int := if q = 1 then 8 else if q = 2 then 9 else if q = 3 then 20 else if q = 4 then 9 else if q = 5 then 1 else 0
theorem beT_fw {t : Int → Int} (h : ∀ q : Int, 0 ≤ q → q < 550 → t q = beT q) : fwP t := by
  have ne : ∀ q : Int, 6 ≤ q → q < 550 → t q = 0 := fun q q0 q1 => by
    rw [h q (by omega) q1]
    unfold beT
    rw [if_neg (by omega), if_neg (by omega), if_neg (by omega), if_neg (by omega), if_neg (by omega)]
  refine ⟨?_, fun b b0 b1 => ?_, fun k k0 k1 => ?_, fun k k0 k1 => ?_, fun b h b0 b1 i0 i1 => ?_, fun k k0 k1 => ne k (by omega) (by omega)⟩
  · rw [h 0 (by omega) (by omega), h 1 (by omega) (by omega), h 2 (by omega) (by omega), h 3 (by omega) (by omega), h 4 (by omega) (by omega), h 5 (by omega) (by omega)]
    decide
  · rw [ne _ (by omega) (by omega)]
    omega
  · rw [ne _ (by omega) (by omega)]
    omega
  · rw [ne _ (by omega) (by omega), ne _ (by omega) (by omega), ne _ (by omega) (by omega), ne _ (by omega) (by omega), ne _ (by omega) (by omega)]
    omega
  · rw [ne _ (by omega) (by omega)] at i1
    omega
/-- the row behind a field that is read -/
def neR (t g : Int → Int) : Int → Int := fun q => if (0 ≤ q ∧ q ≤ 5) ∨ (9 ≤ q ∧ q < 550) then g q else if 550 ≤ q ∧ q < 595 ∧ (q - 550) % 5 = 0 then -1 else if 595 ≤ q ∧ q < 635 then 0 else t q
end SPM29
