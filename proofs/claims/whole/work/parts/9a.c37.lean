section SPC37
/-- the spare ground holds the row that is told so far, but for its lines -/
def grC (I : mM) (t : Int → Int) : Prop := (∀ k : Int, 1 ≤ k → k ≤ 5 → I 102 k = t k) ∧ (∀ c : Int, 0 ≤ c → c < 289 → I 105 c = t (20 + c)) ∧ (∀ b : Int, 0 ≤ b → b < 6 → I 106 b = t (13 + b)) ∧ (∀ b h : Int, 0 ≤ b → b < 6 → 0 ≤ h → h < t (13 + b) → I 107 (8 * b + h) = rawT t b h 0 ∧ I 108 (8 * b + h) = rawT t b h 1 ∧ I 109 (8 * b + h) = rawT t b h 2 ∧ I 110 (8 * b + h) = rawT t b h 3)
theorem grC.of {I J : mM} {t : Int → Int} (G : grC I t) (h2 : J 102 = I 102) (h5 : J 105 = I 105) (h6 : J 106 = I 106) (h7 : J 107 = I 107) (h8 : J 108 = I 108) (h9 : J 109 = I 109) (h0 : J 110 = I 110) : grC J t := by
  unfold grC at *
  rw [h2, h5, h6, h7, h8, h9, h0]
  exact G
theorem grC.hit {I J : mM} {t : Int → Int} {b w p r f : Int} (H : cnP t) (hb : 0 ≤ b ∧ b < 6) (hc : t (13 + b) < 8) (G : grC I t) (h2 : J 102 = I 102) (h5 : J 105 = I 105) (h6 : J 106 = I 106) (hA : ∀ A, 107 ≤ A → A ≤ 110 → ∀ q : Int, q ≠ 8 * b + t (13 + b) → J A q = I A q) (v7 : J 107 (8 * b + t (13 + b)) = w) (v8 : J 108 (8 * b + t (13 + b)) = p) (v9 : J 109 (8 * b + t (13 + b)) = r) (v0 : J 110 (8 * b + t (13 + b)) = f) : grC (mSet J 106 b (t (13 + b) + 1)) (htU t b w p r f) := by
  have c0 := H b hb.1 hb.2
  obtain ⟨K, hK⟩ : ∃ K, K = 8 * b + t (13 + b) := ⟨_, rfl⟩
  rw [← hK] at v7 v8 v9 v0 hA
  have vt : ∀ q : Int, htU t b w p r f q = if q = 13 + b then t (13 + b) + 1 else if q = 310 + 5 * K + 4 then 0 else if q = 310 + 5 * K + 3 then f else if q = 310 + 5 * K + 2 then r else if q = 310 + 5 * K + 1 then p else if q = 310 + 5 * K then w else t q := fun q => by
    unfold htU
    rw [← hK]
    rfl
  have ne : ∀ q : Int, q < 13 ∨ (19 ≤ q ∧ q < 310) → htU t b w p r f q = t q := fun q hq => by
    rw [vt, if_neg (by omega), if_neg (by omega), if_neg (by omega), if_neg (by omega), if_neg (by omega), if_neg (by omega)]
  refine ⟨fun k k0 k1 => ?_, fun c c0 c1 => ?_, fun b' b0 b1 => ?_, fun b' h b0 b1 i0 i1 => ?_⟩
  · rw [set_ne (by decide), h2, ne k (by omega)]
    exact G.1 k k0 k1
  · rw [set_ne (by decide), h5, ne _ (by omega)]
    exact G.2.1 c c0 c1
  · rw [htU_cn hb w p r f ⟨c0.1, hc⟩ ⟨b0, b1⟩]
    by_cases e : b' = b
    · rw [e, set_eq, if_pos rfl]
    · rw [set_nq e, if_neg e, h6]
      exact G.2.2.1 b' b0 b1
  · rw [htU_cn hb w p r f ⟨c0.1, hc⟩ ⟨b0, b1⟩] at i1
    rw [set_ne (by decide), set_ne (by decide), set_ne (by decide), set_ne (by decide)]
    unfold rawT
    by_cases e : 8 * b' + h = K
    · rw [e, v7, v8, v9, v0, vt, vt (310 + 5 * K + 1), vt (310 + 5 * K + 2), vt (310 + 5 * K + 3)]
      rw [if_neg (by omega), if_neg (by omega), if_neg (by omega), if_neg (by omega), if_neg (by omega), if_pos (by omega), if_neg (by omega), if_neg (by omega), if_neg (by omega), if_neg (by omega), if_pos rfl, if_neg (by omega), if_neg (by omega), if_neg (by omega), if_pos rfl, if_neg (by omega), if_neg (by omega), if_pos rfl]
      exact ⟨rfl, rfl, rfl, rfl⟩
    · have hh : h < t (13 + b') := by
        by_cases e2 : b' = b
        · rw [if_pos e2] at i1
          rw [e2] at e ⊢
          omega
        · rw [if_neg e2] at i1
          exact i1
      have cb := H b' b0 b1
      have q := G.2.2.2 b' h b0 b1 i0 hh
      unfold rawT at q
      rw [hA 107 (by decide) (by decide) _ e, hA 108 (by decide) (by decide) _ e, hA 109 (by decide) (by decide) _ e, hA 110 (by decide) (by decide) _ e]
      rw [vt, vt (310 + 5 * (8 * b' + h) + 1), vt (310 + 5 * (8 * b' + h) + 2), vt (310 + 5 * (8 * b' + h) + 3)]
      repeat rw [if_neg (by omega)]
      exact q
end SPC37
